/-! new int[4][240]: the rule -/
theorem mj_mT_1 (S : mj_S) : (mj_mT S).1 = S.1 ++ [(103, 4), (100, 240), (100, 240), (100, 240), (100, 240)] := by
  show ((((S.1 ++ [(103, 4)]) ++ [(100, 240)]) ++ [(100, 240)]) ++ [(100, 240)]) ++ [(100, 240)] = _
  simp
theorem mj_mT_lo (S : mj_S) {i : Nat} (h : i < S.1.length) : m_kd (mj_mT S) i = m_kd S i ∧ m_ln (mj_mT S) i = m_ln S i := by
  unfold m_kd m_ln
  rw [mj_mT_1, List.getD_eq_getElem?_getD, List.getElem?_append_left h, ← List.getD_eq_getElem?_getD]
  exact ⟨rfl, rfl⟩
theorem mj_mT_hi (S : mj_S) (j : Nat) : m_kd (mj_mT S) (S.1.length + j) = (([(103, 4), (100, 240), (100, 240), (100, 240), (100, 240)] : List (Nat × Nat)).getD j (999, 0)).1 ∧ m_ln (mj_mT S) (S.1.length + j) = (([(103, 4), (100, 240), (100, 240), (100, 240), (100, 240)] : List (Nat × Nat)).getD j (999, 0)).2 := by
  unfold m_kd m_ln
  rw [mj_mT_1, List.getD_eq_getElem?_getD, List.getElem?_append_right (by omega), Nat.add_sub_cancel_left, ← List.getD_eq_getElem?_getD]
  exact ⟨rfl, rfl⟩
theorem mj_mad_lo {ad r : Nat → Nat} {n q i : Nat} (h : i < n) : mj_mad ad n q r i = ad i := by
  unfold mj_mad
  rw [mj_adn_lt (by omega), mj_adn_lt (by omega), mj_adn_lt (by omega), mj_adn_lt (by omega), mj_adn_lt h]
theorem mj_mad_0 {ad r : Nat → Nat} {n q : Nat} : mj_mad ad n q r n = q := by
  unfold mj_mad
  rw [mj_adn_lt (by omega), mj_adn_lt (by omega), mj_adn_lt (by omega), mj_adn_lt (by omega), mj_adn_eq]
theorem mj_mad_s {ad r : Nat → Nat} {n q j : Nat} (h : j < 4) : mj_mad ad n q r (n + (1 + j)) = r j := by
  unfold mj_mad
  rcases (show j = 0 ∨ j = 1 ∨ j = 2 ∨ j = 3 by omega) with e | e | e | e
  · subst e; rw [mj_adn_lt (by omega), mj_adn_lt (by omega), mj_adn_lt (by omega)]; exact mj_adn_eq
  · subst e; rw [mj_adn_lt (by omega), mj_adn_lt (by omega)]; exact mj_adn_eq
  · subst e; rw [mj_adn_lt (by omega)]; exact mj_adn_eq
  · subst e; exact mj_adn_eq
theorem mj_mT_wf {L : Nat} {xs : Nat → Int32} {S : mj_S} (hw : mj_wf L xs S) : mj_wf L xs (mj_mT S) := by
  have w1 := hw.nw (k := 103) (n := 4) (Or.inr ⟨by omega, by omega⟩)
  have w2 := w1.nw (k := 100) (n := 240) (Or.inr ⟨by omega, by omega⟩)
  have w3 := w2.nw (k := 100) (n := 240) (Or.inr ⟨by omega, by omega⟩)
  have w4 := w3.nw (k := 100) (n := 240) (Or.inr ⟨by omega, by omega⟩)
  have w5 := w4.nw (k := 100) (n := 240) (Or.inr ⟨by omega, by omega⟩)
  have hl : (mj_mS S).1.length = S.1.length + 5 := by
    show (((((S.1 ++ [(103, 4)]) ++ [(100, 240)]) ++ [(100, 240)]) ++ [(100, 240)]) ++ [(100, 240)]).length = _
    simp
  have k0 : m_kd (mj_mS S) S.1.length = 103 := (mj_mT_hi S 0).1
  have k1 : m_kd (mj_mS S) (S.1.length + 1) = 100 := (mj_mT_hi S 1).1
  have k2 : m_kd (mj_mS S) (S.1.length + 2) = 100 := (mj_mT_hi S 2).1
  have k3 : m_kd (mj_mS S) (S.1.length + 3) = 100 := (mj_mT_hi S 3).1
  have k4 : m_kd (mj_mS S) (S.1.length + 4) = 100 := (mj_mT_hi S 4).1
  have no : ∀ T : mj_S, T.1 = (mj_mS S).1 → ¬ m_kd T S.1.length < 100 := fun T e q => by
    have : m_kd T S.1.length = 103 := by unfold m_kd; rw [e]; exact k0
    omega
  have v1 := mj_wf.sp (k := 0) w5 (a := S.1.length) (b := S.1.length + 1) (by show _ < (mj_mS S).1.length; omega) (by show _ < (mj_mS S).1.length; omega) (fun q => absurd q (no _ rfl)) (fun _ => k1)
  have v2 := mj_wf.sp (k := 1) v1 (a := S.1.length) (b := S.1.length + 2) (by show _ < (mj_mS S).1.length; omega) (by show _ < (mj_mS S).1.length; omega) (fun q => absurd q (no _ rfl)) (fun _ => k2)
  have v3 := mj_wf.sp (k := 2) v2 (a := S.1.length) (b := S.1.length + 3) (by show _ < (mj_mS S).1.length; omega) (by show _ < (mj_mS S).1.length; omega) (fun q => absurd q (no _ rfl)) (fun _ => k3)
  exact mj_wf.sp (k := 3) v3 (a := S.1.length) (b := S.1.length + 4) (by show _ < (mj_mS S).1.length; omega) (by show _ < (mj_mS S).1.length; omega) (fun q => absurd q (no _ rfl)) (fun _ => k4)
theorem mj_mT_ws {L : Nat} {xs : Nat → Int32} {dA : Nat → ClassId} {ad r : Nat → Nat} {S : mj_S} {q : Nat} {f : Nat → va_E} (hw : mj_wf L xs S) : mj_ws dA (mj_mad ad S.1.length q r) (mj_mT S) = (mj_ws dA ad S ++ [(q, .inl (dA 3, 4, .inr (.inr (.inr (.inr (fun i => if i < 4 then some (r i) else none))))))]) ++ va_pl ([] ++ (List.range 4).map r) (vr_up f ((List.range 4).map r) (.inl (dA 0, 240, .inl (fun _ => 0)))) := by
  have h6 := hw.1
  have hlen : (mj_mT S).1.length - 6 = (S.1.length - 6) + 1 + 1 + 1 + 1 + 1 := by rw [mj_mT_1]; simp; omega
  have lo : ∀ i, i < S.1.length → mj_ce dA (mj_mad ad S.1.length q r) (mj_mT S) i = mj_ce dA ad S i := by
    intro i hi
    have hp : ∀ j, (m_gp (mj_mT S) i j).map (mj_mad ad S.1.length q r) = (m_gp S i j).map ad := by
      intro j
      rw [mj_mT_gp, if_neg (by omega)]
      cases e : m_gp S i j with
      | none => rfl
      | some b => show some _ = some _; rw [mj_mad_lo (hw.2.2.2.1 i j b e)]
    have e3 : mj_fv (mj_mad ad S.1.length q r) (mj_mT S) i = mj_fv ad S i := by
      funext j
      unfold mj_fv
      rw [(mj_mT_lo S hi).1, hp j]
      rfl
    unfold mj_ce
    rw [(mj_mT_lo S hi).1, (mj_mT_lo S hi).2, e3]
    simp only [hp]
    rfl
  have c0 : mj_ce dA (mj_mad ad S.1.length q r) (mj_mT S) S.1.length = .inl (dA 3, 4, .inr (.inr (.inr (.inr (fun i => if i < 4 then some (r i) else none))))) := by
    rw [mj_ce_q (show m_kd (mj_mT S) S.1.length = 103 from (mj_mT_hi S 0).1), show m_ln (mj_mT S) S.1.length = 4 from (mj_mT_hi S 0).2]
    refine congrArg (fun z => (Sum.inl (dA 3, 4, .inr (.inr (.inr (.inr z)))) : va_E)) (funext fun j => ?_)
    rw [mj_mT_gp]
    by_cases hj : j < 4
    · rw [if_pos ⟨rfl, hj⟩, if_pos hj, Option.map_some, Nat.add_assoc, mj_mad_s hj]
    · rw [if_neg (fun z => hj z.2), if_neg hj, (hw.2.2.2.2.2.2 _ j (Nat.le_refl _)).2.2]
      rfl
  have cs : ∀ j, j < 4 → mj_ce dA (mj_mad ad S.1.length q r) (mj_mT S) (S.1.length + (1 + j)) = .inl (dA 0, 240, .inl (fun _ => 0)) := by
    intro j hj
    have hk : m_kd (mj_mT S) (S.1.length + (1 + j)) = 100 ∧ m_ln (mj_mT S) (S.1.length + (1 + j)) = 240 := by
      have := mj_mT_hi S (1 + j)
      rcases (show j = 0 ∨ j = 1 ∨ j = 2 ∨ j = 3 by omega) with e | e | e | e <;> subst e <;> exact this
    rw [mj_ce_i hk.1, hk.2]
    have : m_gi (mj_mT S) (S.1.length + (1 + j)) = fun _ => 0 := funext fun i => (hw.2.2.2.2.2.2 (S.1.length + (1 + j)) i (by omega)).1
    rw [this]
  have up : ∀ j, j < 4 → vr_up f ((List.range 4).map r) (.inl (dA 0, 240, .inl (fun _ => 0))) (r j) = .inl (dA 0, 240, .inl (fun _ => 0)) := fun j hj => vr_up_in (List.mem_map.mpr ⟨j, List.mem_range.mpr hj, rfl⟩)
  have hr : va_pl ([] ++ (List.range 4).map r) (vr_up f ((List.range 4).map r) (.inl (dA 0, 240, .inl (fun _ => 0)))) = [(r 0, .inl (dA 0, 240, .inl (fun _ => 0))), (r 1, .inl (dA 0, 240, .inl (fun _ => 0))), (r 2, .inl (dA 0, 240, .inl (fun _ => 0))), (r 3, .inl (dA 0, 240, .inl (fun _ => 0)))] := by
    show [(r 0, vr_up f _ _ (r 0)), (r 1, vr_up f _ _ (r 1)), (r 2, vr_up f _ _ (r 2)), (r 3, vr_up f _ _ (r 3))] = _
    rw [up 0 (by omega), up 1 (by omega), up 2 (by omega), up 3 (by omega)]
  rw [hr]
  unfold mj_ws
  rw [hlen, List.range_succ, List.range_succ, List.range_succ, List.range_succ, List.range_succ]
  simp only [List.map_append, List.map_cons, List.map_nil, List.append_assoc]
  congr 1
  · apply List.map_congr_left
    intro i hi
    have hi' := List.mem_range.mp hi
    rw [mj_mad_lo (by omega), lo (i + 6) (by omega)]
  · have a0 : S.1.length - 6 + 6 = S.1.length := by omega
    have a1 : S.1.length - 6 + 1 + 6 = S.1.length + (1 + 0) := by omega
    have a2 : S.1.length - 6 + 1 + 1 + 6 = S.1.length + (1 + 1) := by omega
    have a3 : S.1.length - 6 + 1 + 1 + 1 + 6 = S.1.length + (1 + 2) := by omega
    have a4 : S.1.length - 6 + 1 + 1 + 1 + 1 + 6 = S.1.length + (1 + 3) := by omega
    rw [a0, a1, a2, a3, a4, c0, cs 0 (by omega), cs 1 (by omega), cs 2 (by omega), cs 3 (by omega), mj_mad_0, mj_mad_s (by omega), mj_mad_s (by omega), mj_mad_s (by omega), mj_mad_s (by omega)]
    rfl
section MJ31
variable {l : Launch} {G : mj_G} {R : Room} {cc : ByteArray} {nL : Nat} {rt : Option FieldType} {ini : Bool} {pc : Nat} {ls : List (Option Value)} {st : List Value} {S : mj_S} {k n : Nat} {Q : mj_Z}
theorem mj_mna (hd : decode cc pc = .ok (.multianewarray 18 2, 4)) (hcells : k + 5 ≤ R.cells) (hslots : n + 964 ≤ R.slots) (kk : mj_V l G R RX2 cc nL rt ini (pc + 4) ls (.ref S.1.length :: st) (mj_mT S) (k + 5) (n + 964) Q) : mj_V l G R RX2 cc nL rt ini pc ls (.int 240 :: .int 4 :: st) S k n Q := by
  intro p e s m args below meth c H locs A ad ad0 sh0 rls X
  have hcy : s.vm.findClass (FieldType.array .int).toString = some (G.2.1 0) := (X.hK.2 0 _ rfl).2
  refine va_mna (X := mj_ws G.2.1 ad S) (L := []) (f := fun _ => .inl (G.2.1 0, 0, .inl (fun _ => 0))) (N' := 4) (K' := 240) (z := (240, .inl (fun _ => 0))) (ty := .int) (own := RX2) (index := 18) X.hx X.hb X.hown (X.hts _ mj_ao3) (X.hN _ mj_ao1) (X.hts _ mj_ao2) hcy X.hK (by rw [show va_pl [] (fun _ => (.inl (G.2.1 0, 0, .inl (fun _ => 0)) : va_E)) = [] from rfl, List.append_nil]; exact X.hP) (by rw [show va_pl [] (fun _ => (.inl (G.2.1 0, 0, .inl (fun _ => 0)) : va_E)) = [] from rfl, List.append_nil]; exact X.hD) X.hS X.hA (by decide) (by decide) (by decide) (by decide) (by decide) (by decide) (by decide) rfl rfl (by show k + 5 ≤ _; exact hcells) (by show n + 964 ≤ _; exact hslots) (fun c => ?_) hd (fun q r cA H1 _ _ hK1 hP hD hS => ?_)
  · exact arrV_new c 240 (.int 0)
  · have e1 : cA = G.2.1 3 := by
      have a1 : s.vm.findClass ("[" ++ (FieldType.array .int).toString) = some cA := (hK1.2 4 _ rfl).2
      have a2 : s.vm.findClass ("[" ++ (FieldType.array .int).toString) = some (G.2.1 3) := (X.hK.2 3 _ rfl).2
      exact Option.some.inj (a1.symm.trans a2)
    subst e1
    have hws := mj_mT_ws (dA := G.2.1) (ad := ad) (r := r) (q := q) (f := fun _ => .inl (G.2.1 0, 0, .inl (fun _ => 0))) X.hw
    have hle : S.1.length ≤ (mj_mT S).1.length := by rw [mj_mT_1]; simp
    have hlt : S.1.length < (mj_mT S).1.length := by rw [mj_mT_1]; simp
    have hst0 : ∀ v ∈ st, mj_ok S v := mj_okt (mj_okt X.hst)
    have hag : ∀ i, i < S.1.length → mj_mad ad S.1.length q r i = ad i := fun i hi => mj_mad_lo hi
    have X' := X.grow (st := .ref S.1.length :: st) (S' := mj_mT S) (ad' := mj_mad ad S.1.length q r) (mj_okc hlt (fun v hv => mj_ok_le hle (hst0 v hv))) (by rw [hws]; exact hP) (by rw [hws]; exact hD) (mj_mT_wf X.hw) (by rw [mj_mT_1]; exact List.prefix_append _ _) hag hS
    have K := kk p e s m args below meth c H1 locs A _ ad0 sh0 rls X'
    have hs : (.ref S.1.length :: st : List Value).map (mj_cv (mj_mad ad S.1.length q r)) = .ref q :: st.map (mj_cv ad) := by
      show Value.ref _ :: _ = _
      rw [mj_mad_0, List.map_congr_left (fun w hw => mj_cv_ag hag (hst0 w hw))]
    rw [hs] at K
    exact K
end MJ31
