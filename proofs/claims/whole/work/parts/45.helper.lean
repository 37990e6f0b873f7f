/-! the law's helper: it calls what may throw, and catches -/
def mj_MW (l : Launch) (G : mj_G) (y : MethodName) (b : ByteArray) (nL : Nat) (rt : Option FieldType) (hh : List (Nat × Nat × Nat × Nat)) (d mc ms : Nat) (as : List Value) (S : mj_S) (Q : mj_S → Option Value → Prop) : Prop :=
  (∀ v ∈ as, mj_ok S v) → ∀ (ad : Nat → Nat) (sz : Nat), Met l y (Cond.codeWith y b nL rt hh :: mj_T) (mj_room d mc ms) (mj_PcX G as S ad sz) (mj_Qc G rt Q ad S.1 (va_A (mj_ws G.2.1 ad S) sz)) mc ms (va_A (mj_ws G.2.1 ad S) sz)
def mj_stw (G : mj_G) (rt : Option FieldType) (R : Room) (Q : mj_S → Option Value → Prop) : mj_Z := fun below args s A ad0 sh0 t => mj_xf A s s.heap → mj_std G rt R Q below args s A ad0 sh0 t
theorem mj_blindX {G : mj_G} {as : List Value} {S : mj_S} {ad : Nat → Nat} {sz : Nat} : FrameBlind (mj_PcX G as S ad sz) := by
  intro a U g mk q
  obtain ⟨h1, h2, h3, h4⟩ := q
  exact ⟨mj_blind a U g mk h1, vx_Zq.moved (u := U) (U := U.calling g mk a) (Vm.Alike.refl U.vm) h2, vx_Zq.moved (u := U) (U := U.calling g mk a) (Vm.Alike.refl U.vm) h3, mj_xn_same (u := U) (U := U.calling g mk a) rfl h4⟩
theorem mj_lp1 : Cond.classLink RL 13 mj_NSE ∈ mj_T := mj_in 1193 (by decide +kernel) (by decide +kernel)
theorem mj_lp2 : Cond.castable mj_NSE mj_NSE ∈ mj_xn := by decide +kernel
theorem mj_lp3 : Cond.codeWith yL_person cL_person 5 (some .int) [(0, 10, 13, 13)] ∈ mj_T := mj_in 1192 (by decide +kernel) (by decide +kernel)
theorem mj_lp4 : Cond.methodLink RL 46 yL_person ∈ mj_T := mj_in 1190 (by decide +kernel) (by decide +kernel)
theorem mj_lp5 : Cond.static yL_person ∈ mj_T := mj_in 1191 (by decide +kernel) (by decide +kernel)
theorem mj_lp6 : Cond.initialized RL ∈ mj_T := mj_in 125 (by decide +kernel) (by decide +kernel)
theorem mj_lp7 : mj_cal yX10_person cX10_person 3 (some .int) 2 := ⟨mj_in 1197 (by decide +kernel) (by decide +kernel), mj_in 126 (by decide +kernel) (by decide +kernel), ⟨by decide +kernel, by decide +kernel, by decide +kernel⟩, by decide⟩
theorem mj_lp8 : Cond.methodLink RL 7 yX10_person ∈ mj_T := mj_in 1194 (by decide +kernel) (by decide +kernel)
theorem mj_lp9 : Cond.instanceMethod yX10_person ∈ mj_T := mj_in 1195 (by decide +kernel) (by decide +kernel)
theorem mj_lp10 : Cond.selects yX10_person.cls yX10_person yX10_person ∈ mj_T := mj_in 1196 (by decide +kernel) (by decide +kernel)
section MJ17
variable {l : Launch} {G : mj_G} {R : Room} {own : String} {cc : ByteArray} {nL : Nat} {rt : Option FieldType} {ini : Bool} {pc : Nat} {ls : List (Option Value)} {st : List Value} {S : mj_S} {k n : Nat} {Q : mj_S → Option Value → Prop} {Zq : mj_Z}
variable {p : Program} {e : Env} {below : List Frame} {s : State} {m : MethodId} {args : Array Value} {meth : Method} {c : Code} {H : Heap} {locs : List Loc} {A : Nat → Prop} {ad ad0 : Nat → Nat} {sh0 : List (Nat × Nat)} {rls : Array Slot}
/-- the world behind a call -/
theorem mj_X.after {st1 : List Value} {S' : mj_S} {ad' : Nat → Nat} {H1 : Heap} {L : List Loc} (X : mj_X G own cc nL rt ini ls st1 S p s m args meth c H locs A ad ad0 sh0 rls) (hst : ∀ v ∈ st, mj_ok S' v) (hP : va_P G.1 vwCl (mj_ws G.2.1 ad' S') H1) (hD : va_D (va_A (mj_ws G.2.1 ad S) H.size) (mj_ws G.2.1 ad' S')) (hw : mj_wf G.2.2.1 G.2.2.2 S') (hpr : S.1 <+: S'.1) (hag : ∀ i, i < S.1.length → ad' i = ad i) (hL : ∀ q ∈ L, va_A (mj_ws G.2.1 ad S) H.size q.base) (hF1 : H.size ≤ H1.size) (hF2 : ∀ q : Nat, q < H.size → ¬ va_A (mj_ws G.2.1 ad S) H.size q → H1[q]? = H[q]?) : mj_X G own cc nL rt ini ls st S' p s m args meth c H1 (locs ++ L) A ad' ad0 sh0 rls := by
  have hA1 := mj_A1 X
  have hn' := hpr.length_le
  refine ⟨X.1, X.2.1, ⟨hP, hD.weaken (fun _ q _ h => hA1 q.1 h), X.hK, hw, X.hN⟩, ⟨⟨Nat.le_trans X.hS.1 hF1, fun q h1 h2 => ?_, fun q hq => ?_⟩, X.hA, X.hro.ad (fun i hi => hag i (Nat.lt_of_lt_of_le hi X.hw.1))⟩, ⟨X.2.2.2.2.1.1.trans hpr, X.2.2.2.2.1.2.1, fun i hi => (hag i (Nat.lt_of_lt_of_le hi X.2.2.2.2.1.1.length_le)).trans (X.2.2.2.2.1.2.2 i hi)⟩, hst, fun i w h => mj_ok_le hn' (X.hls i w h), X.hsz, X.hlw, fun i w h => ?_⟩
  · rw [hF2 q (Nat.lt_of_lt_of_le h1 X.hS.1) (fun z => h2 (hA1 q z))]
    exact X.hS.2.1 q h1 h2
  · rcases List.mem_append.mp hq with h | h
    · exact X.hS.2.2 q h
    · exact hA1 _ (hL q h)
  · rw [mj_cv_ag hag (X.hls i w h)]
    exact X.hlv i w h
set_option maxHeartbeats 1000000 in
theorem mj_callX {a0 a3 : Nat} {x1 x2 : Int32} {Q2 : mj_S → Int32 → Prop} {QX2 : mj_S → Prop} {Qi : mj_S → Int32 → Prop} (hk : m_kd S a0 = 9) (hM : mj_MX l G yX10_person cX10_person 3 (some .int) 8 1 6 [.ref a0, .int x1, .int x2] S (mj_qi Q2) QX2)
    (kk : ∀ (S' : mj_S) (r : Int32), Q2 S' r → S.1 <+: S'.1 → mj_V l G (mj_room 9 1 6) RL cL_person 5 (some .int) false 8 [some (.ref a0), some (.int x1), some (.int x2), some (.ref a3), none] [.int r, .int 0, .ref a3] S' 1 6 (mj_stw G (some .int) (mj_room 9 1 6) (mj_qi Qi)))
    (kx : ∀ S' : mj_S, QX2 S' → S.1 <+: S'.1 → Qi S' 1) : mj_V l G (mj_room 9 1 6) RL cL_person 5 (some .int) false 5 [some (.ref a0), some (.int x1), some (.int x2), some (.ref a3), none] [.int x2, .int x1, .ref a0, .int 0, .ref a3] S 0 0 (mj_stw G (some .int) (mj_room 9 1 6) (mj_qi Qi)) := by
  intro p e s m args below meth c H locs A ad ad0 sh0 rls X
  by_cases hxf : mj_xf A s s.heap
  · have hoks : ∀ v ∈ ([.ref a0, .int x1, .int x2] : List Value), mj_ok S v := fun v hv => X.hst v (by
      simp only [List.mem_cons, List.not_mem_nil, or_false] at hv ⊢
      rcases hv with h | h | h
      · exact Or.inr (Or.inr (Or.inl h))
      · exact Or.inr (Or.inl h)
      · exact Or.inl h)
    have hst : ∀ v ∈ ([.int 0, .ref a3] : List Value), mj_ok S v := fun v hv => X.hst v (List.mem_cons_of_mem _ (List.mem_cons_of_mem _ (List.mem_cons_of_mem _ hv)))
    have run := vx_runV (As := ([.int x1, .int x2] : List Value).map (mj_cv ad)) (rest := ([.int 0, .ref a3] : List Value).map (mj_cv ad)) (b := ad a0) (g := F0 m 5 rls (([.int x2, .int x1, .ref a0, .int 0, .ref a3] : List Value).map (mj_cv ad))) (p := p) (l := l) (e := e) (R := mj_room 9 1 6) (s := s) (m := m) (args := args) (below := below) (meth := meth) (c := c) (H := H) (locs := locs) (cells := 0) (slots := 0) (mj_fix X) (hM hoks ad H.size) (cwV 2 X.hts (by unfold wsV; exact mj_gw mj_lp7 (mj_l4 mj_lp8 mj_lp9 mj_lp10 mj_lp7.2.1)) rfl rfl rfl ⟨rfl, mj_lp7.2.2.1⟩ (mj_rmo (by decide) (by decide))) ⟨mj_blindX, mj_recv X (ci := 9) rfl (by decide) hk, fun U hU hW => ⟨X.pre [.ref a0, .int x1, .int x2] U hU hW, hxf.go X.hS (mj_A1 X) hW hU⟩⟩ rfl rfl X.hsz rfl (lv_room (Nat.le_of_ble_eq_true rfl)) dL_person_5 ⟨Nat.le_of_ble_eq_true rfl, Nat.le_of_ble_eq_true rfl⟩
    refine mj_mono (fun t h _ => h) ?_
    intro T hT XX
    rcases run T hT XX with ⟨v, st₀, t, T', L, h0, X', hL, e1, e2, ⟨⟨S', ad', v', hv, ⟨r, rfl, hQ⟩, hw', hpr, hag, hok, hnr⟩, hF1, hF2⟩, stp⟩ | ⟨q, st₀, t, T', L, E, ce, h0, X', hL, e1, e2, ⟨rfl, ⟨S', ad', hQ, ⟨hP', hD', hw'⟩, hpr, hag⟩, hF1, hF2⟩, hce, hcv, hcl, stp⟩
    · have hv' : v = some (.int r) := by cases hv; rfl
      subst hv'
      rw [h0] at hF1 hF2
      have hX := X.after (st := [.int r, .int 0, .ref a3]) (L := L) (H1 := T'.heap) (mj_okc trivial (fun w hw => mj_ok_le hpr.length_le (hst w hw))) (by rw [e1]; exact hw'.1) hw'.2.1 hw'.2.2.2.1 hpr hag hL (by rw [e1]; exact hF1) (fun z z1 z2 => by rw [e1]; exact hF2 z z1 z2)
      obtain ⟨t2, a1, b1⟩ := kk S' r hQ hpr p e s m args below meth c T'.heap (locs ++ L) A ad' ad0 sh0 rls hX T' rfl X'
      have hstk : ([.int r, .int 0, .ref a3] : List Value).map (mj_cv ad') = .int r :: ([.int 0, .ref a3] : List Value).map (mj_cv ad) := by
        show _ :: _ = _ :: _
        congr 1
        exact List.map_congr_left (fun w hw => mj_cv_ag hag (hst w hw))
      rw [hstk] at a1
      exact ⟨t2, stp t2 a1, b1 hxf⟩
    · rw [h0] at hF1 hF2
      have hX := X.after (st := []) (L := L) (H1 := T'.heap) (fun w hw => by cases hw) (by rw [e1]; exact hP') hD' hw' hpr hag hL (by rw [e1]; exact hF1) (fun z z1 z2 => by rw [e1]; exact hF2 z z1 z2)
      have hcatch := vx_catch (p := p) (l := l) (e := e) (R := mj_room 9 1 6) (s := s) (m := m) (args := args) (below := below) (meth := meth) (c := c) (H := T'.heap) (locs := locs ++ L) (cells := 0 + 1) (slots := 0 + 6) (Q := mj_std G (some .int) (mj_room 9 1 6) (mj_qi Qi) below args s A ad0 sh0) (pc := 5) (ls := rls) (rest := ([.int 0, .ref a3] : List Value).map (mj_cv ad)) (name := mj_NSE) (E := mj_NSE) (ce := ce) (q := q) X.hown [] ⟨0, 10, 13, 13⟩ [] (X.2.1.2.2.2.2 rfl rfl) (fun z hz => by cases hz) rfl (by decide) (X.hts _ mj_lp1) (va_Nw.use rfl (hxf.2.2 _ mj_lp2)) (by rw [e1]; exact hce) hcv hcl
        (lv_astore X.hx X.hb dL_person_13 X.lh (by decide) rfl (fun rls' h' => lv_iconst (v := 1) X.hx X.hb dL_person_15 (by decide) (W.iret X.hx X.hb X.2.1.2.1 (hX.qc (v := some (.int 1)) ⟨1, rfl, kx S' hQ hpr⟩ (fun y h => by cases h; exact trivial) rfl _) (fun z hz => hX.hS.2.2 z hz) dL_person_16 X.2.1.1)))
      obtain ⟨t2, a1, b1⟩ := hcatch T' rfl X'
      exact ⟨t2, stp.trans a1, b1⟩
  · exact mj_vac (fun t q => absurd q hxf)
end MJ17
/-- the law's end, where what throws is known -/
def mj_ly : mj_Z := fun below args s A ad0 sh0 t => mj_xf A s s.heap → mj_lz below args s A ad0 sh0 t
abbrev M_L_person (l : Launch) (G : mj_G) (a0 : Nat) (x1 x2 : Int32) (a3 : Nat) (S : mj_S) (Q : mj_S → Int32 → Prop) : Prop := mj_MW l G yL_person cL_person 5 (some .int) [(0, 10, 13, 13)] 9 1 6 [.ref a0, .int x1, .int x2, .ref a3] S (mj_qi Q)
section MJ18
variable {l : Launch} {G : mj_G} {R : Room} {cc : ByteArray} {nL : Nat} {rt : Option FieldType} {ini : Bool} {pc : Nat} {ls : List (Option Value)} {st : List Value} {S : mj_S} {k n : Nat} {own : String}
theorem mj_lrety {x : Int32} (hd : decode code pc = .ok (.ireturn, 1)) (h : x = 1) (hk : k ≤ 601024) (hn : n ≤ 7293033) : mj_V l G R own code nL (some .boolean) ini pc ls [.int x] S k n mj_ly := by
  intro p e s m args below meth c H locs A ad ad0 sh0 rls X
  exact mj_mono (fun t q _ => q) (mj_lret hd h hk hn p e s m args below meth c H locs A ad ad0 sh0 rls X)
theorem mj_callPi {as : List Value} {d K N : Nat} {Qj : mj_S → Int32 → Prop} (hd : decode cc pc = .ok (.invokestatic 46, 3)) (hM : mj_MW l G yL_person cL_person 5 (some .int) [(0, 10, 13, 13)] 9 1 6 as S (mj_qi Qj)) (hnp : as.length = 4) (hst : (st.map fun v => v.category).sum ≤ 8) (hdd : 9 + 1 ≤ d) (hck : k + 1 ≤ K ∧ n + 6 ≤ N)
    (kk : ∀ (S' : mj_S) (r : Int32), Qj S' r → mj_nr (some .int) (some (.int r)) → S.1 <+: S'.1 → mj_V l G (mj_room d K N) RL cc nL rt ini (pc + 3) ls (.int r :: st) S' (k + 1) (n + 6) mj_ly) : mj_V l G (mj_room d K N) RL cc nL rt ini pc ls (as.reverse ++ st) S k n mj_ly := by
  intro p e s m args below meth c H locs A ad ad0 sh0 rls X
  by_cases hxf : mj_xf A s s.heap
  · have hoks : ∀ v ∈ as, mj_ok S v := fun v hv => X.hst v (List.mem_append_left _ (List.mem_reverse.mpr hv))
    have hgood : GoodIn mj_T (va_wsS RL 46 yL_person (Cond.codeWith yL_person cL_person 5 (some .int) [(0, 10, 13, 13)] :: mj_T)) := by
      intro w hw
      have hm : w ∈ mj_T := by
        unfold va_wsS at hw
        rcases List.mem_append.mp hw with q | q
        · exact mj_l3 mj_lp4 mj_lp5 mj_lp6 w q
        · rcases List.mem_cons.mp q with e1 | e1
          · rw [e1]; exact mj_lp3
          · exact e1
      exact ⟨hm, good_of_word (List.mem_filter.mp hm).2⟩
    refine mj_goon (a := (as.map (mj_cv ad)).toArray) X (fun v hv => X.hst v (List.mem_append_right _ hv)) (vx_runSW (As := as.map (mj_cv ad)) (rest := st.map (mj_cv ad)) (mj_fix X) (hM hoks ad H.size) (vx_cwSW 4 X.hts hgood rfl rfl rfl ⟨by decide +kernel, by decide +kernel, by decide +kernel⟩ (mj_rmo hdd (by decide))) ⟨mj_blindX, fun U hU hW => ⟨X.pre as U hU hW, hxf.go X.hS (mj_A1 X) hW hU⟩⟩ rfl (by simpa using hnp) X.hsz (by simp) ?_ hd ⟨hck.1, hck.2⟩) (mj_ki kk)
    show 2 * 0 + _ ≤ 8
    rw [List.map_map, show ((fun v : Value => v.category) ∘ mj_cv ad) = (fun v : Value => v.category) from funext fun v => mj_cvc ad v]
    omega
  · exact mj_vac (fun t q => absurd q hxf)
theorem mj_stwr {Q : mj_S → Option Value → Prop} (kk : mj_V l G R own cc nL rt ini pc ls st S k n (mj_std G rt R Q)) : mj_V l G R own cc nL rt ini pc ls st S k n (mj_stw G rt R Q) := by
  intro p e s m args below meth c H locs A ad ad0 sh0 rls X
  exact mj_mono (fun t h _ => h) (kk p e s m args below meth c H locs A ad ad0 sh0 rls X)
end MJ18
theorem mj_enterW {l : Launch} {G : mj_G} {y : MethodName} {b : ByteArray} {nL r : Nat} {rt : Option FieldType} {d mc ms : Nat} {as : List Value} {S : mj_S} {Q : mj_S → Option Value → Prop} {ls : List (Option Value)} {hh : List (Nat × Nat × Nat × Nat)} (hy : plainName y.cls = true) (hhh : hh = [(0, 10, 13, 13)]) (hrl : y.cls = "VelvetStatesLaw") (hlen : ∀ ad, (lg_sl (as.map (mj_cv ad))).length ≤ nL) (hls : ls = mj_ent as ++ List.replicate r none)
    (kk : mj_V l G (mj_room d mc ms) RL b nL rt false 0 ls [] S 0 0 (mj_stw G rt (mj_room d mc ms) Q)) : mj_MW l G y b nL rt hh d mc ms as S Q := by
  intro hok ad sz
  refine va_MetW (cc := b) (maxL := nL) (ret := rt) (hh := hh) hy rfl ?_
  intro p e s m args below meth c s₁ B hml hv
  obtain ⟨⟨rfl, hsz, hw0, hro⟩, hxf⟩ := hv
  subst hsz
  have hts := atoms_spec (ws := Cond.codeWith y b nL rt hh :: mj_T) B.pre
  have hown : s.vm.findClass y.cls = some m.cls := findClass_of_methodNamed B.named
  have htab : c.exceptionTable.toList = tableOf [(0, 10, 13, 13)] := by rw [← hhh]; exact vx_table (x := y) B (hts _ List.mem_cons_self)
  have hown' : s.vm.findClass RL = some m.cls := by rw [show RL = y.cls from hrl.symm]; exact hown
  have hl := lv_entry (as.map (mj_cv ad)) (hlen ad)
  rw [lg_entry_eq]
  generalize (lg_sl (as.map (mj_cv ad)) ++ List.replicate (nL - (lg_sl (as.map (mj_cv ad))).length) Slot.unset).toArray = rls at hl ⊢
  have hin : ∀ (i : Nat) (v : Value), ls[i]? = some (some v) → (i, v) ∈ lv_args 0 as := by
    intro i v h
    rw [hls] at h
    have h2 : (mj_ent as)[i]? = some (some v) := by
      rcases Nat.lt_or_ge i (mj_ent as).length with q | q
      · rw [List.getElem?_append_left q] at h; exact h
      · rw [List.getElem?_append_right q] at h
        rcases Nat.lt_or_ge (i - (mj_ent as).length) r with q2 | q2
        · rw [List.getElem?_replicate, if_pos q2] at h; cases h
        · rw [List.getElem?_replicate, if_neg (by omega)] at h; cases h
    have := mj_ent_in as 0 i v h2
    rwa [Nat.zero_add] at this
  have hmem : ∀ (as : List Value) (i0 : Nat) (q : Nat × Value), q ∈ lv_args i0 as → q.2 ∈ as := by
    intro as
    induction as with
    | nil => intro i0 q h; cases h
    | cons w ws ih =>
      intro i0 q h
      unfold lv_args at h
      rcases List.mem_cons.mp h with e | e
      · rw [e]; exact List.mem_cons_self
      · exact List.mem_cons_of_mem _ (ih _ q e)
  refine mj_mono (fun t h => h hxf) (kk p e s m _ below meth c s.heap [] (va_A (mj_ws G.2.1 ad S) s.heap.size) ad ad S.1 rls ⟨⟨B.exec, B.bytes, hml, hown', fun w hw => hts w (List.mem_cons_of_mem _ hw)⟩, ⟨B.notSynchronized, B.returns, fun h => (by cases h), fun _ _ h => absurd h (by decide +kernel), fun _ _ => htab⟩, hw0, ⟨va_S.rf, fun q h => Or.inr h, hro⟩, ⟨List.prefix_rfl, hw0.2.2.2.1.1, fun _ _ => rfl⟩, fun v hv => (by cases hv), fun i v h => hok v (hmem as 0 _ (hin i v h)), hl.1, hl.2.1, fun i v h => ?_⟩)
  refine hl.2.2 (i, mj_cv ad v) ?_
  rw [mj_args_map]
  exact List.mem_map.mpr ⟨(i, v), hin i v h, rfl⟩
set_option maxHeartbeats 1000000 in
/-- the helper: 0 and the answer kept, or 1 -/
theorem m_L_person {l : Launch} {G : mj_G} {a0 a3 : Nat} {x1 x2 : Int32} {S : mj_S} {Q : mj_S → Int32 → Prop} (hk0 : m_kd S a0 = 9) (hk3 : m_kd S a3 = 102) (hM : mj_MX l G yX10_person cX10_person 3 (some .int) 8 1 6 [.ref a0, .int x1, .int x2] S (mj_qi (fun S' r => vp_in 0 (m_ln S' a3) ∧ Q (m_sl S' a3 (0 : Int32).toNatClampNeg r.toInt64) 0)) (fun S' => Q S' 1)) : M_L_person l G a0 x1 x2 a3 S Q := by
  refine mj_enterW (r := 1) (ls := [some (.ref a0), some (.int x1), some (.int x2), some (.ref a3), none]) (by decide +kernel) rfl rfl (fun _ => Nat.le_of_ble_eq_true rfl) rfl ?_
  refine mj_aload_n dL_person_0 rfl rfl ?_
  refine mj_iconst (v := 0) dL_person_1 (by decide) ?_
  refine mj_aload_n dL_person_2 rfl rfl ?_
  refine mj_iload_n dL_person_3 rfl rfl ?_
  refine mj_iload_n dL_person_4 rfl rfl ?_
  refine mj_callX hk0 hM (fun S' r h hp => ?_) (fun S' h _ => h)
  refine mj_i2l dL_person_8 ?_
  refine mj_last dL_person_9 (m_kd_pre hp hk3 (by decide)) ⟨h.1, ?_⟩
  refine mj_goto (tgt := 17) dL_person_10 (by decide) ?_
  refine mj_iconst (v := 0) dL_person_17 (by decide) ?_
  exact mj_stwr (mj_reti dL_person_18 rfl ⟨Nat.le_of_ble_eq_true rfl, Nat.le_of_ble_eq_true rfl⟩ h.2)
