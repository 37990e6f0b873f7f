/-! the law from its entry to its end, and the claim -/
set_option maxHeartbeats 4000000 in
theorem whole_start {p : Program} {e : Env} {s : State} {m : MethodId} {below : List Frame} {meth : Method} {c : Code} (l : Launch) (hlt : l.stackTraces = false) {b L : Nat} {xs : Nat → Int32} (hL : L ≤ 3072) (C0 : lw_At p s m meth c b L xs) : W p l e room_1 s m #[Value.ref b] below meth c s.heap [] 0 0 (lw_Z below #[Value.ref b] s) (entryFrame m ([Value.ref b] : List Value).toArray 7) := by
  obtain ⟨hx, hb, hr, hml, hown, hts, hX, hbl, hlocks, hgv⟩ := id C0
  have hA : ∀ a : Nat, a < s.heap.size → ¬ (fun q : Nat => s.heap.size ≤ q) a := fun a h => Nat.not_le.mpr h
  have htm : ∀ w ∈ mj_T, w.before #[Value.ref b] s = true := fun w hw => hts w (List.mem_filter.mp hw).1
  have hs := flat_of_before _ hgv
  obtain ⟨dC, dI, hKc⟩ := st_kn htm
  obtain ⟨c0, k0⟩ := st_ac (hts (.arrayClass .int) (by decide +kernel)) (fun C h => by cases h)
  obtain ⟨c1, k1⟩ := st_ac (hts (.arrayClass .boolean) (by decide +kernel)) (fun C h => by cases h)
  obtain ⟨c2, k2⟩ := st_ac (hts (.arrayClass .long) (by decide +kernel)) (fun C h => by cases h)
  obtain ⟨c3, k3⟩ := st_ao (hts (.arrayOver (.array .int)) (by decide +kernel))
  have hini : (Cond.initialized "VelvetStates").before #[Value.ref b] s = true := hts _ (by decide +kernel)
  obtain ⟨t0, z0, y0⟩ := st_tab (n := "ITEM_LETTER") (d := "[C") (ty := .char) (N := 12) (f := fun j => (mj_rct.getD 0 []).getD j 0) (by decide) (hts _ (by decide +kernel)) hini (hs _ (by decide +kernel)) (hs _ (by decide +kernel)) (st_el (by decide +kernel) hgv) hA
  obtain ⟨t1, z1, y1⟩ := st_tab (n := "ITEM_LEAST") (d := "[I") (ty := .int) (N := 12) (f := fun j => (mj_rct.getD 1 []).getD j 0) (by decide) (hts _ (by decide +kernel)) hini (hs _ (by decide +kernel)) (hs _ (by decide +kernel)) (st_el (by decide +kernel) hgv) hA
  obtain ⟨t2, z2, y2⟩ := st_tab (n := "ITEM_MOST") (d := "[I") (ty := .int) (N := 12) (f := fun j => (mj_rct.getD 2 []).getD j 0) (by decide) (hts _ (by decide +kernel)) hini (hs _ (by decide +kernel)) (hs _ (by decide +kernel)) (st_el (by decide +kernel) hgv) hA
  obtain ⟨t3, z3, y3⟩ := st_tab (n := "ITEM_WITHOUT") (d := "[I") (ty := .int) (N := 12) (f := fun j => (mj_rct.getD 3 []).getD j 0) (by decide) (hts _ (by decide +kernel)) hini (hs _ (by decide +kernel)) (hs _ (by decide +kernel)) (st_el (by decide +kernel) hgv) hA
  obtain ⟨t4, z4, y4⟩ := st_tab (n := "LAW_LETTER") (d := "[C") (ty := .char) (N := 6) (f := fun j => (mj_rct.getD 4 []).getD j 0) (by decide) (hts _ (by decide +kernel)) hini (hs _ (by decide +kernel)) (hs _ (by decide +kernel)) (st_el (by decide +kernel) hgv) hA
  obtain ⟨scr, x1, x2, x3, x4, x5⟩ := hX
  have y5 : va_T .int b L (fun j => .int (xs j)) (fun q : Nat => s.heap.size ≤ q) s s.heap := ⟨scr, x1, x2, x3, by omega, by rw [x4] <;> rfl, x5, hA b hbl⟩
  let ad : Nat → Nat := fun i => if i = 0 then t0 else if i = 1 then t1 else if i = 2 then t2 else if i = 3 then t3 else if i = 4 then t4 else b
  let dA : Nat → ClassId := fun i => if i = 0 then c0 else if i = 1 then c1 else if i = 2 then c2 else c3
  let G : mj_G := ((dC, dI), dA, L, xs)
  have hro : mj_ro L xs ad (fun q : Nat => s.heap.size ≤ q) s s.heap := by
    refine ⟨fun i hi => ?_, fun i hi => ?_⟩
    · have : i = 0 ∨ i = 1 ∨ i = 2 ∨ i = 3 ∨ i = 4 := by omega
      rcases this with e | e | e | e | e <;> subst e
      · exact z0
      · exact z1
      · exact z2
      · exact z3
      · exact z4
    · have : i = 0 ∨ i = 1 ∨ i = 2 ∨ i = 3 ∨ i = 4 ∨ i = 5 := by omega
      rcases this with e | e | e | e | e | e <;> subst e
      · exact y0
      · exact y1
      · exact y2
      · exact y3
      · exact y4
      · exact y5
  have hK : va_K (dC, dI) vwCl [(dA 0, .int), (dA 1, .boolean), (dA 2, .long), (dA 3, .array .int)] s := by
    refine ⟨hKc, fun k q h => ?_⟩
    match k, h with
    | 0, h => cases h; exact k0
    | 1, h => cases h; exact k1
    | 2, h => cases h; exact k2
    | 3, h => cases h; exact k3
    | k + 4, h => simp at h
  have w0 : mj_w0 G ad (S_0 L xs) (fun q : Nat => s.heap.size ≤ q) s s.heap := ⟨(fun k q h => by cases h), ⟨(fun i j p q h => by cases h), (fun k q h => by cases h)⟩, hK, S_0_w, st_nw hts⟩
  have hl := lv_entry ([.ref b]) (n := 7) (Nat.le_of_ble_eq_true rfl)
  rw [lg_entry_eq]
  generalize (lg_sl ([.ref b]) ++ List.replicate (7 - (lg_sl ([.ref b])).length) Slot.unset).toArray = ls at hl ⊢
  have hl : lv_has ls 7 [(0, .ref b)] := hl
  have X : mj_X G RL cL_law 7 (some .boolean) false [some (.ref 5), none, none, none, none, none, none] [] (S_0 L xs) p s m #[Value.ref b] meth c s.heap [] (fun q : Nat => s.heap.size ≤ q) ad ad (S_0 L xs).1 ls := by
    refine ⟨⟨hx, hb, hml, hown, htm⟩, ⟨hlocks, hr, fun h => (by cases h), fun x _ h => absurd h (by decide), fun _ h => absurd h (by decide)⟩, w0, ⟨va_S.rf, fun q h => h, hro⟩, ⟨List.prefix_refl _, Nat.le_refl 6, fun i _ => rfl⟩, fun v hv => (by cases hv), fun i v h => ?_, hl.1, hl.2.1, fun i v h => ?_⟩
    · match i, h with
      | 0, h => cases h; exact Nat.lt_succ_self 5
      | 1, h => cases h
      | 2, h => cases h
      | 3, h => cases h
      | 4, h => cases h
      | 5, h => cases h
      | 6, h => cases h
      | i + 7, h => cases h
    · match i, h with
      | 0, h => cases h; exact hl.2.2 (0, .ref b) (List.mem_cons_self ..)
      | 1, h => cases h
      | 2, h => cases h
      | 3, h => cases h
      | 4, h => cases h
      | 5, h => cases h
      | 6, h => cases h
      | i + 7, h => cases h
  have K : V_L_law_0 l G 5 (S_0 L xs) := law_start hlt hL S_0_z S_0_t
  have K2 := K p e s m #[Value.ref b] below meth c s.heap [] (fun q : Nat => s.heap.size ≤ q) ad ad (S_0 L xs).1 ls X
  exact mj_shrink (R' := mj_room 1312 601024 7293033) (by decide) (by decide) (Nat.le_refl _) (Nat.le_refl _) (mj_mono (fun t h => h (st_xf hts hgv hA) (fun q hq => hq)) K2)
