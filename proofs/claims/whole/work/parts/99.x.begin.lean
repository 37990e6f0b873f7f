/-! the law's entry -/
def S_0 (L : Nat) (xs : Nat → Int32) : mj_S := ((SH L).take 6, fun i j => if i < 6 then mj_rc xs i j else 0, fun _ _ => 0, fun _ _ => none)
section WST
variable {L : Nat} {xs : Nat → Int32} {s : State} {b : Nat}
theorem S_0_z : zST L (fun i j => mj_rc xs i j) 6 [] (fun _ _ => false) (S_0 L xs) := by
  refine ⟨rfl, fun x hx => (by cases hx), fun i j hi => ?_, fun i j hi => ?_⟩
  · show (if i < 6 then mj_rc xs i j else 0) = _
    rw [if_neg (by omega)]; rfl
  · exact if_pos hi
theorem S_0_t : TBL (S_0 L xs) := by
  have h : ∀ i, i < 12 → (mj_rct.getD 0 []).getD i 0 = nI (tb LT i) ∧ (mj_rct.getD 1 []).getD i 0 = nI (tb LO i) ∧ (mj_rct.getD 2 []).getD i 0 = nI (tb HI i) ∧ (mj_rct.getD 3 []).getD i 0 = nI (tb US i) := by decide +kernel
  have h2 : ∀ i, i < 6 → (mj_rct.getD 4 []).getD i 0 = nI (tb LL i) := by decide +kernel
  exact ⟨fun i hi => h i hi, fun i hi => h2 i hi⟩
theorem S_0_w : mj_wf L xs (S_0 L xs) := by
  refine ⟨Nat.le_refl 6, fun i hi => ⟨?_, fun j => if_pos hi⟩, fun i h1 h2 => absurd h2 (Nat.not_lt.mpr h1), fun i j k h => (by cases h), fun i k c _ _ h => (by cases h), fun i j c _ h => (by cases h), fun i j hi => ⟨?_, rfl, rfl⟩⟩
  · have : i = 0 ∨ i = 1 ∨ i = 2 ∨ i = 3 ∨ i = 4 ∨ i = 5 := by omega
    rcases this with e | e | e | e | e | e <;> subst e <;> rfl
  · have hi' : 6 ≤ i := hi
    exact if_neg (by omega)
theorem st_kn (hts : ∀ w ∈ mj_T, w.before #[Value.ref b] s = true) : ∃ (dC : Nat → ClassId) (dI : Nat → Nat → Nat), ∀ (k : Nat) (q : vw_C), vwCl[k]? = some q → u_Kn s q.1 q.2.1 q.2.2 (dC k) (dI k) := by
  have one : ∀ {own : String} {index ci : Nat}, mj_cn own index ci → ∃ (c : ClassId) (i : Nat → Nat), ∀ q : vw_C, vwCl[ci]? = some q → u_Kn s q.1 q.2.1 q.2.2 c i := by
    intro own index ci h
    obtain ⟨C, T, N, ty0, h1, h2, h3, h4, h5, h6, h7, h8, h9⟩ := h
    obtain ⟨c, i, hk⟩ := u_known (C := C) (T := T) (N := N) (n := N) hts h2 (hts _ h7)
    refine ⟨c, i, fun q hq => ?_⟩
    rw [h1] at hq
    cases hq
    exact hk
  have all : ∀ k : Nat, ∃ (c : ClassId) (i : Nat → Nat), ∀ q : vw_C, vwCl[k]? = some q → u_Kn s q.1 q.2.1 q.2.2 c i := by
    intro k
    match k with
    | 0 => exact one cn_X10_65
    | 1 => exact one cn_X10_24
    | 2 => exact one cn_X10_31
    | 3 => exact one cn_X10_72
    | 4 => exact one cn_X10_58
    | 5 => exact one cn_X10_38
    | 6 => exact one cn_X10_17
    | 7 => exact one cn_X10_48
    | 8 => exact one cn_X10_79
    | 9 => exact one cn_L_8
    | 10 => exact one cn_L_16
    | k + 11 => exact ⟨0, fun _ => 0, fun q hq => by simp [vwCl] at hq⟩
  exact ⟨fun k => Classical.choose (all k), fun k => Classical.choose (Classical.choose_spec (all k)), fun k q h => Classical.choose_spec (Classical.choose_spec (all k)) q h⟩
theorem st_ac {ty : FieldType} (h : (Cond.arrayClass ty).before #[Value.ref b] s = true) (hn : ∀ C, ty ≠ .object C) : ∃ cA : ClassId, ArrOfT s cA ty ∧ va_RA s cA ty := by
  obtain ⟨cA, kA, comp, h1, h2, h3⟩ := Cond.arrayClass_spec h
  refine ⟨cA, fun n z => ⟨fun k h => (by cases h), kA, h2, comp, h3⟩, ?_⟩
  cases ty with
  | object C => exact absurd rfl (hn C)
  | _ => exact h1
theorem st_ao (h : (Cond.arrayOver (.array .int)).before #[Value.ref b] s = true) : ∃ cA : ClassId, ArrOfT s cA (.array .int) ∧ va_RA s cA (.array .int) := by
  obtain ⟨comp, c, k, h1, h2, h3, h4, h5⟩ := arrayOverA_spec h
  exact ⟨c, fun n z => ⟨fun k h => (by cases h), k, h3, comp, h4⟩, h5⟩
theorem st_nw (hts : ∀ w ∈ lw_tbl, w.before #[Value.ref b] s = true) : mj_nw s := by
  intro w hw
  have h1 := hts w (by unfold lw_tbl; exact List.mem_append_right _ (List.mem_filter.mp hw).1)
  have h2 := (List.mem_filter.mp hw).2
  cases w <;> first | exact h1 | exact absurd h2 (by simp [mj_isN])
theorem st_xf {A : Nat → Prop} (hts : ∀ w ∈ lw_tbl, w.before #[Value.ref b] s = true) (hgv : (Jvm.Cond.and given_1 narrow_1).before #[Value.ref b] s = true) (hA : ∀ a : Nat, a < s.heap.size → ¬ A a) : mj_xf A s s.heap := by
  have hs := flat_of_before _ hgv
  have hin : ∀ w ∈ mj_xn, w ∈ lw_tbl := by decide +kernel
  refine ⟨vx_Zqof (hts _ (by decide +kernel)) (hts _ (by decide +kernel)) (hs _ (by decide +kernel)) hA, vx_Zqof (hts _ (by decide +kernel)) (hts _ (by decide +kernel)) (hs _ (by decide +kernel)) hA, fun w hw => ?_⟩
  have h1 := hts w (hin w hw)
  have h2 := List.all_eq_true.mp mj_xn_ok w hw
  cases w <;> first | exact h1 | exact absurd h2 (by simp [mj_isC, mj_isD])
/-- a static table -/
theorem st_tab {n d : String} {ty : FieldType} {N : Nat} {f : Nat → Int32} {A : Nat → Prop} (hN : N < 2 ^ 31) (hl : (Cond.laysStatic "VelvetStates" n d).before #[Value.ref b] s = true) (hini : (Cond.initialized "VelvetStates").before #[Value.ref b] s = true) (harr : (Cond.arrayOf (.static "VelvetStates" n d) ty).before #[Value.ref b] s = true) (hlen : (Cond.eq (.length (.static "VelvetStates" n d)) (.int (Int32.ofNat N))).before #[Value.ref b] s = true) (hel : ∀ j : Nat, j < N → (Cond.eq (.elem (.static "VelvetStates" n d) (.int (Int32.ofNat j))) (.int (f j))).before #[Value.ref b] s = true) (hA : ∀ a : Nat, a < s.heap.size → ¬ A a) : ∃ t : Nat, va_Z "VelvetStates" n d (.ref t) A s s.heap ∧ va_T ty t N (fun j => .int (f j)) A s s.heap := by
  obtain ⟨t, h1, h2⟩ := va_Tof (f := fun j => .int (f j)) hN harr (va_eqt hlen) (fun j hj => va_eqt (hel j hj)) hA
  exact ⟨t, va_Zof hl hini h1 hA, h2⟩
theorem st_el {n d : String} {N : Nat} {l : List Int32} (h : ∀ j, j < N → Cond.eq (.elem (.static "VelvetStates" n d) (.int (Int32.ofNat j))) (.int (l.getD j 0)) ∈ flatC (Jvm.Cond.and given_1 narrow_1)) (hgv : (Jvm.Cond.and given_1 narrow_1).before #[Value.ref b] s = true) : ∀ j : Nat, j < N → (Cond.eq (.elem (.static "VelvetStates" n d) (.int (Int32.ofNat j))) (.int (l.getD j 0))).before #[Value.ref b] s = true := fun j hj => flat_of_before _ hgv _ (h j hj)
end WST
