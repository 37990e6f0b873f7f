/-! the class: what is asked of squares -/
theorem fi32 {a : Int32} {P : Int32 → Prop} : (∀ v : Int32, v = a → P v) = P a := propext ⟨fun h => h a rfl, fun h v e => by rw [e]; exact h⟩
theorem i10 : ((1 : Int32) = 0) = False := eq_false (by decide)
theorem i00 : ((0 : Int32) = 0) = True := eq_true rfl
theorem lz0 : (0 : Int32).toNatClampNeg = 0 := by decide
theorem lz1 : (1 : Int32).toNatClampNeg = 1 := by decide
theorem gtF {n c : Nat} (hc : c < n) (hn : n < 2 ^ 31) : (nI n ≤ nI c) = False := eq_false (nI_ge hc hn)
theorem geT {n : Nat} (hn : n < 2 ^ 31) : (nI n ≤ nI n) = True := eq_true (nI_le (Nat.le_refl n) hn)
theorem nI_eqI {a b : Nat} (ha : a < 2 ^ 31) (hb : b < 2 ^ 31) : (nI a = nI b) = (a = b) := propext (nI_eq ha hb)
theorem nI_e0 {a : Nat} (ha : a < 2 ^ 31) : (nI a = 0) = (a = 0) := propext ⟨fun q => (nI_eq ha (by omega)).mp (q.trans nI_0.symm), fun q => by rw [q]; rfl⟩
def bo (R : rm) (s : sc) (X : Int32) (c : Nat) : Bool := bt (hg R s) c && (bt X (r_nr R c) != bt X (r_fr R c))
def be (R : rm) (q c : Nat) : Bool := decide (r_nr R c = q) || decide (r_fr R c = q)
def ri (R : rm) (X : Int32) (c : Nat) : Bool := bt X (r_nr R c) || bt X (r_fr R c)
def we (R : rm) (s : sc) (n c : Nat) : Bool := bt (hg R s) c && decide (n ≤ r_gp R c)
section C2
variable {l : Launch} {G : mj_G} {L r x rs : Nat} {R : rm} {s : sc} {S : mj_S}
theorem hg_in (hR : r_wf R) : cp_in (hg R s) (r_nc R) := bs_in _ (by have := hR.nc; omega)
theorem s_hasRoom {Q : mj_S → Int32 → Prop} (C : CI L S r x rs R s) (h1 : 0 < r_n R → Q S 1) (h0 : r_n R = 0 → Q S 0) : M_X10_hasRoom l G 6 S Q := by
  have hn := C.rw.n
  refine e_X10_hasRoom (b_X10_hasRoom_0 C.sh.k6 ⟨r, C.p, fun q => ?_, fun q => ?_⟩)
  · rw [C.rc.n] at q
    exact h0 (by have := (nI_leI (b := 0) (by omega) (by omega)).mp q; omega)
  · rw [C.rc.n] at q
    exact h1 (Nat.pos_of_ne_zero fun z => q (by rw [z]; decide))
theorem s_cix {n : Nat} {x1 : Int32} {A B : Prop} (hn : n < 2 ^ 31) (h1 : ∀ q, ixn n x1 = some q → A) (h0 : ixn n x1 = none → B) : (x1 < 0 → B) ∧ (¬ x1 < 0 → (nI n ≤ x1 → B) ∧ (¬ nI n ≤ x1 → A)) := by
  refine ⟨fun q => h0 (ixn_neg q), fun q => ⟨fun q2 => h0 (ixn_big hn q2), fun q2 => ?_⟩⟩
  obtain ⟨j, hj, _⟩ := ixn_mid hn q q2
  exact h1 j hj
theorem s_isSquare {x1 : Int32} {Q : mj_S → Int32 → Prop} (C : CI L S r x rs R s) (h1 : ∀ q, ixn (r_n R) x1 = some q → Q S 1) (h0 : ixn (r_n R) x1 = none → Q S 0) : M_X10_isSquare l G 6 x1 S Q := by
  refine e_X10_isSquare (b_X10_isSquare_0 C.sh.k6 ?_)
  have hn := C.rw.n
  have := s_cix (B := Q S 0) (show r_n R < 2 ^ 31 by omega) h1 h0
  rw [← C.rc.n] at this
  exact ⟨this.1, fun q => ⟨r, C.p, this.2 q⟩⟩
theorem s_isCurtain {x1 : Int32} {Q : mj_S → Int32 → Prop} (C : CI L S r x rs R s) (h1 : ∀ q, ixn (r_nc R) x1 = some q → Q S 1) (h0 : ixn (r_nc R) x1 = none → Q S 0) : M_X10_isCurtain l G 6 x1 S Q := by
  refine e_X10_isCurtain (b_X10_isCurtain_0 C.sh.k6 ?_)
  have hn := C.rw.nc
  have := s_cix (B := Q S 0) (show r_nc R < 2 ^ 31 by omega) h1 h0
  rw [← C.rc.nc] at this
  exact ⟨this.1, fun q => ⟨r, C.p, this.2 q⟩⟩
theorem s_isPerson {x1 : Int32} {Q : mj_S → Int32 → Prop} (C : CI L S r x rs R s) (h1 : ∀ q, ixn (r_np R) x1 = some q → Q S 1) (h0 : ixn (r_np R) x1 = none → Q S 0) : M_X10_isPerson l G 6 x1 S Q := by
  refine e_X10_isPerson (b_X10_isPerson_0 C.sh.k6 ?_)
  have hn := C.rw.np
  have := s_cix (B := Q S 0) (show r_np R < 2 ^ 31 by omega) h1 h0
  rw [← C.rc.np] at this
  exact ⟨this.1, fun q => ⟨r, C.p, this.2 q⟩⟩
theorem bt_n0 {X : Int32} {q : Nat} (h : bt X q = true) : ¬ X = 0 := fun e => by rw [e, b_0] at h; cases h
theorem s_lowest {X : Int32} {Q : mj_S → Int32 → Prop} (h : X ≠ 0) (hq : Q S (nz X)) : M_X10_lowest l G X S Q :=
  e_X10_lowest (b_X10_lowest_0 ⟨fun _ => s_nz hq, fun z => absurd z h⟩)
theorem st_n0 {q : Nat} (hR : r_wf R) (hq : q < r_n R) : st R s q ≠ 0 := bt_n0 (jn_self hR _ hq)
theorem st_in {q : Nat} (hR : r_wf R) (hq : q < r_n R) : cp_in (st R s q) (r_n R) := jn_in hR _ (on_in hq (by have := hR.n; omega))
/-! the answers -/
def A_state (R : rm) (s : sc) (x : Int32) : Int32 := match ixn (r_n R) x with
  | none => -1
  | some q => nz (st R s q)
def A_lord (R : rm) (s : sc) (x : Int32) : Int32 := match ixn (r_n R) x with
  | none => -1
  | some q => oI (lo R s (st R s q) (r_np R))
def A_borders (R : rm) (s : sc) (x : Int32) : Int32 := match ixn (r_n R) x with
  | none => -1
  | some q => bs (r_nc R) (bo R s (st R s q))
def A_touch (R : rm) (s : sc) (x y : Int32) : Int32 := match ixn (r_n R) x, ixn (r_n R) y with
  | some a, some b => if st R s a = st R s b then 0 else if (bs (r_nc R) (bo R s (st R s a)) &&& bs (r_nc R) (bo R s (st R s b))) = 0 then 0 else 1
  | _, _ => -1
theorem c_state {x1 : Int32} {Q : mj_S → Int32 → Prop} (C : CI L S r 50 rs R s) (h : ∀ S', fr DC S S' → Q S' (A_state R s x1)) : M_X10_state l G 6 x1 S Q := by
  have hn := C.rw.n
  unfold A_state at h
  refine e_X10_state (b_X10_state_0 C.sh.k6 (s_isSquare C (fun q e => ?_) (fun e => ?_)))
  · obtain ⟨hq, ex⟩ := ixn_some (by omega) e
    rw [e] at h
    try simp only [Option.some.injEq, exists_eq_left', fi32, i10, i00, false_implies, true_implies, not_false_eq_true, not_true_eq_false, true_and, and_true, nI_1, lz0, lz1, ix0, ix11, ix2]
    rw [ex]
    exact s_stateAround C (fun S' f _ => s_lowest (st_n0 C.rw hq) (h S' f))
  · rw [e] at h
    try simp only [Option.some.injEq, exists_eq_left', fi32, i10, i00, false_implies, true_implies, not_false_eq_true, not_true_eq_false, true_and, and_true, nI_1, lz0, lz1, ix0, ix11, ix2]
    exact h S fr.rf
theorem c_lord {x1 : Int32} {Q : mj_S → Int32 → Prop} (C : CI L S r 50 rs R s) (h : ∀ S', fr DC S S' → Q S' (A_lord R s x1)) : M_X10_lord l G 6 x1 S Q := by
  have hn := C.rw.n
  unfold A_lord at h
  refine e_X10_lord (b_X10_lord_0 C.sh.k6 (s_isSquare C (fun q e => ?_) (fun e => ?_)))
  · obtain ⟨hq, ex⟩ := ixn_some (by omega) e
    rw [e] at h
    try simp only [Option.some.injEq, exists_eq_left', fi32, i10, i00, false_implies, true_implies, not_false_eq_true, not_true_eq_false, true_and, and_true, nI_1, lz0, lz1, ix0, ix11, ix2]
    rw [ex]
    exact s_stateAround C (fun S' f _ => s_lordIn (C.fr f) (h S' f))
  · rw [e] at h
    try simp only [Option.some.injEq, exists_eq_left', fi32, i10, i00, false_implies, true_implies, not_false_eq_true, not_true_eq_false, true_and, and_true, nI_1, lz0, lz1, ix0, ix11, ix2]
    exact h S fr.rf
theorem s_bordersOf {X : Int32} {Q : mj_S → Int32 → Prop} (C : CI L S r 50 rs R s) (h : Q S (bs (r_nc R) (bo R s X))) : M_X10_bordersOf l G 6 X S Q := by
  have nc := C.rw.nc
  have hn := C.rw.n
  refine e_X10_bordersOf (b_X10_bordersOf_0 C.sh.k6 ⟨50, C.sh.p6_7, s_hung C ?_⟩)
  refine dn (P := fun c => V_X10_bordersOf_13 l G 6 X (hg R s) (bs c (bo R s X)) (nI c) S Q) (r_nc R) ?_ ?_
  · refine b_X10_bordersOf_13 C.sh.k6 ?_
    try simp only [Option.some.injEq, exists_eq_left', fi32, i10, i00, false_implies, true_implies, not_false_eq_true, not_true_eq_false, true_and, and_true, nI_1, lz0, lz1, ix0, ix11, ix2, C.p, C.sh.p6_0, C.sh.p6_4, C.sh.p6_7, C.sh.p6_8, C.sh.p6_9, C.sh.p6_10, C.sh.p6_11, C.sh.p6_12, C.sh.p6_13, C.sh.p50_1, C.sh.p50_2, C.sh.l60, C.sh.l61, C.rc.w, C.rc.h, C.rc.li, C.rc.mo, C.rc.n, C.rc.nc, C.rc.np, C.sh.rp8 C.irm, C.sh.rl8 C.irm, C.sh.rp9 C.irm, C.sh.rl9 C.irm, C.sh.rp10 C.irm, C.sh.rl10 C.irm, C.sh.rp11 C.irm, C.sh.rl11 C.irm, C.sh.rp12 C.irm, C.sh.rl12 C.irm, C.sh.rp16 C.irm, C.sh.rl16 C.irm, geT (show r_nc R < 2 ^ 31 by omega)]
    exact h
  · intro c hc ih
    have h1 := C.rw.nr hc
    have h2 := C.rw.fr hc
    have hin : vp_in (nI c) 10 := vp_nI (by omega) (by omega)
    refine b_X10_bordersOf_13 C.sh.k6 ?_
    try simp only [Option.some.injEq, exists_eq_left', fi32, i10, i00, false_implies, true_implies, not_false_eq_true, not_true_eq_false, true_and, and_true, nI_1, lz0, lz1, ix0, ix11, ix2, C.p, C.sh.p6_0, C.sh.p6_4, C.sh.p6_7, C.sh.p6_8, C.sh.p6_9, C.sh.p6_10, C.sh.p6_11, C.sh.p6_12, C.sh.p6_13, C.sh.p50_1, C.sh.p50_2, C.sh.l60, C.sh.l61, C.rc.w, C.rc.h, C.rc.li, C.rc.mo, C.rc.n, C.rc.nc, C.rc.np, C.sh.rp8 C.irm, C.sh.rl8 C.irm, C.sh.rp9 C.irm, C.sh.rl9 C.irm, C.sh.rp10 C.irm, C.sh.rl10 C.irm, C.sh.rp11 C.irm, C.sh.rl11 C.irm, C.sh.rp12 C.irm, C.sh.rl12 C.irm, C.sh.rp16 C.irm, C.sh.rl16 C.irm, gtF hc (show r_nc R < 2 ^ 31 by omega)]
    refine s_has (by omega) (fun hb => ?_) (fun hb => ?_)
    · try simp only [Option.some.injEq, exists_eq_left', fi32, i10, i00, false_implies, true_implies, not_false_eq_true, not_true_eq_false, true_and, and_true, nI_1, lz0, lz1, ix0, ix11, ix2, C.p, C.sh.p6_0, C.sh.p6_4, C.sh.p6_7, C.sh.p6_8, C.sh.p6_9, C.sh.p6_10, C.sh.p6_11, C.sh.p6_12, C.sh.p6_13, C.sh.p50_1, C.sh.p50_2, C.sh.l60, C.sh.l61, C.rc.w, C.rc.h, C.rc.li, C.rc.mo, C.rc.n, C.rc.nc, C.rc.np, C.sh.rp8 C.irm, C.sh.rl8 C.irm, C.sh.rp9 C.irm, C.sh.rl9 C.irm, C.sh.rp10 C.irm, C.sh.rl10 C.irm, C.sh.rp11 C.irm, C.sh.rl11 C.irm, C.sh.rp12 C.irm, C.sh.rl12 C.irm, C.sh.rp16 C.irm, C.sh.rl16 C.irm, hin, nI_clamp (show c < 2 ^ 31 by omega), C.rc.nr hc, C.rc.fr hc]
      refine s_has (by omega) (fun hb1 => ?_) (fun hb1 => ?_)
      · try simp only [Option.some.injEq, exists_eq_left', fi32, i10, i00, false_implies, true_implies, not_false_eq_true, not_true_eq_false, true_and, and_true, nI_1, lz0, lz1, ix0, ix11, ix2, C.p, C.sh.p6_0, C.sh.p6_4, C.sh.p6_7, C.sh.p6_8, C.sh.p6_9, C.sh.p6_10, C.sh.p6_11, C.sh.p6_12, C.sh.p6_13, C.sh.p50_1, C.sh.p50_2, C.sh.l60, C.sh.l61, C.rc.w, C.rc.h, C.rc.li, C.rc.mo, C.rc.n, C.rc.nc, C.rc.np, C.sh.rp8 C.irm, C.sh.rl8 C.irm, C.sh.rp9 C.irm, C.sh.rl9 C.irm, C.sh.rp10 C.irm, C.sh.rl10 C.irm, C.sh.rp11 C.irm, C.sh.rl11 C.irm, C.sh.rp12 C.irm, C.sh.rl12 C.irm, C.sh.rp16 C.irm, C.sh.rl16 C.irm, hin, C.rc.fr hc, nI_clamp (show c < 2 ^ 31 by omega)]
        refine s_has (by omega) (fun hb2 => ?_) (fun hb2 => ?_)
        · rw [bs_s0 (by simp [bo, hb, hb1, hb2])] at ih
          try simp only [Option.some.injEq, exists_eq_left', fi32, i10, i00, false_implies, true_implies, not_false_eq_true, not_true_eq_false, true_and, and_true, nI_1, lz0, lz1, ix0, ix11, ix2]
          exact ih
        · rw [bs_s1 (by simp [bo, hb, hb1, hb2])] at ih
          try simp only [Option.some.injEq, exists_eq_left', fi32, i10, i00, false_implies, true_implies, not_false_eq_true, not_true_eq_false, true_and, and_true, nI_1, lz0, lz1, ix0, ix11, ix2]
          exact ih
      · try simp only [Option.some.injEq, exists_eq_left', fi32, i10, i00, false_implies, true_implies, not_false_eq_true, not_true_eq_false, true_and, and_true, nI_1, lz0, lz1, ix0, ix11, ix2, C.p, C.sh.p6_0, C.sh.p6_4, C.sh.p6_7, C.sh.p6_8, C.sh.p6_9, C.sh.p6_10, C.sh.p6_11, C.sh.p6_12, C.sh.p6_13, C.sh.p50_1, C.sh.p50_2, C.sh.l60, C.sh.l61, C.rc.w, C.rc.h, C.rc.li, C.rc.mo, C.rc.n, C.rc.nc, C.rc.np, C.sh.rp8 C.irm, C.sh.rl8 C.irm, C.sh.rp9 C.irm, C.sh.rl9 C.irm, C.sh.rp10 C.irm, C.sh.rl10 C.irm, C.sh.rp11 C.irm, C.sh.rl11 C.irm, C.sh.rp12 C.irm, C.sh.rl12 C.irm, C.sh.rp16 C.irm, C.sh.rl16 C.irm, hin, C.rc.fr hc, nI_clamp (show c < 2 ^ 31 by omega)]
        refine s_has (by omega) (fun hb2 => ?_) (fun hb2 => ?_)
        · rw [bs_s1 (by simp [bo, hb, hb1, hb2])] at ih
          simp only [show ((0 : Int32) = 1) = False from eq_false (by decide)]
          try simp only [Option.some.injEq, exists_eq_left', fi32, i10, i00, false_implies, true_implies, not_false_eq_true, not_true_eq_false, true_and, and_true, nI_1, lz0, lz1, ix0, ix11, ix2]
          exact ih
        · rw [bs_s0 (by simp [bo, hb, hb1, hb2])] at ih
          try simp only [Option.some.injEq, exists_eq_left', fi32, i10, i00, false_implies, true_implies, not_false_eq_true, not_true_eq_false, true_and, and_true, nI_1, lz0, lz1, ix0, ix11, ix2]
          exact ih
    · rw [bs_s0 (by simp [bo, hb])] at ih
      try simp only [Option.some.injEq, exists_eq_left', fi32, i10, i00, false_implies, true_implies, not_false_eq_true, not_true_eq_false, true_and, and_true, nI_1, lz0, lz1, ix0, ix11, ix2]
      exact ih
theorem c_borders {x1 : Int32} {Q : mj_S → Int32 → Prop} (C : CI L S r 50 rs R s) (h : ∀ S', fr DC S S' → Q S' (A_borders R s x1)) : M_X10_borders l G 6 x1 S Q := by
  have hn := C.rw.n
  unfold A_borders at h
  refine e_X10_borders (b_X10_borders_0 C.sh.k6 (s_isSquare C (fun q e => ?_) (fun e => ?_)))
  · obtain ⟨hq, ex⟩ := ixn_some (by omega) e
    rw [e] at h
    try simp only [Option.some.injEq, exists_eq_left', fi32, i10, i00, false_implies, true_implies, not_false_eq_true, not_true_eq_false, true_and, and_true, nI_1, lz0, lz1, ix0, ix11, ix2]
    rw [ex]
    exact s_stateAround C (fun S' f _ => s_bordersOf (C.fr f) (h S' f))
  · rw [e] at h
    try simp only [Option.some.injEq, exists_eq_left', fi32, i10, i00, false_implies, true_implies, not_false_eq_true, not_true_eq_false, true_and, and_true, nI_1, lz0, lz1, ix0, ix11, ix2]
    exact h S fr.rf
theorem c_touch {x1 x2 : Int32} {Q : mj_S → Int32 → Prop} (C : CI L S r 50 rs R s) (h : ∀ S', fr DC S S' → Q S' (A_touch R s x1 x2)) : M_X10_touch l G 6 x1 x2 S Q := by
  have hn := C.rw.n
  unfold A_touch at h
  refine e_X10_touch (b_X10_touch_0 C.sh.k6 (s_isSquare C (fun q e => ?_) (fun e => ?_)))
  · obtain ⟨hq, ex⟩ := ixn_some (by omega) e
    try simp only [Option.some.injEq, exists_eq_left', fi32, i10, i00, false_implies, true_implies, not_false_eq_true, not_true_eq_false, true_and, and_true, nI_1, lz0, lz1, ix0, ix11, ix2]
    refine s_isSquare C (fun q2 e2 => ?_) (fun e2 => ?_)
    · obtain ⟨hq2, ex2⟩ := ixn_some (by omega) e2
      rw [e, e2] at h
      try simp only [Option.some.injEq, exists_eq_left', fi32, i10, i00, false_implies, true_implies, not_false_eq_true, not_true_eq_false, true_and, and_true, nI_1, lz0, lz1, ix0, ix11, ix2]
      rw [ex, ex2]
      refine s_stateAround C (fun S' f _ => s_stateAround (C.fr f) (fun S2 f2 _ => ⟨fun z => ?_, fun z => ?_⟩))
      · have h' := h S2 (f.tr f2)
        simp only [] at h'
        rw [if_neg z] at h'
        refine s_bordersOf ((C.fr f).fr f2) (s_bordersOf ((C.fr f).fr f2) ⟨fun z2 => ?_, fun z2 => ?_⟩)
        · rw [if_pos z2] at h'; exact h'
        · rw [if_neg z2] at h'; exact h'
      · have h' := h S2 (f.tr f2)
        simp only [] at h'
        rw [if_pos z] at h'
        exact h'
    · rw [e, e2] at h
      try simp only [Option.some.injEq, exists_eq_left', fi32, i10, i00, false_implies, true_implies, not_false_eq_true, not_true_eq_false, true_and, and_true, nI_1, lz0, lz1, ix0, ix11, ix2]
      exact h S fr.rf
  · rw [e] at h
    try simp only [Option.some.injEq, exists_eq_left', fi32, i10, i00, false_implies, true_implies, not_false_eq_true, not_true_eq_false, true_and, and_true, nI_1, lz0, lz1, ix0, ix11, ix2]
    exact h S fr.rf
end C2
