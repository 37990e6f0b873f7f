/-! the class: curtains beside, rights, ways under hems, joining -/
theorem pow10 {n : Nat} (h : n ≤ 10) : 2 ^ n ≤ 1024 := Nat.pow_le_pow_right (by omega) h
theorem on_nI {n : Nat} (h : n < 20) : on n = nI (2 ^ n) := (one_k n h).symm
theorem oI_e {o : Option Nat} {p : Nat} (ho : ∀ m, o = some m → m < 2 ^ 31) (hp : p < 2 ^ 31) : (oI o = nI p) = (o = some p) := by
  cases o with
  | none => exact propext ⟨fun e => absurd e.symm (nI_m1 hp), fun e => by cases e⟩
  | some m => exact propext ⟨fun e => by rw [(nI_eq (ho m rfl) hp).mp e], fun e => by cases e; rfl⟩
theorem cp_n_ext {x : Int32} {m : Nat} (h : cp_in x m) : ∀ n, m ≤ n → cp_n x n = cp_n x m := by
  intro n hn
  induction n with
  | zero => rw [show m = 0 by omega]
  | succ n ih =>
    by_cases e : m = n + 1
    · rw [e]
    · have hb : bt x n = false := bf (fun z => by have := h n z; omega)
      rw [← ih (by omega)]
      show cp_n x n + (if bt x n = true then 1 else 0) = _
      rw [hb]; rfl
theorem jn_or {R : rm} (hR : r_wf R) (H : Int32) {x y : Int32} (hx : cp_in x (r_n R)) (hy : cp_in y (r_n R)) : jn R H (x ||| y) = jn R H x ||| jn R H y := by
  have ix := jn_is hR H hx
  have iy := jn_is hR H hy
  refine cp_one (jn_is hR H (in_or hx hy)) ⟨ge_or (fun i z => ge_l _ _ i (ix.1 i z)) (fun i z => ge_r _ _ i (iy.1 i z)), ?_, ?_⟩
  · intro a b ha hE
    rw [b_or, Bool.or_eq_true] at ha ⊢
    rcases ha with q | q
    · exact Or.inl (ix.2.1 a b q hE)
    · exact Or.inr (iy.2.1 a b q hE)
  · intro z hz hc
    exact ge_or (ix.2.2 z (fun i q => hz i (ge_l _ _ i q)) hc) (iy.2.2 z (fun i q => hz i (ge_r _ _ i q)) hc)
theorem jn_jn {R : rm} (hR : r_wf R) (H : Int32) {x : Int32} (hx : cp_in x (r_n R)) : jn R H (jn R H x) = jn R H x := by
  have ix := jn_is hR H hx
  exact cp_one (jn_is hR H (jn_in hR H hx)) ⟨fun _ z => z, ix.2.1, fun z h1 _ => h1⟩
section C3
variable {l : Launch} {G : mj_G} {L r x rs : Nat} {R : rm} {s : sc} {S : mj_S}
theorem s_witN {n : Nat} {x1 : Int32} {Q : mj_S → Int32 → Prop} (hn : n < 1000000) (h1 : ∀ q, ixn (n + 1) x1 = some q → Q S 1) (h0 : ixn (n + 1) x1 = none → Q S 0) : M_X10_within l G x1 0 (nI n) S Q := by
  refine s_wit (fun q1 q2 => ?_) (fun q => h0 ?_)
  · rw [Int32.lt_iff_toInt_lt] at q1 q2
    have z : (0 : Int32).toInt = 0 := by decide
    rw [z] at q1; rw [nI_toInt (by omega)] at q2
    exact h1 _ (if_pos (by omega))
  · rw [Int32.lt_iff_toInt_lt, Int32.lt_iff_toInt_lt] at q
    have z : (0 : Int32).toInt = 0 := by decide
    rw [z, nI_toInt (by omega)] at q
    exact if_neg (by omega)
theorem s_besides {q : Nat} {Q : mj_S → Int32 → Prop} (C : CI L S r x rs R s) (hq : q < r_n R) (h : Q S (bs (r_nc R) (be R q))) : M_X10_besides l G 6 (nI q) S Q := by
  have nc := C.rw.nc
  have hn := C.rw.n
  refine e_X10_besides (b_X10_besides_0 C.sh.k6 ?_)
  refine dn (P := fun c => V_X10_besides_4 l G 6 (nI q) (bs c (be R q)) (nI c) S Q) (r_nc R) ?_ ?_
  · refine b_X10_besides_4 C.sh.k6 ?_
    try simp only [Option.some.injEq, exists_eq_left', fi32, i10, i00, false_implies, true_implies, not_false_eq_true, not_true_eq_false, true_and, and_true, nI_1, lz0, lz1, ix0, ix11, ix2, C.p, C.sh.p6_0, C.sh.p6_4, C.sh.p6_7, C.sh.p6_8, C.sh.p6_9, C.sh.p6_10, C.sh.p6_11, C.sh.p6_12, C.sh.p6_13, C.sh.p50_1, C.sh.p50_2, C.sh.l60, C.sh.l61, C.rc.w, C.rc.h, C.rc.li, C.rc.mo, C.rc.n, C.rc.nc, C.rc.np, C.sh.rp8 C.irm, C.sh.rl8 C.irm, C.sh.rp9 C.irm, C.sh.rl9 C.irm, C.sh.rp10 C.irm, C.sh.rl10 C.irm, C.sh.rp11 C.irm, C.sh.rl11 C.irm, C.sh.rp12 C.irm, C.sh.rl12 C.irm, C.sh.rp16 C.irm, C.sh.rl16 C.irm, geT (show r_nc R < 2 ^ 31 by omega)]
    exact h
  · intro c hc ih
    have h1 := C.rw.nr hc
    have h2 := C.rw.fr hc
    have hin : vp_in (nI c) 10 := vp_nI (by omega) (by omega)
    refine b_X10_besides_4 C.sh.k6 ?_
    try simp only [Option.some.injEq, exists_eq_left', fi32, i10, i00, false_implies, true_implies, not_false_eq_true, not_true_eq_false, true_and, and_true, nI_1, lz0, lz1, ix0, ix11, ix2, C.p, C.sh.p6_0, C.sh.p6_4, C.sh.p6_7, C.sh.p6_8, C.sh.p6_9, C.sh.p6_10, C.sh.p6_11, C.sh.p6_12, C.sh.p6_13, C.sh.p50_1, C.sh.p50_2, C.sh.l60, C.sh.l61, C.rc.w, C.rc.h, C.rc.li, C.rc.mo, C.rc.n, C.rc.nc, C.rc.np, C.sh.rp8 C.irm, C.sh.rl8 C.irm, C.sh.rp9 C.irm, C.sh.rl9 C.irm, C.sh.rp10 C.irm, C.sh.rl10 C.irm, C.sh.rp11 C.irm, C.sh.rl11 C.irm, C.sh.rp12 C.irm, C.sh.rl12 C.irm, C.sh.rp16 C.irm, C.sh.rl16 C.irm, gtF hc (show r_nc R < 2 ^ 31 by omega), hin, nI_clamp (show c < 2 ^ 31 by omega), C.rc.nr hc, C.rc.fr hc, nI_eqI (show r_nr R c < 2 ^ 31 by omega) (show q < 2 ^ 31 by omega), nI_eqI (show r_fr R c < 2 ^ 31 by omega) (show q < 2 ^ 31 by omega)]
    refine ⟨fun z => ?_, fun z => ⟨fun z2 => ?_, fun z2 => ?_⟩⟩
    · rw [bs_s1 (by simp [be, z])] at ih; exact ih
    · rw [bs_s0 (by simp [be, z, z2])] at ih; exact ih
    · rw [bs_s1 (by simp [be, z2])] at ih; exact ih
theorem s_rightsOf {p : Nat} {Q : mj_S → Int32 → Prop} (C : CI L S r 50 rs R s) (hp : p < r_np R) (h : ∀ S', fr DC S S' → Q S' (bs (r_nc R) (ri R (st R s (s_pl s p))))) : M_X10_rightsOf l G 6 (nI p) S Q := by
  have nc := C.rw.nc
  have np := C.rw.np
  have hn := C.rw.n
  have hpl := C.sw.pl hp
  have hinp : vp_in (nI p) 6 := vp_nI (by omega) (by omega)
  refine e_X10_rightsOf (b_X10_rightsOf_0 C.sh.k6 ?_)
  try simp only [Option.some.injEq, exists_eq_left', fi32, i10, i00, false_implies, true_implies, not_false_eq_true, not_true_eq_false, true_and, and_true, nI_1, lz0, lz1, ix0, ix11, ix2, C.p, C.sh.p6_0, C.sh.p6_4, C.sh.p6_7, C.sh.p6_8, C.sh.p6_9, C.sh.p6_10, C.sh.p6_11, C.sh.p6_12, C.sh.p6_13, C.sh.p50_1, C.sh.p50_2, C.sh.l60, C.sh.l61, C.rc.w, C.rc.h, C.rc.li, C.rc.mo, C.rc.n, C.rc.nc, C.rc.np, C.sh.rp8 C.irm, C.sh.rl8 C.irm, C.sh.rp9 C.irm, C.sh.rl9 C.irm, C.sh.rp10 C.irm, C.sh.rl10 C.irm, C.sh.rp11 C.irm, C.sh.rl11 C.irm, C.sh.rp12 C.irm, C.sh.rl12 C.irm, C.sh.rp16 C.irm, C.sh.rl16 C.irm, hinp, nI_clamp (show p < 2 ^ 31 by omega), C.sn.pl hp]
  refine s_stateAround C (fun S' f _ => ?_)
  have D := C.fr f
  refine dn (P := fun c => V_X10_rightsOf_19 l G 6 (st R s (s_pl s p)) (bs c (ri R (st R s (s_pl s p)))) (nI c) S' Q) (r_nc R) ?_ ?_
  · refine b_X10_rightsOf_19 D.sh.k6 ?_
    try simp only [Option.some.injEq, exists_eq_left', fi32, i10, i00, false_implies, true_implies, not_false_eq_true, not_true_eq_false, true_and, and_true, nI_1, lz0, lz1, ix0, ix11, ix2, D.p, D.sh.p6_0, D.sh.p6_4, D.sh.p6_7, D.sh.p6_8, D.sh.p6_9, D.sh.p6_10, D.sh.p6_11, D.sh.p6_12, D.sh.p6_13, D.sh.p50_1, D.sh.p50_2, D.sh.l60, D.sh.l61, D.rc.w, D.rc.h, D.rc.li, D.rc.mo, D.rc.n, D.rc.nc, D.rc.np, D.sh.rp8 D.irm, D.sh.rl8 D.irm, D.sh.rp9 D.irm, D.sh.rl9 D.irm, D.sh.rp10 D.irm, D.sh.rl10 D.irm, D.sh.rp11 D.irm, D.sh.rl11 D.irm, D.sh.rp12 D.irm, D.sh.rl12 D.irm, D.sh.rp16 D.irm, D.sh.rl16 D.irm, geT (show r_nc R < 2 ^ 31 by omega)]
    exact h S' f
  · intro c hc ih
    have h1 := C.rw.nr hc
    have h2 := C.rw.fr hc
    have hin : vp_in (nI c) 10 := vp_nI (by omega) (by omega)
    refine b_X10_rightsOf_19 D.sh.k6 ?_
    try simp only [Option.some.injEq, exists_eq_left', fi32, i10, i00, false_implies, true_implies, not_false_eq_true, not_true_eq_false, true_and, and_true, nI_1, lz0, lz1, ix0, ix11, ix2, D.p, D.sh.p6_0, D.sh.p6_4, D.sh.p6_7, D.sh.p6_8, D.sh.p6_9, D.sh.p6_10, D.sh.p6_11, D.sh.p6_12, D.sh.p6_13, D.sh.p50_1, D.sh.p50_2, D.sh.l60, D.sh.l61, D.rc.w, D.rc.h, D.rc.li, D.rc.mo, D.rc.n, D.rc.nc, D.rc.np, D.sh.rp8 D.irm, D.sh.rl8 D.irm, D.sh.rp9 D.irm, D.sh.rl9 D.irm, D.sh.rp10 D.irm, D.sh.rl10 D.irm, D.sh.rp11 D.irm, D.sh.rl11 D.irm, D.sh.rp12 D.irm, D.sh.rl12 D.irm, D.sh.rp16 D.irm, D.sh.rl16 D.irm, gtF hc (show r_nc R < 2 ^ 31 by omega), hin, nI_clamp (show c < 2 ^ 31 by omega), D.rc.nr hc]
    refine s_has (by omega) (fun hb => ?_) (fun hb => ?_)
    · rw [bs_s1 (by simp [ri, hb])] at ih
      try simp only [Option.some.injEq, exists_eq_left', fi32, i10, i00, false_implies, true_implies, not_false_eq_true, not_true_eq_false, true_and, and_true, nI_1, lz0, lz1, ix0, ix11, ix2]
      exact ih
    · try simp only [Option.some.injEq, exists_eq_left', fi32, i10, i00, false_implies, true_implies, not_false_eq_true, not_true_eq_false, true_and, and_true, nI_1, lz0, lz1, ix0, ix11, ix2, D.p, D.sh.p6_0, D.sh.p6_4, D.sh.p6_7, D.sh.p6_8, D.sh.p6_9, D.sh.p6_10, D.sh.p6_11, D.sh.p6_12, D.sh.p6_13, D.sh.p50_1, D.sh.p50_2, D.sh.l60, D.sh.l61, D.rc.w, D.rc.h, D.rc.li, D.rc.mo, D.rc.n, D.rc.nc, D.rc.np, D.sh.rp8 D.irm, D.sh.rl8 D.irm, D.sh.rp9 D.irm, D.sh.rl9 D.irm, D.sh.rp10 D.irm, D.sh.rl10 D.irm, D.sh.rp11 D.irm, D.sh.rl11 D.irm, D.sh.rp12 D.irm, D.sh.rl12 D.irm, D.sh.rp16 D.irm, D.sh.rl16 D.irm, hin, nI_clamp (show c < 2 ^ 31 by omega), D.rc.fr hc]
      refine s_has (by omega) (fun hb2 => ?_) (fun hb2 => ?_)
      · rw [bs_s1 (by simp [ri, hb2])] at ih
        try simp only [Option.some.injEq, exists_eq_left', fi32, i10, i00, false_implies, true_implies, not_false_eq_true, not_true_eq_false, true_and, and_true, nI_1, lz0, lz1, ix0, ix11, ix2]
        exact ih
      · rw [bs_s0 (by simp [ri, hb, hb2])] at ih
        try simp only [Option.some.injEq, exists_eq_left', fi32, i10, i00, false_implies, true_implies, not_false_eq_true, not_true_eq_false, true_and, and_true, nI_1, lz0, lz1, ix0, ix11, ix2]
        exact ih
theorem s_wideEnough {n : Nat} {Q : mj_S → Int32 → Prop} (C : CI L S r 50 rs R s) (hn9 : n < 100) (h : Q S (bs (r_nc R) (we R s n))) : M_X10_wideEnough l G 6 (nI n) S Q := by
  have nc := C.rw.nc
  refine e_X10_wideEnough (b_X10_wideEnough_0 C.sh.k6 ⟨50, C.sh.p6_7, s_hung C ?_⟩)
  refine dn (P := fun c => V_X10_wideEnough_13 l G 6 (nI n) (hg R s) (bs c (we R s n)) (nI c) S Q) (r_nc R) ?_ ?_
  · refine b_X10_wideEnough_13 C.sh.k6 ?_
    try simp only [Option.some.injEq, exists_eq_left', fi32, i10, i00, false_implies, true_implies, not_false_eq_true, not_true_eq_false, true_and, and_true, nI_1, lz0, lz1, ix0, ix11, ix2, C.p, C.sh.p6_0, C.sh.p6_4, C.sh.p6_7, C.sh.p6_8, C.sh.p6_9, C.sh.p6_10, C.sh.p6_11, C.sh.p6_12, C.sh.p6_13, C.sh.p50_1, C.sh.p50_2, C.sh.l60, C.sh.l61, C.rc.w, C.rc.h, C.rc.li, C.rc.mo, C.rc.n, C.rc.nc, C.rc.np, C.sh.rp8 C.irm, C.sh.rl8 C.irm, C.sh.rp9 C.irm, C.sh.rl9 C.irm, C.sh.rp10 C.irm, C.sh.rl10 C.irm, C.sh.rp11 C.irm, C.sh.rl11 C.irm, C.sh.rp12 C.irm, C.sh.rl12 C.irm, C.sh.rp16 C.irm, C.sh.rl16 C.irm, geT (show r_nc R < 2 ^ 31 by omega)]
    exact h
  · intro c hc ih
    have h1 := C.rw.gp hc
    have hin : vp_in (nI c) 10 := vp_nI (by omega) (by omega)
    refine b_X10_wideEnough_13 C.sh.k6 ?_
    try simp only [Option.some.injEq, exists_eq_left', fi32, i10, i00, false_implies, true_implies, not_false_eq_true, not_true_eq_false, true_and, and_true, nI_1, lz0, lz1, ix0, ix11, ix2, C.p, C.sh.p6_0, C.sh.p6_4, C.sh.p6_7, C.sh.p6_8, C.sh.p6_9, C.sh.p6_10, C.sh.p6_11, C.sh.p6_12, C.sh.p6_13, C.sh.p50_1, C.sh.p50_2, C.sh.l60, C.sh.l61, C.rc.w, C.rc.h, C.rc.li, C.rc.mo, C.rc.n, C.rc.nc, C.rc.np, C.sh.rp8 C.irm, C.sh.rl8 C.irm, C.sh.rp9 C.irm, C.sh.rl9 C.irm, C.sh.rp10 C.irm, C.sh.rl10 C.irm, C.sh.rp11 C.irm, C.sh.rl11 C.irm, C.sh.rp12 C.irm, C.sh.rl12 C.irm, C.sh.rp16 C.irm, C.sh.rl16 C.irm, gtF hc (show r_nc R < 2 ^ 31 by omega)]
    refine s_has (by omega) (fun hb => ?_) (fun hb => ?_)
    · try simp only [Option.some.injEq, exists_eq_left', fi32, i10, i00, false_implies, true_implies, not_false_eq_true, not_true_eq_false, true_and, and_true, nI_1, lz0, lz1, ix0, ix11, ix2, C.p, C.sh.p6_0, C.sh.p6_4, C.sh.p6_7, C.sh.p6_8, C.sh.p6_9, C.sh.p6_10, C.sh.p6_11, C.sh.p6_12, C.sh.p6_13, C.sh.p50_1, C.sh.p50_2, C.sh.l60, C.sh.l61, C.rc.w, C.rc.h, C.rc.li, C.rc.mo, C.rc.n, C.rc.nc, C.rc.np, C.sh.rp8 C.irm, C.sh.rl8 C.irm, C.sh.rp9 C.irm, C.sh.rl9 C.irm, C.sh.rp10 C.irm, C.sh.rl10 C.irm, C.sh.rp11 C.irm, C.sh.rl11 C.irm, C.sh.rp12 C.irm, C.sh.rl12 C.irm, C.sh.rp16 C.irm, C.sh.rl16 C.irm, hin, nI_clamp (show c < 2 ^ 31 by omega), C.rc.gp hc]
      refine ⟨fun z => ?_, fun z => ?_⟩
      · have z' := (nI_ltI (show r_gp R c < 2 ^ 31 by omega) (by omega)).mp z
        rw [bs_s0 (by simp [we, show ¬ n ≤ r_gp R c by omega])] at ih; exact ih
      · have z' : ¬ r_gp R c < n := fun y => z ((nI_ltI (show r_gp R c < 2 ^ 31 by omega) (by omega)).mpr y)
        rw [bs_s1 (by simp [we, hb]; omega)] at ih; exact ih
    · rw [bs_s0 (by simp [we, hb])] at ih
      try simp only [Option.some.injEq, exists_eq_left', fi32, i10, i00, false_implies, true_implies, not_false_eq_true, not_true_eq_false, true_and, and_true, nI_1, lz0, lz1, ix0, ix11, ix2]
      exact ih
def A_lead (R : rm) (s : sc) (x : Int32) : Int32 := if r_n R = 0 then -1 else match ixn 10 x with
  | none => -1
  | some n => bs (r_nc R) (we R s n)
theorem c_lead {x1 : Int32} {Q : mj_S → Int32 → Prop} (C : CI L S r 50 rs R s) (h : Q S (A_lead R s x1)) : M_X10_lead l G 6 x1 S Q := by
  unfold A_lead at h
  refine e_X10_lead (b_X10_lead_0 C.sh.k6 (s_hasRoom C (fun e => ?_) (fun e => ?_)))
  · rw [if_neg (by omega)] at h
    try simp only [Option.some.injEq, exists_eq_left', fi32, i10, i00, false_implies, true_implies, not_false_eq_true, not_true_eq_false, true_and, and_true, nI_1, lz0, lz1, ix0, ix11, ix2]
    refine s_witN (n := 9) (by omega) (fun q e2 => ?_) (fun e2 => ?_)
    · rw [e2] at h
      obtain ⟨hq, ex⟩ := ixn_some (by omega) e2
      try simp only [Option.some.injEq, exists_eq_left', fi32, i10, i00, false_implies, true_implies, not_false_eq_true, not_true_eq_false, true_and, and_true, nI_1, lz0, lz1, ix0, ix11, ix2]
      rw [ex]
      exact s_wideEnough C (by omega) h
    · rw [e2] at h
      try simp only [Option.some.injEq, exists_eq_left', fi32, i10, i00, false_implies, true_implies, not_false_eq_true, not_true_eq_false, true_and, and_true, nI_1, lz0, lz1, ix0, ix11, ix2]
      exact h
  · rw [if_pos e] at h
    try simp only [Option.some.injEq, exists_eq_left', fi32, i10, i00, false_implies, true_implies, not_false_eq_true, not_true_eq_false, true_and, and_true, nI_1, lz0, lz1, ix0, ix11, ix2]
    exact h
def A_gathered (R : rm) (s : sc) : Int32 := if r_n R = 0 then -1 else db R s
theorem c_gathered {Q : mj_S → Int32 → Prop} (C : CI L S r 50 rs R s) (h : Q S (A_gathered R s)) : M_X10_gathered l G 6 S Q := by
  unfold A_gathered at h
  refine e_X10_gathered (b_X10_gathered_0 C.sh.k6 (s_hasRoom C (fun e => ?_) (fun e => ?_)))
  · rw [if_neg (by omega)] at h
    try simp only [Option.some.injEq, exists_eq_left', fi32, i10, i00, false_implies, true_implies, not_false_eq_true, not_true_eq_false, true_and, and_true, nI_1, lz0, lz1, ix0, ix11, ix2, C.p, C.sh.p6_0, C.sh.p6_4, C.sh.p6_7, C.sh.p6_8, C.sh.p6_9, C.sh.p6_10, C.sh.p6_11, C.sh.p6_12, C.sh.p6_13, C.sh.p50_1, C.sh.p50_2, C.sh.l60, C.sh.l61, C.rc.w, C.rc.h, C.rc.li, C.rc.mo, C.rc.n, C.rc.nc, C.rc.np, C.sh.rp8 C.irm, C.sh.rl8 C.irm, C.sh.rp9 C.irm, C.sh.rl9 C.irm, C.sh.rp10 C.irm, C.sh.rl10 C.irm, C.sh.rp11 C.irm, C.sh.rl11 C.irm, C.sh.rp12 C.irm, C.sh.rl12 C.irm, C.sh.rp16 C.irm, C.sh.rl16 C.irm]
    exact s_drawnBack C h
  · rw [if_pos e] at h
    try simp only [Option.some.injEq, exists_eq_left', fi32, i10, i00, false_implies, true_implies, not_false_eq_true, not_true_eq_false, true_and, and_true, nI_1, lz0, lz1, ix0, ix11, ix2]
    exact h
def A_guests (R : rm) (s : sc) : Int32 := if r_n R = 0 then -1 else bs (r_np R) (fun p => !decide (lo R s (st R s (s_pl s p)) (r_np R) = some p))
theorem c_guests {Q : mj_S → Int32 → Prop} (C : CI L S r 50 rs R s) (h : ∀ S', fr DC S S' → Q S' (A_guests R s)) : M_X10_guests l G 6 S Q := by
  have np := C.rw.np
  unfold A_guests at h
  refine e_X10_guests (b_X10_guests_0 C.sh.k6 (s_hasRoom C (fun e => ?_) (fun e => ?_)))
  · rw [if_neg (by omega)] at h
    try simp only [Option.some.injEq, exists_eq_left', fi32, i10, i00, false_implies, true_implies, not_false_eq_true, not_true_eq_false, true_and, and_true, nI_1, lz0, lz1, ix0, ix11, ix2]
    refine dn (P := fun p => ∀ T, fr DC S T → V_X10_guests_13 l G 6 (bs p (fun p => !decide (lo R s (st R s (s_pl s p)) (r_np R) = some p))) (nI p) T Q) (r_np R) ?_ ?_ S fr.rf
    · intro T f
      have D := C.fr f
      refine b_X10_guests_13 D.sh.k6 ?_
      try simp only [Option.some.injEq, exists_eq_left', fi32, i10, i00, false_implies, true_implies, not_false_eq_true, not_true_eq_false, true_and, and_true, nI_1, lz0, lz1, ix0, ix11, ix2, D.p, D.sh.p6_0, D.sh.p6_4, D.sh.p6_7, D.sh.p6_8, D.sh.p6_9, D.sh.p6_10, D.sh.p6_11, D.sh.p6_12, D.sh.p6_13, D.sh.p50_1, D.sh.p50_2, D.sh.l60, D.sh.l61, D.rc.w, D.rc.h, D.rc.li, D.rc.mo, D.rc.n, D.rc.nc, D.rc.np, D.sh.rp8 D.irm, D.sh.rl8 D.irm, D.sh.rp9 D.irm, D.sh.rl9 D.irm, D.sh.rp10 D.irm, D.sh.rl10 D.irm, D.sh.rp11 D.irm, D.sh.rl11 D.irm, D.sh.rp12 D.irm, D.sh.rl12 D.irm, D.sh.rp16 D.irm, D.sh.rl16 D.irm, geT (show r_np R < 2 ^ 31 by omega)]
      exact h T f
    · intro p hp ih T f
      have D := C.fr f
      have hin : vp_in (nI p) 6 := vp_nI (by omega) (by omega)
      refine b_X10_guests_13 D.sh.k6 ?_
      try simp only [Option.some.injEq, exists_eq_left', fi32, i10, i00, false_implies, true_implies, not_false_eq_true, not_true_eq_false, true_and, and_true, nI_1, lz0, lz1, ix0, ix11, ix2, D.p, D.sh.p6_0, D.sh.p6_4, D.sh.p6_7, D.sh.p6_8, D.sh.p6_9, D.sh.p6_10, D.sh.p6_11, D.sh.p6_12, D.sh.p6_13, D.sh.p50_1, D.sh.p50_2, D.sh.l60, D.sh.l61, D.rc.w, D.rc.h, D.rc.li, D.rc.mo, D.rc.n, D.rc.nc, D.rc.np, D.sh.rp8 D.irm, D.sh.rl8 D.irm, D.sh.rp9 D.irm, D.sh.rl9 D.irm, D.sh.rp10 D.irm, D.sh.rl10 D.irm, D.sh.rp11 D.irm, D.sh.rl11 D.irm, D.sh.rp12 D.irm, D.sh.rl12 D.irm, D.sh.rp16 D.irm, D.sh.rl16 D.irm, gtF hp (show r_np R < 2 ^ 31 by omega), hin, nI_clamp (show p < 2 ^ 31 by omega), D.sn.pl hp]
      refine s_stateAround D (fun T2 f2 _ => s_lordIn (D.fr f2) ?_)
      have ih2 := ih T2 (f.tr f2)
      try simp only [Option.some.injEq, exists_eq_left', fi32, i10, i00, false_implies, true_implies, not_false_eq_true, not_true_eq_false, true_and, and_true, nI_1, lz0, lz1, ix0, ix11, ix2, oI_e (o := lo R s (st R s (s_pl s p)) (r_np R)) (p := p) (fun m z => by have := lo_lt z; omega) (by omega)]
      refine ⟨fun z => ?_, fun z => ?_⟩
      · rw [bs_s0 (by simp [z])] at ih2; exact ih2
      · rw [bs_s1 (by simp [z])] at ih2; exact ih2
  · rw [if_pos e] at h
    try simp only [Option.some.injEq, exists_eq_left', fi32, i10, i00, false_implies, true_implies, not_false_eq_true, not_true_eq_false, true_and, and_true, nI_1, lz0, lz1, ix0, ix11, ix2]
    exact h S fr.rf
def A_cross (R : rm) (s : sc) : Int32 := if r_n R = 0 then -1 else bs (r_n R) (fun q => decide (3 ≤ cp_n (hg R s &&& bs (r_nc R) (be R q)) 10))
theorem bc_hg (hR : r_wf R) (Y : Int32) : bc (hg R s &&& Y) = nI (cp_n (hg R s &&& Y) 10) := by
  have hi : cp_in (hg R s &&& Y) 10 := fun i hi => by
    rw [b_and, Bool.and_eq_true] at hi
    exact Nat.lt_of_lt_of_le (hg_in hR i hi.1) hR.nc
  obtain ⟨m, h1, h2⟩ := hi.nI (by omega)
  rw [h2]; exact bc_10 m h1
theorem c_cross {Q : mj_S → Int32 → Prop} (C : CI L S r 50 rs R s) (h : Q S (A_cross R s)) : M_X10_cross l G 6 S Q := by
  have hn := C.rw.n
  unfold A_cross at h
  refine e_X10_cross (b_X10_cross_0 C.sh.k6 (s_hasRoom C (fun e => ?_) (fun e => ?_)))
  · rw [if_neg (by omega)] at h
    try simp only [Option.some.injEq, exists_eq_left', fi32, i10, i00, false_implies, true_implies, not_false_eq_true, not_true_eq_false, true_and, and_true, nI_1, lz0, lz1, ix0, ix11, ix2, C.p, C.sh.p6_0, C.sh.p6_4, C.sh.p6_7, C.sh.p6_8, C.sh.p6_9, C.sh.p6_10, C.sh.p6_11, C.sh.p6_12, C.sh.p6_13, C.sh.p50_1, C.sh.p50_2, C.sh.l60, C.sh.l61, C.rc.w, C.rc.h, C.rc.li, C.rc.mo, C.rc.n, C.rc.nc, C.rc.np, C.sh.rp8 C.irm, C.sh.rl8 C.irm, C.sh.rp9 C.irm, C.sh.rl9 C.irm, C.sh.rp10 C.irm, C.sh.rl10 C.irm, C.sh.rp11 C.irm, C.sh.rl11 C.irm, C.sh.rp12 C.irm, C.sh.rl12 C.irm, C.sh.rp16 C.irm, C.sh.rl16 C.irm]
    refine s_hung C ?_
    refine dn (P := fun q => V_X10_cross_21 l G 6 (hg R s) (bs q (fun q => decide (3 ≤ cp_n (hg R s &&& bs (r_nc R) (be R q)) 10))) (nI q) S Q) (r_n R) ?_ ?_
    · refine b_X10_cross_21 C.sh.k6 ?_
      try simp only [Option.some.injEq, exists_eq_left', fi32, i10, i00, false_implies, true_implies, not_false_eq_true, not_true_eq_false, true_and, and_true, nI_1, lz0, lz1, ix0, ix11, ix2, C.p, C.sh.p6_0, C.sh.p6_4, C.sh.p6_7, C.sh.p6_8, C.sh.p6_9, C.sh.p6_10, C.sh.p6_11, C.sh.p6_12, C.sh.p6_13, C.sh.p50_1, C.sh.p50_2, C.sh.l60, C.sh.l61, C.rc.w, C.rc.h, C.rc.li, C.rc.mo, C.rc.n, C.rc.nc, C.rc.np, C.sh.rp8 C.irm, C.sh.rl8 C.irm, C.sh.rp9 C.irm, C.sh.rl9 C.irm, C.sh.rp10 C.irm, C.sh.rl10 C.irm, C.sh.rp11 C.irm, C.sh.rl11 C.irm, C.sh.rp12 C.irm, C.sh.rl12 C.irm, C.sh.rp16 C.irm, C.sh.rl16 C.irm, geT (show r_n R < 2 ^ 31 by omega)]
      exact h
    · intro q hq ih
      refine b_X10_cross_21 C.sh.k6 ?_
      try simp only [Option.some.injEq, exists_eq_left', fi32, i10, i00, false_implies, true_implies, not_false_eq_true, not_true_eq_false, true_and, and_true, nI_1, lz0, lz1, ix0, ix11, ix2, C.p, C.sh.p6_0, C.sh.p6_4, C.sh.p6_7, C.sh.p6_8, C.sh.p6_9, C.sh.p6_10, C.sh.p6_11, C.sh.p6_12, C.sh.p6_13, C.sh.p50_1, C.sh.p50_2, C.sh.l60, C.sh.l61, C.rc.w, C.rc.h, C.rc.li, C.rc.mo, C.rc.n, C.rc.nc, C.rc.np, C.sh.rp8 C.irm, C.sh.rl8 C.irm, C.sh.rp9 C.irm, C.sh.rl9 C.irm, C.sh.rp10 C.irm, C.sh.rl10 C.irm, C.sh.rp11 C.irm, C.sh.rl11 C.irm, C.sh.rp12 C.irm, C.sh.rl12 C.irm, C.sh.rp16 C.irm, C.sh.rl16 C.irm, gtF hq (show r_n R < 2 ^ 31 by omega)]
      refine s_besides C hq (s_bc ?_)
      have hle := cp_n_le (hg R s &&& bs (r_nc R) (be R q)) 10
      try simp only [Option.some.injEq, exists_eq_left', fi32, i10, i00, false_implies, true_implies, not_false_eq_true, not_true_eq_false, true_and, and_true, nI_1, lz0, lz1, ix0, ix11, ix2, bc_hg C.rw (bs (r_nc R) (be R q))]
      refine ⟨fun z => ?_, fun z => ?_⟩
      · have z' := (nI_ltI (b := 3) (by omega) (by omega)).mp z
        rw [bs_s0 (by simp; omega)] at ih; exact ih
      · have z' : ¬ cp_n (hg R s &&& bs (r_nc R) (be R q)) 10 < 3 := fun y => z ((nI_ltI (b := 3) (by omega) (by omega)).mpr y)
        rw [bs_s1 (by simp; omega)] at ih; exact ih
  · rw [if_pos e] at h
    try simp only [Option.some.injEq, exists_eq_left', fi32, i10, i00, false_implies, true_implies, not_false_eq_true, not_true_eq_false, true_and, and_true, nI_1, lz0, lz1, ix0, ix11, ix2]
    exact h
/-- the largest so far -/
def rlm (R : rm) (s : sc) : Nat → Int32 × Int32
  | 0 => (-1, 0)
  | q + 1 => if bc (st R s q) ≤ (rlm R s q).2 then rlm R s q else (nI q, bc (st R s q))
theorem c_realm {Q : mj_S → Int32 → Prop} (C : CI L S r 50 rs R s) (h : ∀ S', fr DC S S' → Q S' (rlm R s (r_n R)).1) : M_X10_realm l G 6 S Q := by
  have hn := C.rw.n
  refine e_X10_realm (b_X10_realm_0 C.sh.k6 (s_hasRoom C (fun e => ?_) (fun e => ?_)))
  · try simp only [Option.some.injEq, exists_eq_left', fi32, i10, i00, false_implies, true_implies, not_false_eq_true, not_true_eq_false, true_and, and_true, nI_1, lz0, lz1, ix0, ix11, ix2, C.p, C.sh.p6_0, C.sh.p6_4, C.sh.p6_7, C.sh.p6_8, C.sh.p6_9, C.sh.p6_10, C.sh.p6_11, C.sh.p6_12, C.sh.p6_13, C.sh.p50_1, C.sh.p50_2, C.sh.l60, C.sh.l61, C.rc.w, C.rc.h, C.rc.li, C.rc.mo, C.rc.n, C.rc.nc, C.rc.np, C.sh.rp8 C.irm, C.sh.rl8 C.irm, C.sh.rp9 C.irm, C.sh.rl9 C.irm, C.sh.rp10 C.irm, C.sh.rl10 C.irm, C.sh.rp11 C.irm, C.sh.rl11 C.irm, C.sh.rp12 C.irm, C.sh.rl12 C.irm, C.sh.rp16 C.irm, C.sh.rl16 C.irm]
    refine s_hung C (s_part C.sh C.rw C.irm C.r51 C.rc fun S' f F => ?_)
    have D := C.fr f
    refine dn (P := fun q => V_X10_realm_33 l G 6 (rlm R s q).1 (rlm R s q).2 (nI q) S' Q) (r_n R) ?_ ?_
    · refine b_X10_realm_33 D.sh.k6 ?_
      try simp only [Option.some.injEq, exists_eq_left', fi32, i10, i00, false_implies, true_implies, not_false_eq_true, not_true_eq_false, true_and, and_true, nI_1, lz0, lz1, ix0, ix11, ix2, D.p, D.sh.p6_0, D.sh.p6_4, D.sh.p6_7, D.sh.p6_8, D.sh.p6_9, D.sh.p6_10, D.sh.p6_11, D.sh.p6_12, D.sh.p6_13, D.sh.p50_1, D.sh.p50_2, D.sh.l60, D.sh.l61, D.rc.w, D.rc.h, D.rc.li, D.rc.mo, D.rc.n, D.rc.nc, D.rc.np, D.sh.rp8 D.irm, D.sh.rl8 D.irm, D.sh.rp9 D.irm, D.sh.rl9 D.irm, D.sh.rp10 D.irm, D.sh.rl10 D.irm, D.sh.rp11 D.irm, D.sh.rl11 D.irm, D.sh.rp12 D.irm, D.sh.rl12 D.irm, D.sh.rp16 D.irm, D.sh.rl16 D.irm, geT (show r_n R < 2 ^ 31 by omega)]
      exact h S' f
    · intro q hq ih
      refine b_X10_realm_33 D.sh.k6 ?_
      try simp only [Option.some.injEq, exists_eq_left', fi32, i10, i00, false_implies, true_implies, not_false_eq_true, not_true_eq_false, true_and, and_true, nI_1, lz0, lz1, ix0, ix11, ix2, D.p, D.sh.p6_0, D.sh.p6_4, D.sh.p6_7, D.sh.p6_8, D.sh.p6_9, D.sh.p6_10, D.sh.p6_11, D.sh.p6_12, D.sh.p6_13, D.sh.p50_1, D.sh.p50_2, D.sh.l60, D.sh.l61, D.rc.w, D.rc.h, D.rc.li, D.rc.mo, D.rc.n, D.rc.nc, D.rc.np, D.sh.rp8 D.irm, D.sh.rl8 D.irm, D.sh.rp9 D.irm, D.sh.rl9 D.irm, D.sh.rp10 D.irm, D.sh.rl10 D.irm, D.sh.rp11 D.irm, D.sh.rl11 D.irm, D.sh.rp12 D.irm, D.sh.rl12 D.irm, D.sh.rp16 D.irm, D.sh.rl16 D.irm, gtF hq (show r_n R < 2 ^ 31 by omega)]
      refine s_reach D.sh F (s_bc ⟨fun z => ?_, fun z => ?_⟩)
      · unfold rlm at ih
        rw [if_pos (show bc (st R s q) ≤ (rlm R s q).2 from z)] at ih
        try simp only [Option.some.injEq, exists_eq_left', fi32, i10, i00, false_implies, true_implies, not_false_eq_true, not_true_eq_false, true_and, and_true, nI_1, lz0, lz1, ix0, ix11, ix2]
        exact ih
      · unfold rlm at ih
        rw [if_neg (show ¬ bc (st R s q) ≤ (rlm R s q).2 from z)] at ih
        try simp only [Option.some.injEq, exists_eq_left', fi32, i10, i00, false_implies, true_implies, not_false_eq_true, not_true_eq_false, true_and, and_true, nI_1, lz0, lz1, ix0, ix11, ix2]
        exact ih
  · rw [e] at h
    try simp only [Option.some.injEq, exists_eq_left', fi32, i10, i00, false_implies, true_implies, not_false_eq_true, not_true_eq_false, true_and, and_true, nI_1, lz0, lz1, ix0, ix11, ix2]
    exact h S fr.rf
theorem pin_pos {X : Int32} : ∀ {k p : Nat}, p < k → bt X (s_pl s p) = true → 0 < pin s X k
  | 0, p, h, _ => absurd h (by omega)
  | k + 1, p, h, hb => by
    unfold pin
    by_cases e : p = k
    · rw [← e, if_pos hb]; omega
    · have := pin_pos (k := k) (show p < k by omega) hb
      omega
theorem pin_le {X : Int32} : ∀ {k : Nat}, pin s X k ≤ k
  | 0 => Nat.le_refl _
  | k + 1 => by
    unfold pin
    have := pin_le (X := X) (k := k)
    by_cases e : bt X (s_pl s k) = true
    · rw [if_pos e]; omega
    · rw [if_neg e]; omega
def A_air (R : rm) (s : sc) (x : Int32) : Int32 := match ixn (r_np R) x with
  | none => -1
  | some p => bc (st R s (s_pl s p)) / nI (pin s (st R s (s_pl s p)) (r_np R))
theorem c_air {x1 : Int32} {Q : mj_S → Int32 → Prop} (C : CI L S r 50 rs R s) (h : ∀ S', fr DC S S' → Q S' (A_air R s x1)) : M_X10_air l G 6 x1 S Q := by
  have hn := C.rw.n
  have np := C.rw.np
  unfold A_air at h
  refine e_X10_air (b_X10_air_0 C.sh.k6 (s_isPerson C (fun p e => ?_) (fun e => ?_)))
  · obtain ⟨hp, ex⟩ := ixn_some (by omega) e
    rw [e] at h
    have hinp : vp_in (nI p) 6 := vp_nI (by omega) (by omega)
    rw [ex]
    try simp only [Option.some.injEq, exists_eq_left', fi32, i10, i00, false_implies, true_implies, not_false_eq_true, not_true_eq_false, true_and, and_true, nI_1, lz0, lz1, ix0, ix11, ix2, C.p, C.sh.p6_0, C.sh.p6_4, C.sh.p6_7, C.sh.p6_8, C.sh.p6_9, C.sh.p6_10, C.sh.p6_11, C.sh.p6_12, C.sh.p6_13, C.sh.p50_1, C.sh.p50_2, C.sh.l60, C.sh.l61, C.rc.w, C.rc.h, C.rc.li, C.rc.mo, C.rc.n, C.rc.nc, C.rc.np, C.sh.rp8 C.irm, C.sh.rl8 C.irm, C.sh.rp9 C.irm, C.sh.rl9 C.irm, C.sh.rp10 C.irm, C.sh.rl10 C.irm, C.sh.rp11 C.irm, C.sh.rl11 C.irm, C.sh.rp12 C.irm, C.sh.rl12 C.irm, C.sh.rp16 C.irm, C.sh.rl16 C.irm, hinp, nI_clamp (show p < 2 ^ 31 by omega), C.sn.pl hp]
    refine s_stateAround C (fun S' f _ => ?_)
    have D := C.fr f
    refine dn (P := fun k => V_X10_air_29 l G 6 (st R s (s_pl s p)) (nI (pin s (st R s (s_pl s p)) k)) (nI k) S' Q) (r_np R) ?_ ?_
    · refine b_X10_air_29 D.sh.k6 ?_
      have hpos := pin_pos hp (jn_self C.rw (hg R s) (C.sw.pl hp))
      have hle := pin_le (s := s) (X := st R s (s_pl s p)) (k := r_np R)
      try simp only [Option.some.injEq, exists_eq_left', fi32, i10, i00, false_implies, true_implies, not_false_eq_true, not_true_eq_false, true_and, and_true, nI_1, lz0, lz1, ix0, ix11, ix2, D.p, D.sh.p6_0, D.sh.p6_4, D.sh.p6_7, D.sh.p6_8, D.sh.p6_9, D.sh.p6_10, D.sh.p6_11, D.sh.p6_12, D.sh.p6_13, D.sh.p50_1, D.sh.p50_2, D.sh.l60, D.sh.l61, D.rc.w, D.rc.h, D.rc.li, D.rc.mo, D.rc.n, D.rc.nc, D.rc.np, D.sh.rp8 D.irm, D.sh.rl8 D.irm, D.sh.rp9 D.irm, D.sh.rl9 D.irm, D.sh.rp10 D.irm, D.sh.rl10 D.irm, D.sh.rp11 D.irm, D.sh.rl11 D.irm, D.sh.rp12 D.irm, D.sh.rl12 D.irm, D.sh.rp16 D.irm, D.sh.rl16 D.irm, geT (show r_np R < 2 ^ 31 by omega)]
      refine ⟨fun z => absurd z (nI_nle hpos (by omega)), fun _ => s_bc ⟨nI_ne0 hpos (by omega), h S' f⟩⟩
    · intro k hk ih
      have hin : vp_in (nI k) 6 := vp_nI (by omega) (by omega)
      have hplk := C.sw.pl hk
      unfold pin at ih
      refine b_X10_air_29 D.sh.k6 ?_
      try simp only [Option.some.injEq, exists_eq_left', fi32, i10, i00, false_implies, true_implies, not_false_eq_true, not_true_eq_false, true_and, and_true, nI_1, lz0, lz1, ix0, ix11, ix2, D.p, D.sh.p6_0, D.sh.p6_4, D.sh.p6_7, D.sh.p6_8, D.sh.p6_9, D.sh.p6_10, D.sh.p6_11, D.sh.p6_12, D.sh.p6_13, D.sh.p50_1, D.sh.p50_2, D.sh.l60, D.sh.l61, D.rc.w, D.rc.h, D.rc.li, D.rc.mo, D.rc.n, D.rc.nc, D.rc.np, D.sh.rp8 D.irm, D.sh.rl8 D.irm, D.sh.rp9 D.irm, D.sh.rl9 D.irm, D.sh.rp10 D.irm, D.sh.rl10 D.irm, D.sh.rp11 D.irm, D.sh.rl11 D.irm, D.sh.rp12 D.irm, D.sh.rl12 D.irm, D.sh.rp16 D.irm, D.sh.rl16 D.irm, gtF hk (show r_np R < 2 ^ 31 by omega), hin, nI_clamp (show k < 2 ^ 31 by omega), D.sn.pl hk]
      refine s_has (by omega) (fun hb => ?_) (fun hb => ?_)
      · rw [if_pos hb] at ih
        try simp only [Option.some.injEq, exists_eq_left', fi32, i10, i00, false_implies, true_implies, not_false_eq_true, not_true_eq_false, true_and, and_true, nI_1, lz0, lz1, ix0, ix11, ix2]
        exact ih
      · rw [if_neg (by rw [hb]; decide)] at ih
        try simp only [Option.some.injEq, exists_eq_left', fi32, i10, i00, false_implies, true_implies, not_false_eq_true, not_true_eq_false, true_and, and_true, nI_1, lz0, lz1, ix0, ix11, ix2]
        exact ih
  · rw [e] at h
    try simp only [Option.some.injEq, exists_eq_left', fi32, i10, i00, false_implies, true_implies, not_false_eq_true, not_true_eq_false, true_and, and_true, nI_1, lz0, lz1, ix0, ix11, ix2]
    exact h S fr.rf
/-- behind the curtains W that stand at X -/
def by_ (R : rm) (W X : Int32) : Nat → Int32
  | 0 => 0
  | c + 1 => (fun y => if bt W c = true ∧ bt X (r_fr R c) = true then y ||| on (r_nr R c) else y) (if bt W c = true ∧ bt X (r_nr R c) = true then by_ R W X c ||| on (r_fr R c) else by_ R W X c)
theorem s_beyond {W X : Int32} {Q : mj_S → Int32 → Prop} (C : CI L S r x rs R s) (h : Q S (by_ R W X (r_nc R))) : M_X10_beyond l G 6 X W S Q := by
  have nc := C.rw.nc
  have hn := C.rw.n
  refine e_X10_beyond (b_X10_beyond_0 C.sh.k6 ?_)
  refine dn (P := fun c => V_X10_beyond_5 l G 6 X W (by_ R W X c) (nI c) S Q) (r_nc R) ?_ ?_
  · refine b_X10_beyond_5 C.sh.k6 ?_
    try simp only [Option.some.injEq, exists_eq_left', fi32, i10, i00, false_implies, true_implies, not_false_eq_true, not_true_eq_false, true_and, and_true, nI_1, lz0, lz1, ix0, ix11, ix2, C.p, C.sh.p6_0, C.sh.p6_4, C.sh.p6_7, C.sh.p6_8, C.sh.p6_9, C.sh.p6_10, C.sh.p6_11, C.sh.p6_12, C.sh.p6_13, C.sh.p50_1, C.sh.p50_2, C.sh.l60, C.sh.l61, C.rc.w, C.rc.h, C.rc.li, C.rc.mo, C.rc.n, C.rc.nc, C.rc.np, C.sh.rp8 C.irm, C.sh.rl8 C.irm, C.sh.rp9 C.irm, C.sh.rl9 C.irm, C.sh.rp10 C.irm, C.sh.rl10 C.irm, C.sh.rp11 C.irm, C.sh.rl11 C.irm, C.sh.rp12 C.irm, C.sh.rl12 C.irm, C.sh.rp16 C.irm, C.sh.rl16 C.irm, geT (show r_nc R < 2 ^ 31 by omega)]
    exact h
  · intro c hc ih
    have h1 := C.rw.nr hc
    have h2 := C.rw.fr hc
    have hin : vp_in (nI c) 10 := vp_nI (by omega) (by omega)
    have snd : ∀ y, y = (if bt W c = true ∧ bt X (r_nr R c) = true then by_ R W X c ||| on (r_fr R c) else by_ R W X c) → V_X10_beyond_58 l G 6 X W y (nI c) S Q := by
      intro y ey
      unfold by_ at ih
      rw [← ey] at ih
      refine b_X10_beyond_58 C.sh.k6 (s_has (by omega) (fun hb => ?_) (fun hb => ?_))
      · try simp only [Option.some.injEq, exists_eq_left', fi32, i10, i00, false_implies, true_implies, not_false_eq_true, not_true_eq_false, true_and, and_true, nI_1, lz0, lz1, ix0, ix11, ix2, C.p, C.sh.p6_0, C.sh.p6_4, C.sh.p6_7, C.sh.p6_8, C.sh.p6_9, C.sh.p6_10, C.sh.p6_11, C.sh.p6_12, C.sh.p6_13, C.sh.p50_1, C.sh.p50_2, C.sh.l60, C.sh.l61, C.rc.w, C.rc.h, C.rc.li, C.rc.mo, C.rc.n, C.rc.nc, C.rc.np, C.sh.rp8 C.irm, C.sh.rl8 C.irm, C.sh.rp9 C.irm, C.sh.rl9 C.irm, C.sh.rp10 C.irm, C.sh.rl10 C.irm, C.sh.rp11 C.irm, C.sh.rl11 C.irm, C.sh.rp12 C.irm, C.sh.rl12 C.irm, C.sh.rp16 C.irm, C.sh.rl16 C.irm, hin, nI_clamp (show c < 2 ^ 31 by omega), C.rc.fr hc]
        refine s_has (by omega) (fun hb2 => ?_) (fun hb2 => ?_)
        · try simp only [Option.some.injEq, exists_eq_left', fi32, i10, i00, false_implies, true_implies, not_false_eq_true, not_true_eq_false, true_and, and_true, nI_1, lz0, lz1, ix0, ix11, ix2, C.p, C.sh.p6_0, C.sh.p6_4, C.sh.p6_7, C.sh.p6_8, C.sh.p6_9, C.sh.p6_10, C.sh.p6_11, C.sh.p6_12, C.sh.p6_13, C.sh.p50_1, C.sh.p50_2, C.sh.l60, C.sh.l61, C.rc.w, C.rc.h, C.rc.li, C.rc.mo, C.rc.n, C.rc.nc, C.rc.np, C.sh.rp8 C.irm, C.sh.rl8 C.irm, C.sh.rp9 C.irm, C.sh.rl9 C.irm, C.sh.rp10 C.irm, C.sh.rl10 C.irm, C.sh.rp11 C.irm, C.sh.rl11 C.irm, C.sh.rp12 C.irm, C.sh.rl12 C.irm, C.sh.rp16 C.irm, C.sh.rl16 C.irm, hin, nI_clamp (show c < 2 ^ 31 by omega), C.rc.nr hc]
          simp only [if_pos (show bt W c = true ∧ bt X (r_fr R c) = true from ⟨hb, hb2⟩)] at ih
          exact ih
        · simp only [if_neg (show ¬ (bt W c = true ∧ bt X (r_fr R c) = true) from fun z => by rw [hb2] at z; cases z.2)] at ih
          try simp only [Option.some.injEq, exists_eq_left', fi32, i10, i00, false_implies, true_implies, not_false_eq_true, not_true_eq_false, true_and, and_true, nI_1, lz0, lz1, ix0, ix11, ix2]
          exact ih
      · simp only [if_neg (show ¬ (bt W c = true ∧ bt X (r_fr R c) = true) from fun z => by rw [hb] at z; cases z.1)] at ih
        try simp only [Option.some.injEq, exists_eq_left', fi32, i10, i00, false_implies, true_implies, not_false_eq_true, not_true_eq_false, true_and, and_true, nI_1, lz0, lz1, ix0, ix11, ix2]
        exact ih
    refine b_X10_beyond_5 C.sh.k6 ?_
    try simp only [Option.some.injEq, exists_eq_left', fi32, i10, i00, false_implies, true_implies, not_false_eq_true, not_true_eq_false, true_and, and_true, nI_1, lz0, lz1, ix0, ix11, ix2, C.p, C.sh.p6_0, C.sh.p6_4, C.sh.p6_7, C.sh.p6_8, C.sh.p6_9, C.sh.p6_10, C.sh.p6_11, C.sh.p6_12, C.sh.p6_13, C.sh.p50_1, C.sh.p50_2, C.sh.l60, C.sh.l61, C.rc.w, C.rc.h, C.rc.li, C.rc.mo, C.rc.n, C.rc.nc, C.rc.np, C.sh.rp8 C.irm, C.sh.rl8 C.irm, C.sh.rp9 C.irm, C.sh.rl9 C.irm, C.sh.rp10 C.irm, C.sh.rl10 C.irm, C.sh.rp11 C.irm, C.sh.rl11 C.irm, C.sh.rp12 C.irm, C.sh.rl12 C.irm, C.sh.rp16 C.irm, C.sh.rl16 C.irm, gtF hc (show r_nc R < 2 ^ 31 by omega)]
    refine s_has (by omega) (fun hb => ?_) (fun hb => ?_)
    · try simp only [Option.some.injEq, exists_eq_left', fi32, i10, i00, false_implies, true_implies, not_false_eq_true, not_true_eq_false, true_and, and_true, nI_1, lz0, lz1, ix0, ix11, ix2, C.p, C.sh.p6_0, C.sh.p6_4, C.sh.p6_7, C.sh.p6_8, C.sh.p6_9, C.sh.p6_10, C.sh.p6_11, C.sh.p6_12, C.sh.p6_13, C.sh.p50_1, C.sh.p50_2, C.sh.l60, C.sh.l61, C.rc.w, C.rc.h, C.rc.li, C.rc.mo, C.rc.n, C.rc.nc, C.rc.np, C.sh.rp8 C.irm, C.sh.rl8 C.irm, C.sh.rp9 C.irm, C.sh.rl9 C.irm, C.sh.rp10 C.irm, C.sh.rl10 C.irm, C.sh.rp11 C.irm, C.sh.rl11 C.irm, C.sh.rp12 C.irm, C.sh.rl12 C.irm, C.sh.rp16 C.irm, C.sh.rl16 C.irm, hin, nI_clamp (show c < 2 ^ 31 by omega), C.rc.nr hc]
      refine s_has (by omega) (fun hb2 => ?_) (fun hb2 => ?_)
      · try simp only [Option.some.injEq, exists_eq_left', fi32, i10, i00, false_implies, true_implies, not_false_eq_true, not_true_eq_false, true_and, and_true, nI_1, lz0, lz1, ix0, ix11, ix2, C.p, C.sh.p6_0, C.sh.p6_4, C.sh.p6_7, C.sh.p6_8, C.sh.p6_9, C.sh.p6_10, C.sh.p6_11, C.sh.p6_12, C.sh.p6_13, C.sh.p50_1, C.sh.p50_2, C.sh.l60, C.sh.l61, C.rc.w, C.rc.h, C.rc.li, C.rc.mo, C.rc.n, C.rc.nc, C.rc.np, C.sh.rp8 C.irm, C.sh.rl8 C.irm, C.sh.rp9 C.irm, C.sh.rl9 C.irm, C.sh.rp10 C.irm, C.sh.rl10 C.irm, C.sh.rp11 C.irm, C.sh.rl11 C.irm, C.sh.rp12 C.irm, C.sh.rl12 C.irm, C.sh.rp16 C.irm, C.sh.rl16 C.irm, hin, nI_clamp (show c < 2 ^ 31 by omega), C.rc.fr hc]
        exact snd _ (by rw [if_pos ⟨hb, hb2⟩]; rfl)
      · try simp only [Option.some.injEq, exists_eq_left', fi32, i10, i00, false_implies, true_implies, not_false_eq_true, not_true_eq_false, true_and, and_true, nI_1, lz0, lz1, ix0, ix11, ix2]
        exact snd _ (by rw [if_neg (fun z => by rw [hb2] at z; cases z.2)])
    · try simp only [Option.some.injEq, exists_eq_left', fi32, i10, i00, false_implies, true_implies, not_false_eq_true, not_true_eq_false, true_and, and_true, nI_1, lz0, lz1, ix0, ix11, ix2]
      exact snd _ (by rw [if_neg (fun z => by rw [hb] at z; cases z.1)])
/-- the fewest to pass under -/
def un (R : rm) (s : sc) (W : Int32) (b : Nat) : Nat → Nat → Int32 → Int32
  | 0, _, _ => -1
  | k + 1, p, X => if bt X b = true then nI p else un R s W b k (p + 1) (jn R (hg R s) (X ||| by_ R W X (r_nc R)))
def A_under (R : rm) (s : sc) (x y n : Int32) : Int32 := match ixn (r_n R) x, ixn (r_n R) y, ixn 10 n with
  | some a, some b, some k => un R s (bs (r_nc R) (we R s k)) b (r_nc R + 1) 0 (st R s a)
  | _, _, _ => -1
theorem c_under {x1 x2 x3 : Int32} {Q : mj_S → Int32 → Prop} (C : CI L S r 50 rs R s) (h : ∀ S', fr DC S S' → Q S' (A_under R s x1 x2 x3)) : M_X10_under l G 6 x1 x2 x3 S Q := by
  have hn := C.rw.n
  have nc := C.rw.nc
  unfold A_under at h
  refine e_X10_under (b_X10_under_0 C.sh.k6 (s_isSquare C (fun a e => ?_) (fun e => ?_)))
  · obtain ⟨ha, ex⟩ := ixn_some (by omega) e
    try simp only [Option.some.injEq, exists_eq_left', fi32, i10, i00, false_implies, true_implies, not_false_eq_true, not_true_eq_false, true_and, and_true, nI_1, lz0, lz1, ix0, ix11, ix2]
    refine s_isSquare C (fun b e2 => ?_) (fun e2 => ?_)
    · obtain ⟨hb, ex2⟩ := ixn_some (by omega) e2
      try simp only [Option.some.injEq, exists_eq_left', fi32, i10, i00, false_implies, true_implies, not_false_eq_true, not_true_eq_false, true_and, and_true, nI_1, lz0, lz1, ix0, ix11, ix2]
      refine s_witN (n := 9) (by omega) (fun k e3 => ?_) (fun e3 => ?_)
      · obtain ⟨hk, ex3⟩ := ixn_some (by omega) e3
        rw [e, e2, e3] at h
        try simp only [Option.some.injEq, exists_eq_left', fi32, i10, i00, false_implies, true_implies, not_false_eq_true, not_true_eq_false, true_and, and_true, nI_1, lz0, lz1, ix0, ix11, ix2]
        rw [ex, ex2, ex3]
        refine s_wideEnough C (by omega) (s_stateAround C (fun S' f F => ?_))
        have D := C.fr f
        refine (?_ : ∀ (W : Int32) (j p : Nat) (X : Int32), p + j = r_nc R + 1 → Q S' (un R s W b j p X) → V_X10_under_45 l G 6 (nI b) W X (nI p) S' Q) _ (r_nc R + 1) 0 _ (by omega) (h S' f)
        intro W j
        induction j with
        | zero =>
          intro p X hp hQ
          refine b_X10_under_45 D.sh.k6 ⟨r, D.p, fun _ => hQ, fun z => absurd ?_ z⟩
          rw [D.rc.nc]; exact nI_lt (by omega) (by omega)
        | succ j ih =>
          intro p X hp hQ
          unfold un at hQ
          refine b_X10_under_45 D.sh.k6 ⟨r, D.p, fun z => absurd z (by rw [D.rc.nc]; exact nI_nlt (by omega) (by omega)), fun _ => s_has (by omega) (fun hb => ?_) (fun hb => ?_)⟩
          · rw [if_pos hb] at hQ
            try simp only [Option.some.injEq, exists_eq_left', fi32, i10, i00, false_implies, true_implies, not_false_eq_true, not_true_eq_false, true_and, and_true, nI_1, lz0, lz1, ix0, ix11, ix2]
            exact hQ
          · rw [if_neg (by rw [hb]; decide)] at hQ
            try simp only [Option.some.injEq, exists_eq_left', fi32, i10, i00, false_implies, true_implies, not_false_eq_true, not_true_eq_false, true_and, and_true, nI_1, lz0, lz1, ix0, ix11, ix2, D.p, D.sh.p6_0, D.sh.p6_4, D.sh.p6_7, D.sh.p6_8, D.sh.p6_9, D.sh.p6_10, D.sh.p6_11, D.sh.p6_12, D.sh.p6_13, D.sh.p50_1, D.sh.p50_2, D.sh.l60, D.sh.l61, D.rc.w, D.rc.h, D.rc.li, D.rc.mo, D.rc.n, D.rc.nc, D.rc.np, D.sh.rp8 D.irm, D.sh.rl8 D.irm, D.sh.rp9 D.irm, D.sh.rl9 D.irm, D.sh.rp10 D.irm, D.sh.rl10 D.irm, D.sh.rp11 D.irm, D.sh.rl11 D.irm, D.sh.rp12 D.irm, D.sh.rl12 D.irm, D.sh.rp16 D.irm, D.sh.rl16 D.irm]
            refine s_beyond D (s_reach D.sh F ?_)
            try simp only [Option.some.injEq, exists_eq_left', fi32, i10, i00, false_implies, true_implies, not_false_eq_true, not_true_eq_false, true_and, and_true, nI_1, lz0, lz1, ix0, ix11, ix2]
            exact ih (p + 1) _ (by omega) hQ
      · rw [e, e2, e3] at h
        try simp only [Option.some.injEq, exists_eq_left', fi32, i10, i00, false_implies, true_implies, not_false_eq_true, not_true_eq_false, true_and, and_true, nI_1, lz0, lz1, ix0, ix11, ix2]
        exact h S fr.rf
    · rw [e, e2] at h
      try simp only [Option.some.injEq, exists_eq_left', fi32, i10, i00, false_implies, true_implies, not_false_eq_true, not_true_eq_false, true_and, and_true, nI_1, lz0, lz1, ix0, ix11, ix2]
      exact h S fr.rf
  · rw [e] at h
    try simp only [Option.some.injEq, exists_eq_left', fi32, i10, i00, false_implies, true_implies, not_false_eq_true, not_true_eq_false, true_and, and_true, nI_1, lz0, lz1, ix0, ix11, ix2]
    exact h S fr.rf
theorem s_areSquares {y : Int32} {Q : mj_S → Int32 → Prop} (C : CI L S r x rs R s) (h1 : y &&& (al (r_n R) ^^^ (-1)) = 0 → Q S 1) (h0 : ¬ y &&& (al (r_n R) ^^^ (-1)) = 0 → Q S 0) : M_X10_areSquares l G 6 y S Q :=
  e_X10_areSquares (b_X10_areSquares_0 C.sh.k6 ⟨r, C.p, s_allS C.sh C.irm C.rc ⟨h0, h1⟩⟩)
theorem in_al {n : Nat} {y : Int32} (hn : n ≤ 20) : y &&& (al n ^^^ (-1)) = 0 ↔ cp_in y n := by
  constructor
  · intro e i hi
    have h32 := b_lt hi
    have := congrArg (fun z => bt z i) e
    simp only [b_and, b_not _ h32, b_al hn, hi, b_0] at this
    simpa using this
  · intro h
    apply b_ext
    intro i hi
    rw [b_and, b_not _ hi, b_al hn, b_0]
    cases e : bt y i with
    | false => rfl
    | true => simp [h i e]
/-- the fewest to draw otherwise -/
def jf (R : rm) (s : sc) (x y : Int32) : Nat → Int32
  | 0 => -1
  | k + 1 => if ¬ (nI k &&& fa R s) = 0 ∨ (¬ jf R s x y k = -1 ∧ ¬ bc (nI k) < bc (jf R s x y k)) then jf R s x y k else if (x &&& (jn R (hg R s ^^^ nI k) (x &&& (-x)) ^^^ (-1))) = 0 ∧ (y &&& jn R (hg R s ^^^ nI k) (x &&& (-x))) = 0 then nI k else jf R s x y k
def A_join (R : rm) (s : sc) (x y : Int32) : Int32 := if r_n R = 0 ∨ ¬ (x &&& (al (r_n R) ^^^ (-1))) = 0 ∨ ¬ (y &&& (al (r_n R) ^^^ (-1))) = 0 ∨ x = 0 then -1 else jf R s x y (2 ^ r_nc R)
theorem c_join {x1 x2 : Int32} {Q : mj_S → Int32 → Prop} (C : CI L S r 50 rs R s) (h : ∀ S', fr DC S S' → Q S' (A_join R s x1 x2)) : M_X10_join l G 6 x1 x2 S Q := by
  have hn := C.rw.n
  have nc := C.rw.nc
  have h10 := pow10 nc
  have hpos : 0 < 2 ^ r_nc R := Nat.pow_pos (by omega)
  unfold A_join at h
  refine e_X10_join (b_X10_join_0 C.sh.k6 (s_hasRoom C (fun e => ?_) (fun e => ?_)))
  · try simp only [Option.some.injEq, exists_eq_left', fi32, i10, i00, false_implies, true_implies, not_false_eq_true, not_true_eq_false, true_and, and_true, nI_1, lz0, lz1, ix0, ix11, ix2]
    refine s_areSquares C (fun e1 => ?_) (fun e1 => ?_)
    · try simp only [Option.some.injEq, exists_eq_left', fi32, i10, i00, false_implies, true_implies, not_false_eq_true, not_true_eq_false, true_and, and_true, nI_1, lz0, lz1, ix0, ix11, ix2]
      refine s_areSquares C (fun e2 => ?_) (fun e2 => ?_)
      · try simp only [Option.some.injEq, exists_eq_left', fi32, i10, i00, false_implies, true_implies, not_false_eq_true, not_true_eq_false, true_and, and_true, nI_1, lz0, lz1, ix0, ix11, ix2, C.p, C.sh.p6_0, C.sh.p6_4, C.sh.p6_7, C.sh.p6_8, C.sh.p6_9, C.sh.p6_10, C.sh.p6_11, C.sh.p6_12, C.sh.p6_13, C.sh.p50_1, C.sh.p50_2, C.sh.l60, C.sh.l61, C.rc.w, C.rc.h, C.rc.li, C.rc.mo, C.rc.n, C.rc.nc, C.rc.np, C.sh.rp8 C.irm, C.sh.rl8 C.irm, C.sh.rp9 C.irm, C.sh.rl9 C.irm, C.sh.rp10 C.irm, C.sh.rl10 C.irm, C.sh.rp11 C.irm, C.sh.rl11 C.irm, C.sh.rp12 C.irm, C.sh.rl12 C.irm, C.sh.rp16 C.irm, C.sh.rl16 C.irm]
        refine ⟨fun e3 => ?_, fun e3 => ?_⟩
        · rw [if_neg (fun z => by rcases z with z | z | z | z; omega; exact z e1; exact z e2; exact e3 z)] at h
          refine s_hung C ?_
          try simp only [Option.some.injEq, exists_eq_left', fi32, i10, i00, false_implies, true_implies, not_false_eq_true, not_true_eq_false, true_and, and_true, nI_1, lz0, lz1, ix0, ix11, ix2, C.p, C.sh.p6_0, C.sh.p6_4, C.sh.p6_7, C.sh.p6_8, C.sh.p6_9, C.sh.p6_10, C.sh.p6_11, C.sh.p6_12, C.sh.p6_13, C.sh.p50_1, C.sh.p50_2, C.sh.l60, C.sh.l61, C.rc.w, C.rc.h, C.rc.li, C.rc.mo, C.rc.n, C.rc.nc, C.rc.np, C.sh.rp8 C.irm, C.sh.rl8 C.irm, C.sh.rp9 C.irm, C.sh.rl9 C.irm, C.sh.rp10 C.irm, C.sh.rl10 C.irm, C.sh.rp11 C.irm, C.sh.rl11 C.irm, C.sh.rp12 C.irm, C.sh.rl12 C.irm, C.sh.rp16 C.irm, C.sh.rl16 C.irm]
          refine s_fallen C ?_
          refine dn (P := fun k => ∀ T, fr DC S T → V_X10_join_52 l G 6 x1 x2 (hg R s) (fa R s) (jf R s x1 x2 k) (nI k) T Q) (2 ^ r_nc R) ?_ ?_ S fr.rf
          · intro T f
            have D := C.fr f
            refine b_X10_join_52 D.sh.k6 ⟨r, D.p, s_allC D.sh D.irm D.rc ⟨fun _ => h T f, fun z => absurd ?_ z⟩⟩
            rw [al_nI (by omega)]; exact nI_lt (by omega) (by omega)
          · intro k hk ih T f
            have D := C.fr f
            refine b_X10_join_52 D.sh.k6 ⟨r, D.p, s_allC D.sh D.irm D.rc ⟨fun z => absurd z (by rw [al_nI (by omega)]; exact nI_nlt (by omega) (by omega)), fun _ => ⟨fun z => ?_, fun z => ?_⟩⟩⟩
            · have ih2 := ih T f
              unfold jf at ih2
              rw [if_pos (Or.inl z)] at ih2
              try simp only [Option.some.injEq, exists_eq_left', fi32, i10, i00, false_implies, true_implies, not_false_eq_true, not_true_eq_false, true_and, and_true, nI_1, lz0, lz1, ix0, ix11, ix2]
              exact ih2
            · have go : (¬ (¬ jf R s x1 x2 k = -1 ∧ ¬ bc (nI k) < bc (jf R s x1 x2 k))) → V_X10_join_94 l G 6 x1 x2 (hg R s) (fa R s) (jf R s x1 x2 k) (nI k) T Q := by
                intro hg'
                refine b_X10_join_94 D.sh.k6 ⟨79, D.sh.p6_10, r, D.p, s_part D.sh D.rw D.irm D.r51 D.rc fun T2 f2 F => ⟨79, (D.sh.fr f2).p6_10, s_reach (D.sh.fr f2) F ?_⟩⟩
                have ih2 := ih T2 (f.tr f2)
                unfold jf at ih2
                rw [if_neg (fun q => by rcases q with q | q; exact q z; exact hg' q)] at ih2
                try simp only [Option.some.injEq, exists_eq_left', fi32, i10, i00, false_implies, true_implies, not_false_eq_true, not_true_eq_false, true_and, and_true, nI_1, lz0, lz1, ix0, ix11, ix2]
                refine ⟨fun y => ?_, fun y => ⟨fun y2 => ?_, fun y2 => ?_⟩⟩
                · rw [if_neg (fun q => y q.1)] at ih2; exact ih2
                · rw [if_neg (fun q => y2 q.2)] at ih2; exact ih2
                · rw [if_pos ⟨y, y2⟩] at ih2; exact ih2
              refine ⟨fun y => go (fun q => q.1 y), fun y => s_bc (s_bc ⟨fun y2 => go (fun q => q.2 y2), fun y2 => ?_⟩)⟩
              have ih2 := ih T f
              unfold jf at ih2
              rw [if_pos (Or.inr ⟨y, y2⟩)] at ih2
              try simp only [Option.some.injEq, exists_eq_left', fi32, i10, i00, false_implies, true_implies, not_false_eq_true, not_true_eq_false, true_and, and_true, nI_1, lz0, lz1, ix0, ix11, ix2]
              exact ih2
        · rw [if_pos (Or.inr (Or.inr (Or.inr e3)))] at h
          exact h S fr.rf
      · rw [if_pos (Or.inr (Or.inr (Or.inl e2)))] at h
        try simp only [Option.some.injEq, exists_eq_left', fi32, i10, i00, false_implies, true_implies, not_false_eq_true, not_true_eq_false, true_and, and_true, nI_1, lz0, lz1, ix0, ix11, ix2]
        exact h S fr.rf
    · rw [if_pos (Or.inr (Or.inl e1))] at h
      try simp only [Option.some.injEq, exists_eq_left', fi32, i10, i00, false_implies, true_implies, not_false_eq_true, not_true_eq_false, true_and, and_true, nI_1, lz0, lz1, ix0, ix11, ix2]
      exact h S fr.rf
  · rw [if_pos (Or.inl e)] at h
    try simp only [Option.some.injEq, exists_eq_left', fi32, i10, i00, false_implies, true_implies, not_false_eq_true, not_true_eq_false, true_and, and_true, nI_1, lz0, lz1, ix0, ix11, ix2]
    exact h S fr.rf
end C3
