/-! the simple calls -/
theorem ixn_i {n k : Nat} {x : Int32} (hk : k < n) (h : x.toInt = k) : ixn n x = some k := by
  unfold ixn
  rw [if_pos (by omega), h]
  simp
theorem ixn_o {n : Nat} {x : Int32} (h : x.toInt < 0 ∨ (n : Int) ≤ x.toInt) : ixn n x = none := if_neg (by omega)
theorem t_nI {x : Int32} {k : Nat} (hk : k < 2 ^ 31) (h : x.toInt = k) : x = nI k := by
  apply Int32.toInt_inj.mp
  rw [nI_toInt hk]; exact h
def A_rule (R : rm) (x : Int32) : Int32 := if r_n R = 0 then -1 else match ixn 4 x with
  | none => -1
  | some k => nI (R.1 k)
def cvl (R : rm) (s : sc) (t : Nat → Nat) (c k : Nat) : Int32 := if k = 0 then nI (r_nr R c) else if k = 1 then nI (r_fr R c) else if k = 2 then nI (r_ve R c) else if k = 3 then nI (s_cl s c) else if k = 4 then nI (r_gp R c) else if k = 5 then (if bt (s_bk s) c = true then 1 else 0) else if k = 6 then (if bt (hg R s) c = true then 1 else 0) else nI (t c)
def A_curtain (R : rm) (s : sc) (t : Nat → Nat) (x y : Int32) : Int32 := match ixn (r_nc R) x, ixn 8 y with
  | some c, some k => cvl R s t c k
  | _, _ => -1
def pvl (R : rm) (s : sc) (p w : Nat) : Int32 := if w = 0 then nI (s_pl s p) else if w = 1 then nI (r_mi R p) else if w = 2 then nz (st R s (s_pl s p)) else if lo R s (st R s (s_pl s p)) (r_np R) = some p then 1 else 0
def P_person (R : rm) (s : sc) (x y : Int32) : Option Int32 := match ixn (r_np R) x, ixn 4 y with
  | some p, some w => some (pvl R s p w)
  | _, _ => none
section MS
variable {l : Launch} {G : mj_G} {L r rs : Nat} {R : rm} {s : sc} {S : mj_S} {t : Nat → Nat}
theorem c_rule {x1 : Int32} {Q : mj_S → Int32 → Prop} (C : CI L S r 50 rs R s) (h : Q S (A_rule R x1)) : M_X10_rule l G 6 x1 S Q := by
  unfold A_rule at h
  refine e_X10_rule (b_X10_rule_0 C.sh.k6 (s_hasRoom C (fun e => ?_) (fun e => ?_)))
  · rw [if_neg (by omega)] at h
    refine ⟨fun _ => ⟨fun z => ?_, fun z => ⟨r, C.p, ?_⟩, fun z => ⟨r, C.p, ?_⟩, fun z => ⟨r, C.p, ?_⟩, fun z => ⟨r, C.p, ?_⟩⟩, fun z => absurd z (by decide)⟩
    · rw [ixn_o (n := 4) (by omega)] at h; exact h
    · rw [ixn_i (k := 0) (by omega) z] at h; rw [C.rc.w]; exact h
    · rw [ixn_i (k := 1) (by omega) z] at h; rw [C.rc.h]; exact h
    · rw [ixn_i (k := 2) (by omega) z] at h; rw [C.rc.li]; exact h
    · rw [ixn_i (k := 3) (by omega) z] at h; rw [C.rc.mo]; exact h
  · rw [if_pos e] at h
    try simp only [Option.some.injEq, exists_eq_left', fi32, i10, i00, false_implies, true_implies, not_false_eq_true, not_true_eq_false, true_and, and_true, nI_1, lz0, lz1, ix0, ix11, ix2]
    exact h
theorem c_curtain {x1 x2 : Int32} {Q : mj_S → Int32 → Prop} (C : CI L S r 50 rs R s) (T : TKc l G S 50 (r_nc R) t) (h : ∀ S', fr DC S S' → Q S' (A_curtain R s t x1 x2)) : M_X10_curtain l G 6 x1 x2 S Q := by
  have nc := C.rw.nc
  unfold A_curtain at h
  refine e_X10_curtain (b_X10_curtain_0 C.sh.k6 (s_isCurtain C (fun c e => ?_) (fun e => ?_)))
  · obtain ⟨hc, ec⟩ := ixn_some (by omega) e
    rw [e] at h
    rw [ec]
    have hin : vp_in (nI c) 10 := vp_nI (by omega) (by omega)
    have cc : (nI c).toNatClampNeg = c := nI_clamp (by omega)
    have h0 := h S fr.rf
    refine ⟨fun _ => ⟨fun z => ?_, fun z => ?_, fun z => ?_, fun z => ?_, fun z => ?_, fun z => ?_, fun z => ?_, fun z => ?_, fun z => ?_⟩, fun z => absurd z (by decide)⟩
    · rw [ixn_o (n := 8) (by omega)] at h0; exact h0
    · rw [ixn_i (k := 0) (by omega) z] at h0
      try simp only [Option.some.injEq, exists_eq_left', fi32, i10, i00, false_implies, true_implies, not_false_eq_true, not_true_eq_false, true_and, and_true, nI_1, lz0, lz1, ix0, ix11, ix2, C.p, C.sh.p6_0, C.sh.p6_4, C.sh.p6_7, C.sh.p6_8, C.sh.p6_9, C.sh.p6_10, C.sh.p6_11, C.sh.p6_12, C.sh.p6_13, C.sh.p50_1, C.sh.p50_2, C.sh.l60, C.sh.l61, C.rc.w, C.rc.h, C.rc.li, C.rc.mo, C.rc.n, C.rc.nc, C.rc.np, C.sh.rp8 C.irm, C.sh.rl8 C.irm, C.sh.rp9 C.irm, C.sh.rl9 C.irm, C.sh.rp10 C.irm, C.sh.rl10 C.irm, C.sh.rp11 C.irm, C.sh.rl11 C.irm, C.sh.rp12 C.irm, C.sh.rl12 C.irm, C.sh.rp16 C.irm, C.sh.rl16 C.irm, hin, cc, C.rc.nr hc]
      exact h0
    · rw [ixn_i (k := 1) (by omega) z] at h0
      try simp only [Option.some.injEq, exists_eq_left', fi32, i10, i00, false_implies, true_implies, not_false_eq_true, not_true_eq_false, true_and, and_true, nI_1, lz0, lz1, ix0, ix11, ix2, C.p, C.sh.p6_0, C.sh.p6_4, C.sh.p6_7, C.sh.p6_8, C.sh.p6_9, C.sh.p6_10, C.sh.p6_11, C.sh.p6_12, C.sh.p6_13, C.sh.p50_1, C.sh.p50_2, C.sh.l60, C.sh.l61, C.rc.w, C.rc.h, C.rc.li, C.rc.mo, C.rc.n, C.rc.nc, C.rc.np, C.sh.rp8 C.irm, C.sh.rl8 C.irm, C.sh.rp9 C.irm, C.sh.rl9 C.irm, C.sh.rp10 C.irm, C.sh.rl10 C.irm, C.sh.rp11 C.irm, C.sh.rl11 C.irm, C.sh.rp12 C.irm, C.sh.rl12 C.irm, C.sh.rp16 C.irm, C.sh.rl16 C.irm, hin, cc, C.rc.fr hc]
      exact h0
    · rw [ixn_i (k := 2) (by omega) z] at h0
      try simp only [Option.some.injEq, exists_eq_left', fi32, i10, i00, false_implies, true_implies, not_false_eq_true, not_true_eq_false, true_and, and_true, nI_1, lz0, lz1, ix0, ix11, ix2, C.p, C.sh.p6_0, C.sh.p6_4, C.sh.p6_7, C.sh.p6_8, C.sh.p6_9, C.sh.p6_10, C.sh.p6_11, C.sh.p6_12, C.sh.p6_13, C.sh.p50_1, C.sh.p50_2, C.sh.l60, C.sh.l61, C.rc.w, C.rc.h, C.rc.li, C.rc.mo, C.rc.n, C.rc.nc, C.rc.np, C.sh.rp8 C.irm, C.sh.rl8 C.irm, C.sh.rp9 C.irm, C.sh.rl9 C.irm, C.sh.rp10 C.irm, C.sh.rl10 C.irm, C.sh.rp11 C.irm, C.sh.rl11 C.irm, C.sh.rp12 C.irm, C.sh.rl12 C.irm, C.sh.rp16 C.irm, C.sh.rl16 C.irm, hin, cc, C.rc.ve hc]
      exact h0
    · rw [ixn_i (k := 3) (by omega) z] at h0
      try simp only [Option.some.injEq, exists_eq_left', fi32, i10, i00, false_implies, true_implies, not_false_eq_true, not_true_eq_false, true_and, and_true, nI_1, lz0, lz1, ix0, ix11, ix2, C.p, C.sh.p6_0, C.sh.p6_4, C.sh.p6_7, C.sh.p6_8, C.sh.p6_9, C.sh.p6_10, C.sh.p6_11, C.sh.p6_12, C.sh.p6_13, C.sh.p50_1, C.sh.p50_2, C.sh.l60, C.sh.l61, C.rc.w, C.rc.h, C.rc.li, C.rc.mo, C.rc.n, C.rc.nc, C.rc.np, C.sh.rp8 C.irm, C.sh.rl8 C.irm, C.sh.rp9 C.irm, C.sh.rl9 C.irm, C.sh.rp10 C.irm, C.sh.rl10 C.irm, C.sh.rp11 C.irm, C.sh.rl11 C.irm, C.sh.rp12 C.irm, C.sh.rl12 C.irm, C.sh.rp16 C.irm, C.sh.rl16 C.irm, hin, cc, C.sn.cl hc]
      exact h0
    · rw [ixn_i (k := 4) (by omega) z] at h0
      try simp only [Option.some.injEq, exists_eq_left', fi32, i10, i00, false_implies, true_implies, not_false_eq_true, not_true_eq_false, true_and, and_true, nI_1, lz0, lz1, ix0, ix11, ix2, C.p, C.sh.p6_0, C.sh.p6_4, C.sh.p6_7, C.sh.p6_8, C.sh.p6_9, C.sh.p6_10, C.sh.p6_11, C.sh.p6_12, C.sh.p6_13, C.sh.p50_1, C.sh.p50_2, C.sh.l60, C.sh.l61, C.rc.w, C.rc.h, C.rc.li, C.rc.mo, C.rc.n, C.rc.nc, C.rc.np, C.sh.rp8 C.irm, C.sh.rl8 C.irm, C.sh.rp9 C.irm, C.sh.rl9 C.irm, C.sh.rp10 C.irm, C.sh.rl10 C.irm, C.sh.rp11 C.irm, C.sh.rl11 C.irm, C.sh.rp12 C.irm, C.sh.rl12 C.irm, C.sh.rp16 C.irm, C.sh.rl16 C.irm, hin, cc, C.rc.gp hc]
      exact h0
    · rw [ixn_i (k := 5) (by omega) z] at h0
      have h0' : Q S (if bt (s_bk s) c = true then 1 else 0) := h0
      try simp only [Option.some.injEq, exists_eq_left', fi32, i10, i00, false_implies, true_implies, not_false_eq_true, not_true_eq_false, true_and, and_true, nI_1, lz0, lz1, ix0, ix11, ix2, C.p, C.sh.p6_0, C.sh.p6_4, C.sh.p6_7, C.sh.p6_8, C.sh.p6_9, C.sh.p6_10, C.sh.p6_11, C.sh.p6_12, C.sh.p6_13, C.sh.p50_1, C.sh.p50_2, C.sh.l60, C.sh.l61, C.rc.w, C.rc.h, C.rc.li, C.rc.mo, C.rc.n, C.rc.nc, C.rc.np, C.sh.rp8 C.irm, C.sh.rl8 C.irm, C.sh.rp9 C.irm, C.sh.rl9 C.irm, C.sh.rp10 C.irm, C.sh.rl10 C.irm, C.sh.rp11 C.irm, C.sh.rl11 C.irm, C.sh.rp12 C.irm, C.sh.rl12 C.irm, C.sh.rp16 C.irm, C.sh.rl16 C.irm, C.sn.bk]
      refine s_has (by omega) (fun hb => ?_) (fun hb => ?_)
      · rw [if_pos hb] at h0'
        try simp only [Option.some.injEq, exists_eq_left', fi32, i10, i00, false_implies, true_implies, not_false_eq_true, not_true_eq_false, true_and, and_true, nI_1, lz0, lz1, ix0, ix11, ix2]
        exact h0'
      · rw [if_neg (by rw [hb]; decide)] at h0'
        try simp only [Option.some.injEq, exists_eq_left', fi32, i10, i00, false_implies, true_implies, not_false_eq_true, not_true_eq_false, true_and, and_true, nI_1, lz0, lz1, ix0, ix11, ix2]
        exact h0'
    · rw [ixn_i (k := 6) (by omega) z] at h0
      have h0' : Q S (if bt (hg R s) c = true then 1 else 0) := h0
      try simp only [Option.some.injEq, exists_eq_left', fi32, i10, i00, false_implies, true_implies, not_false_eq_true, not_true_eq_false, true_and, and_true, nI_1, lz0, lz1, ix0, ix11, ix2, C.p, C.sh.p6_0, C.sh.p6_4, C.sh.p6_7, C.sh.p6_8, C.sh.p6_9, C.sh.p6_10, C.sh.p6_11, C.sh.p6_12, C.sh.p6_13, C.sh.p50_1, C.sh.p50_2, C.sh.l60, C.sh.l61, C.rc.w, C.rc.h, C.rc.li, C.rc.mo, C.rc.n, C.rc.nc, C.rc.np, C.sh.rp8 C.irm, C.sh.rl8 C.irm, C.sh.rp9 C.irm, C.sh.rl9 C.irm, C.sh.rp10 C.irm, C.sh.rl10 C.irm, C.sh.rp11 C.irm, C.sh.rl11 C.irm, C.sh.rp12 C.irm, C.sh.rl12 C.irm, C.sh.rp16 C.irm, C.sh.rl16 C.irm]
      refine s_hung C (s_has (by omega) (fun hb => ?_) (fun hb => ?_))
      · rw [if_pos hb] at h0'
        try simp only [Option.some.injEq, exists_eq_left', fi32, i10, i00, false_implies, true_implies, not_false_eq_true, not_true_eq_false, true_and, and_true, nI_1, lz0, lz1, ix0, ix11, ix2]
        exact h0'
      · rw [if_neg (by rw [hb]; decide)] at h0'
        try simp only [Option.some.injEq, exists_eq_left', fi32, i10, i00, false_implies, true_implies, not_false_eq_true, not_true_eq_false, true_and, and_true, nI_1, lz0, lz1, ix0, ix11, ix2]
        exact h0'
    · rw [ixn_i (k := 7) (by omega) z] at h
      try simp only [Option.some.injEq, exists_eq_left', fi32, i10, i00, false_implies, true_implies, not_false_eq_true, not_true_eq_false, true_and, and_true, nI_1, lz0, lz1, ix0, ix11, ix2, C.p, C.sh.p6_0, C.sh.p6_4, C.sh.p6_7, C.sh.p6_8, C.sh.p6_9, C.sh.p6_10, C.sh.p6_11, C.sh.p6_12, C.sh.p6_13, C.sh.p50_1, C.sh.p50_2, C.sh.l60, C.sh.l61, C.rc.w, C.rc.h, C.rc.li, C.rc.mo, C.rc.n, C.rc.nc, C.rc.np, C.sh.rp8 C.irm, C.sh.rl8 C.irm, C.sh.rp9 C.irm, C.sh.rl9 C.irm, C.sh.rp10 C.irm, C.sh.rl10 C.irm, C.sh.rp11 C.irm, C.sh.rl11 C.irm, C.sh.rp12 C.irm, C.sh.rl12 C.irm, C.sh.rp16 C.irm, C.sh.rl16 C.irm]
      exact T S c _ fr.rf hc (fun S' f => h S' (DL_DC f))
  · rw [e] at h
    try simp only [Option.some.injEq, exists_eq_left', fi32, i10, i00, false_implies, true_implies, not_false_eq_true, not_true_eq_false, true_and, and_true, nI_1, lz0, lz1, ix0, ix11, ix2]
    exact h S fr.rf
theorem c_person {x1 x2 : Int32} {Q : mj_S → Int32 → Prop} {QX : mj_S → Prop} (hl : l.stackTraces = false) (C : CI L S r 50 rs R s) (h1 : ∀ v, P_person R s x1 x2 = some v → ∀ S', fr DC S S' → Q S' v) (h0 : P_person R s x1 x2 = none → QX S) : MX_X10_person l G 6 x1 x2 S Q QX := by
  have np := C.rw.np
  have hn := C.rw.n
  unfold P_person at h1 h0
  refine e_X10_person (b_X10_person_0 hl C.sh.k6 (s_isPerson C (fun p e => ?_) (fun e => ?_)))
  · obtain ⟨hp, ep⟩ := ixn_some (by omega) e
    rw [e] at h1 h0
    rw [ep]
    have hpl := C.sw.pl hp
    have hin : vp_in (nI p) 6 := vp_nI (by omega) (by omega)
    have cc : (nI p).toNatClampNeg = p := nI_clamp (by omega)
    refine ⟨fun z => absurd z (by decide), fun _ => s_witN (n := 3) (by omega) (fun w e2 => ?_) (fun e2 => ?_)⟩
    · obtain ⟨hw, ew⟩ := ixn_some (by omega) e2
      have xt : x2.toInt = w := by rw [ew, nI_toInt (by omega)]
      refine ⟨fun _ => ⟨fun z => ?_, fun z => ?_, fun z => ?_, fun z => ?_⟩, fun z => absurd z (by decide)⟩
      · have w3 : w = 3 := by omega
        rw [ixn_i (n := 4) (k := 3) (by omega) (by omega)] at h1
        try simp only [Option.some.injEq, exists_eq_left', fi32, i10, i00, false_implies, true_implies, not_false_eq_true, not_true_eq_false, true_and, and_true, nI_1, lz0, lz1, ix0, ix11, ix2, C.p, C.sh.p6_0, C.sh.p6_4, C.sh.p6_7, C.sh.p6_8, C.sh.p6_9, C.sh.p6_10, C.sh.p6_11, C.sh.p6_12, C.sh.p6_13, C.sh.p50_1, C.sh.p50_2, C.sh.l60, C.sh.l61, C.rc.w, C.rc.h, C.rc.li, C.rc.mo, C.rc.n, C.rc.nc, C.rc.np, C.sh.rp8 C.irm, C.sh.rl8 C.irm, C.sh.rp9 C.irm, C.sh.rl9 C.irm, C.sh.rp10 C.irm, C.sh.rl10 C.irm, C.sh.rp11 C.irm, C.sh.rl11 C.irm, C.sh.rp12 C.irm, C.sh.rl12 C.irm, C.sh.rp16 C.irm, C.sh.rl16 C.irm, hin, cc, C.sn.pl hp]
        refine s_stateAround C (fun S1 f1 _ => s_lordIn (C.fr f1) ?_)
        have h := h1 _ rfl S1 f1
        have h' : Q S1 (if lo R s (st R s (s_pl s p)) (r_np R) = some p then 1 else 0) := h
        try simp only [Option.some.injEq, exists_eq_left', fi32, i10, i00, false_implies, true_implies, not_false_eq_true, not_true_eq_false, true_and, and_true, nI_1, lz0, lz1, ix0, ix11, ix2, oI_e (o := lo R s (st R s (s_pl s p)) (r_np R)) (p := p) (fun m z => by have := lo_lt z; omega) (by omega)]
        exact ⟨fun y => by rw [if_neg y] at h'; exact h', fun y => by rw [if_pos y] at h'; exact h'⟩
      · rw [ixn_i (n := 4) (k := 0) (by omega) z] at h1
        try simp only [Option.some.injEq, exists_eq_left', fi32, i10, i00, false_implies, true_implies, not_false_eq_true, not_true_eq_false, true_and, and_true, nI_1, lz0, lz1, ix0, ix11, ix2, C.p, C.sh.p6_0, C.sh.p6_4, C.sh.p6_7, C.sh.p6_8, C.sh.p6_9, C.sh.p6_10, C.sh.p6_11, C.sh.p6_12, C.sh.p6_13, C.sh.p50_1, C.sh.p50_2, C.sh.l60, C.sh.l61, C.rc.w, C.rc.h, C.rc.li, C.rc.mo, C.rc.n, C.rc.nc, C.rc.np, C.sh.rp8 C.irm, C.sh.rl8 C.irm, C.sh.rp9 C.irm, C.sh.rl9 C.irm, C.sh.rp10 C.irm, C.sh.rl10 C.irm, C.sh.rp11 C.irm, C.sh.rl11 C.irm, C.sh.rp12 C.irm, C.sh.rl12 C.irm, C.sh.rp16 C.irm, C.sh.rl16 C.irm, hin, cc, C.sn.pl hp]
        exact h1 _ rfl S fr.rf
      · rw [ixn_i (n := 4) (k := 1) (by omega) z] at h1
        try simp only [Option.some.injEq, exists_eq_left', fi32, i10, i00, false_implies, true_implies, not_false_eq_true, not_true_eq_false, true_and, and_true, nI_1, lz0, lz1, ix0, ix11, ix2, C.p, C.sh.p6_0, C.sh.p6_4, C.sh.p6_7, C.sh.p6_8, C.sh.p6_9, C.sh.p6_10, C.sh.p6_11, C.sh.p6_12, C.sh.p6_13, C.sh.p50_1, C.sh.p50_2, C.sh.l60, C.sh.l61, C.rc.w, C.rc.h, C.rc.li, C.rc.mo, C.rc.n, C.rc.nc, C.rc.np, C.sh.rp8 C.irm, C.sh.rl8 C.irm, C.sh.rp9 C.irm, C.sh.rl9 C.irm, C.sh.rp10 C.irm, C.sh.rl10 C.irm, C.sh.rp11 C.irm, C.sh.rl11 C.irm, C.sh.rp12 C.irm, C.sh.rl12 C.irm, C.sh.rp16 C.irm, C.sh.rl16 C.irm, hin, cc, C.rc.mi hp]
        exact h1 _ rfl S fr.rf
      · rw [ixn_i (n := 4) (k := 2) (by omega) z] at h1
        try simp only [Option.some.injEq, exists_eq_left', fi32, i10, i00, false_implies, true_implies, not_false_eq_true, not_true_eq_false, true_and, and_true, nI_1, lz0, lz1, ix0, ix11, ix2, C.p, C.sh.p6_0, C.sh.p6_4, C.sh.p6_7, C.sh.p6_8, C.sh.p6_9, C.sh.p6_10, C.sh.p6_11, C.sh.p6_12, C.sh.p6_13, C.sh.p50_1, C.sh.p50_2, C.sh.l60, C.sh.l61, C.rc.w, C.rc.h, C.rc.li, C.rc.mo, C.rc.n, C.rc.nc, C.rc.np, C.sh.rp8 C.irm, C.sh.rl8 C.irm, C.sh.rp9 C.irm, C.sh.rl9 C.irm, C.sh.rp10 C.irm, C.sh.rl10 C.irm, C.sh.rp11 C.irm, C.sh.rl11 C.irm, C.sh.rp12 C.irm, C.sh.rl12 C.irm, C.sh.rp16 C.irm, C.sh.rl16 C.irm, hin, cc, C.sn.pl hp]
        exact s_stateAround C (fun S1 f1 _ => s_lowest (st_n0 C.rw hpl) (h1 _ rfl S1 f1))
    · rw [e2] at h0
      exact ⟨fun z => absurd rfl z, fun _ => b_X10_person_17 hl (h0 rfl)⟩
  · rw [e] at h0
    exact ⟨fun _ => b_X10_person_17 hl (h0 rfl), fun z => absurd rfl z⟩
end MS
section RMS2
variable {l : Launch} {G : mj_G} {L : Nat} {R : rm} {s : sc} {S : mj_S} {t : Nat → Nat}
theorem d_rule {x1 : Int32} {Q : mj_S → Int32 → Prop} (C : RI L S R s) (h : Q S (A_rule R x1)) : M_X11_rule l G 89 x1 S Q := by
  unfold A_rule at h
  refine e_X11_rule (b_X11_rule_0 C.sh.k89 ?_)
  simp only [C.n0]
  refine ⟨fun e => by rw [if_pos e] at h; exact h, fun e => ?_⟩
  rw [if_neg e] at h
  refine s_rinK (n := 3) (by omega) (fun k e2 => ?_) (fun e2 => ?_)
  · obtain ⟨hk, ek⟩ := ixn_some (by omega) e2
    rw [e2] at h
    rw [ek]
    try simp only [Option.some.injEq, exists_eq_left', fi32, i10, i00, false_implies, true_implies, not_false_eq_true, not_true_eq_false, true_and, and_true, nI_1, lz0, lz1, ix0, ix11, ix2, C.sh.p89_22, C.sh.p89_23, C.sh.p89_24, C.sh.p89_28, C.sh.p89_32, C.sh.p89_33, C.sh.l103, C.sh.l104, C.sh.l105, C.sh.l106, C.sh.l108, C.sh.l109, C.rr.n, C.rr.nc, C.rr.np, C.rr.w, C.rr.h, C.rr.li, C.rr.mo, C.rs.bk, C.rs.yr, ix4, ix6, vp_nI (show k < 4 by omega) (show 4 < 2 ^ 31 by omega), nI_clamp (show k < 2 ^ 31 by omega)]
    have : m_gi S 103 k = nI (R.1 k) := by
      rcases Nat.lt_or_ge k 1 with z | z
      · rw [show k = 0 by omega]; exact C.rr.w
      · rcases Nat.lt_or_ge k 2 with z2 | z2
        · rw [show k = 1 by omega]; exact C.rr.h
        · rcases Nat.lt_or_ge k 3 with z3 | z3
          · rw [show k = 2 by omega]; exact C.rr.li
          · rw [show k = 3 by omega]; exact C.rr.mo
    rw [this]; exact h
  · rw [e2] at h
    try simp only [Option.some.injEq, exists_eq_left', fi32, i10, i00, false_implies, true_implies, not_false_eq_true, not_true_eq_false, true_and, and_true, nI_1, lz0, lz1, ix0, ix11, ix2]
    exact h
theorem bit1 (x : Int32) {n : Nat} (hn : n < 32) : (x >>> (nI n &&& 31)) &&& 1 = if bt x n = true then 1 else 0 := by
  by_cases e : bt x n = true
  · rw [if_pos e]; exact (b_test1 x hn).mpr e
  · rw [if_neg e]; exact (b_test x hn).mpr (bf e)
theorem d_curtain {x1 x2 : Int32} {Q : mj_S → Int32 → Prop} (C : RI L S R s) (T : TKr l G S (r_nc R) t) (h : ∀ S', fr DR S S' → Q S' (A_curtain R s t x1 x2)) : M_X11_curtain l G 89 x1 x2 S Q := by
  have nc := C.rw.nc
  unfold A_curtain at h
  refine e_X11_curtain (b_X11_curtain_0 C.sh.k89 (s_risCurtain C (fun c e => ?_) (fun e => ?_)))
  · obtain ⟨hc, ec⟩ := ixn_some (by omega) e
    rw [e] at h
    rw [ec]
    have h0 := h S fr.rf
    refine ⟨fun z => absurd z (by decide), fun _ => s_rinK (n := 7) (by omega) (fun k e2 => ?_) (fun e2 => ?_)⟩
    · obtain ⟨hk, ek⟩ := ixn_some (by omega) e2
      have xt : x2.toInt = k := by rw [ek, nI_toInt (by omega)]
      refine ⟨fun _ => ⟨fun z => by omega, fun z => ?_, fun z => ?_, fun z => ?_, fun z => ?_, fun z => ?_, fun z => ?_, fun z => ?_, fun z => ?_⟩, fun z => absurd z (by decide)⟩
      · rw [ixn_i (n := 8) (k := 0) (by omega) z] at h0
        exact s_firstSide C hc h0
      · rw [ixn_i (n := 8) (k := 1) (by omega) z] at h0
        exact s_secondSide C hc h0
      · rw [ixn_i (n := 8) (k := 2) (by omega) z] at h0
        rw [t_nI (k := 2) (by omega) z]
        refine b_X11_curtain_121 C.sh.k89 (s_of C hc (by omega) ?_)
        rw [C.rr.ve hc]; exact h0
      · rw [ixn_i (n := 8) (k := 3) (by omega) z] at h0
        try simp only [Option.some.injEq, exists_eq_left', fi32, i10, i00, false_implies, true_implies, not_false_eq_true, not_true_eq_false, true_and, and_true, nI_1, lz0, lz1, ix0, ix11, ix2, C.sh.p89_22, C.sh.p89_23, C.sh.p89_24, C.sh.p89_28, C.sh.p89_32, C.sh.p89_33, C.sh.l103, C.sh.l104, C.sh.l105, C.sh.l106, C.sh.l108, C.sh.l109, C.rr.n, C.rr.nc, C.rr.np, C.rr.w, C.rr.h, C.rr.li, C.rr.mo, C.rs.bk, C.rs.yr, ix4, ix6, vp_nI (show c < 199 by omega) (show 199 < 2 ^ 31 by omega), nI_clamp (show c < 2 ^ 31 by omega), C.rs.cl hc]
        exact h0
      · rw [ixn_i (n := 8) (k := 4) (by omega) z] at h0
        rw [t_nI (k := 4) (by omega) z]
        refine b_X11_curtain_121 C.sh.k89 (s_of C hc (by omega) ?_)
        rw [C.rr.gp hc]; exact h0
      · rw [ixn_i (n := 8) (k := 5) (by omega) z] at h0
        refine ⟨106, C.sh.p89_28, by rw [C.sh.l106]; exact vp_nI (p := 10) (by omega) (by omega), ?_⟩
        rw [show (10 : Int32).toNatClampNeg = 10 by decide, C.rs.bk, bit1 _ (by omega)]
        exact h0
      · rw [ixn_i (n := 8) (k := 6) (by omega) z] at h0
        have h0' : Q S (if bt (hg R s) c = true then 1 else 0) := h0
        refine s_hangs C hc (fun hb => ?_) (fun hb => ?_)
        · rw [if_pos hb] at h0'
          try simp only [Option.some.injEq, exists_eq_left', fi32, i10, i00, false_implies, true_implies, not_false_eq_true, not_true_eq_false, true_and, and_true, nI_1, lz0, lz1, ix0, ix11, ix2]
          exact h0'
        · rw [if_neg (by rw [hb]; decide)] at h0'
          try simp only [Option.some.injEq, exists_eq_left', fi32, i10, i00, false_implies, true_implies, not_false_eq_true, not_true_eq_false, true_and, and_true, nI_1, lz0, lz1, ix0, ix11, ix2]
          exact h0'
      · rw [ixn_i (n := 8) (k := 7) (by omega) z] at h
        exact T S c _ fr.rf hc (fun S' f => h S' (DRL_DR f))
    · rw [e2] at h0
      try simp only [Option.some.injEq, exists_eq_left', fi32, i10, i00, false_implies, true_implies, not_false_eq_true, not_true_eq_false, true_and, and_true, nI_1, lz0, lz1, ix0, ix11, ix2]
      exact h0
  · rw [e] at h
    try simp only [Option.some.injEq, exists_eq_left', fi32, i10, i00, false_implies, true_implies, not_false_eq_true, not_true_eq_false, true_and, and_true, nI_1, lz0, lz1, ix0, ix11, ix2]
    exact h S fr.rf
theorem RI.si89 {S' : mj_S} {j : Nat} {v : Int32} (C : RI L S R s) (e : S' = m_si S 89 j v) (hj : j < 25 ∨ 27 < j) : RI L S' R s := by
  refine C.upd (by rw [e]; rfl) (fun a k => by rw [e]; rfl) (fun k h1 h2 => by rw [e, m_gi_si, if_neg (by omega)]) (fun a k h1 h2 h3 => by rw [e, m_gi_si, if_neg (by omega)]) C.sw (C.rs.keep (fun k => by rw [e, m_gi_si, if_neg (by omega)]))
def D890 (a j : Nat) : Bool := Nat.beq a 89 && Nat.beq j 0
theorem d_person {x1 x2 : Int32} {Q : mj_S → Int32 → Prop} (C : RI L S R s) (h1 : ∀ v, P_person R s x1 x2 = some v → ∀ S', fr D890 S S' → m_gi S' 89 0 = 0 → Q S' v) (h0 : P_person R s x1 x2 = none → ∀ S', fr D890 S S' → m_gi S' 89 0 = 1 → Q S' 0) : M_X11_person l G 89 x1 x2 S Q := by
  have np := C.rw.np
  have hn := C.rw.n
  unfold P_person at h1 h0
  have no : (∀ S', fr D890 S S' → m_gi S' 89 0 = 1 → Q S' 0) → V_X11_person_23 l G 89 x1 x2 89 1 S Q := by
    intro h
    refine b_X11_person_23 C.sh.k89 C.sh.k89 (fun S1 e1 => ⟨fun z => absurd (by rw [e1, m_gi_si, if_pos ⟨rfl, rfl⟩]) z, fun _ => h S1 (by rw [e1]; exact fr.si rfl) (by rw [e1, m_gi_si, if_pos ⟨rfl, rfl⟩])⟩)
  refine e_X11_person (b_X11_person_0 C.sh.k89 (s_risPerson C (fun p e => ?_) (fun e => ?_)))
  · obtain ⟨hp, ep⟩ := ixn_some (by omega) e
    rw [e] at h1 h0
    refine ⟨fun z => absurd z (by decide), fun _ => s_rinK (n := 3) (by omega) (fun w e2 => ?_) (fun e2 => ?_)⟩
    · obtain ⟨hw, ew⟩ := ixn_some (by omega) e2
      rw [e2] at h1
      refine ⟨fun z => absurd z (by decide), fun _ => b_X11_person_23 C.sh.k89 C.sh.k89 (fun S1 e1 => ?_)⟩
      have D := C.si89 e1 (by omega)
      have f1 : fr D890 S S1 := by rw [e1]; exact fr.si rfl
      have z1 : m_gi S1 89 0 = 0 := by rw [e1, m_gi_si, if_pos ⟨rfl, rfl⟩]
      rw [z1]
      have h := h1 _ rfl S1 f1 z1
      have hpl := C.sw.pl hp
      have hin : vp_in (nI (11 + p)) 199 := vp_nI (by omega) (by omega)
      have hi2 : vp_in (nI (2 * p + 1)) 12 := vp_nI (by omega) (by omega)
      refine ⟨fun _ => ?_, fun z => absurd z (by decide)⟩
      rw [ep, ew]
      try simp only [Option.some.injEq, exists_eq_left', fi32, i10, i00, false_implies, true_implies, not_false_eq_true, not_true_eq_false, true_and, and_true, nI_1, lz0, lz1, ix0, ix11, ix2, D.sh.p89_22, D.sh.p89_23, D.sh.p89_24, D.sh.p89_28, D.sh.p89_32, D.sh.p89_33, D.sh.l103, D.sh.l104, D.sh.l105, D.sh.l106, D.sh.l108, D.sh.l109, D.rr.n, D.rr.nc, D.rr.np, D.rr.w, D.rr.h, D.rr.li, D.rr.mo, D.rs.bk, D.rs.yr, ix4, ix6, hin, nI_clamp (show 11 + p < 2 ^ 31 by omega), D.rs.pl hp]
      refine s_stateOf D hpl ?_
      try simp only [Option.some.injEq, exists_eq_left', fi32, i10, i00, false_implies, true_implies, not_false_eq_true, not_true_eq_false, true_and, and_true, nI_1, lz0, lz1, ix0, ix11, ix2, D.sh.p89_22, D.sh.p89_23, D.sh.p89_24, D.sh.p89_28, D.sh.p89_32, D.sh.p89_33, D.sh.l103, D.sh.l104, D.sh.l105, D.sh.l106, D.sh.l108, D.sh.l109, D.rr.n, D.rr.nc, D.rr.np, D.rr.w, D.rr.h, D.rr.li, D.rr.mo, D.rs.bk, D.rs.yr, ix4, ix6, hin, hi2, nI_clamp (show 11 + p < 2 ^ 31 by omega), nI_clamp (show 2 * p + 1 < 2 ^ 31 by omega), D.rs.pl hp, D.rr.mi hp, nI_e0 (show w < 2 ^ 31 by omega), show (1 : Int32) = nI 1 from rfl, show (2 : Int32) = nI 2 from rfl, nI_eqI (show w < 2 ^ 31 by omega) (show 1 < 2 ^ 31 by omega), nI_eqI (show w < 2 ^ 31 by omega) (show 2 < 2 ^ 31 by omega)]
      unfold pvl at h
      refine ⟨fun y0 => ⟨fun y1 => ⟨fun y2 => s_lordOf D ?_, fun y2 => s_nameOf D.sh ?_⟩, fun y1 => ?_⟩, fun y0 => ?_⟩
      · rw [if_neg y0, if_neg y1, if_neg y2] at h
        try simp only [Option.some.injEq, exists_eq_left', fi32, i10, i00, false_implies, true_implies, not_false_eq_true, not_true_eq_false, true_and, and_true, nI_1, lz0, lz1, ix0, ix11, ix2, oI_e (o := lo R s (st R s (s_pl s p)) (r_np R)) (p := p) (fun m z => by have := lo_lt z; omega) (by omega)]
        exact ⟨fun y => by rw [if_neg y] at h; exact h, fun y => by rw [if_pos y] at h; exact h⟩
      · rw [if_neg y0, if_neg y1, if_pos y2] at h; exact h
      · rw [if_neg y0, if_pos y1] at h; exact h
      · rw [if_pos y0] at h; exact h
    · rw [e2] at h0
      exact ⟨fun _ => no (h0 rfl), fun z => absurd rfl z⟩
  · rw [e] at h0
    exact ⟨fun _ => no (h0 rfl), fun z => absurd rfl z⟩
end RMS2
