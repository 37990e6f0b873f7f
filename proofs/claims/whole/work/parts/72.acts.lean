/-! acts -/
def P_pull (R : rm) (s : sc) (x1 x2 x3 : Int32) : Nat ⊕ (sc × Int32) := match ixn (r_np R) x1, ixn (r_nc R) x2 with
  | some p, some c => if ri R (st R s (s_pl s p)) c = false ∨ (if bt (s_bk s) c = true then (1 : Int32) else 0) = x3 then .inl 2 else if s_cl s c = 0 then .inl 3 else .inr (setB s (s_bk s ^^^ on c), nI (pt R (hg R (setB s (s_bk s ^^^ on c))) 20 (al (r_n R)) 0))
  | _, _ => .inl 0
def P_go (R : rm) (s : sc) (x1 x2 : Int32) : Nat ⊕ (sc × Int32) := match ixn (r_np R) x1, ixn (r_n R) x2 with
  | some p, some q => if bt (st R s (s_pl s p)) q = false ∨ s_pl s p = q then .inl 2 else .inr (setP s p q, nz (st R s (s_pl s p)))
  | _, _ => .inl 0
def crp (R : rm) (s : sc) (p c : Nat) : Nat := if r_nr R c = s_pl s p then r_fr R c else r_nr R c
def P_creep (R : rm) (s : sc) (x1 x2 : Int32) : Nat ⊕ (sc × Int32) := match ixn (r_np R) x1, ixn (r_nc R) x2 with
  | some p, some c => if bt (hg R s) c = false ∨ be R (s_pl s p) c = false ∨ r_gp R c < r_mi R p then .inl 2 else .inr (setP s p (crp R s p c), nI (crp R s p c))
  | _, _ => .inl 0
def P_mend (R : rm) (s : sc) (x1 x2 : Int32) : Nat ⊕ (sc × Int32) := match ixn (r_nc R) x1 with
  | some c => if x2 < 1 ∨ 9 < x2 ∨ 99 < s_cl s c + x2.toNatClampNeg then .inl 1 else if s_cl s c = 0 then .inl 3 else .inr (setC s c (s_cl s c + x2.toNatClampNeg), nI (s_cl s c + x2.toNatClampNeg))
  | none => .inl 0
def DQ (a j : Nat) : Bool := DC a j || Nat.beq a 88
theorem DC_DQ {S S' : mj_S} (f : fr DC S S') : fr DQ S S' := f.wid (fun a j h => by unfold DQ at h; rw [Bool.or_eq_false_iff] at h; exact h.1)
def CQ (L : Nat) (S : mj_S) (r rs nx : Nat) (R : rm) (s : sc) (H : hy) (I : imt) (Q : mj_S → Int32 → Prop) : Nat ⊕ (sc × Int32) → Prop
  | .inl j => ∀ S', fr DQ S S' → (∀ i, m_gi S' 88 i = if i = j then m_gi S 88 i + 1 else m_gi S 88 i) → Q S' (-1)
  | .inr p => ∀ S', fr DA S S' → CI L S' r 50 rs R p.1 → CHS S' R p.1 ((nx + 1) % 40) (hpush s H) I → Q S' p.2
def DRQ (a j : Nat) : Bool := DR a j || Nat.beq a 107
def DRA (a j : Nat) : Bool := DR a j || (Nat.beq a 106 || (Nat.beq a 112 || (Nat.beq a 89 && Nat.beq j 37)))
theorem DR_DRQ {S S' : mj_S} (f : fr DR S S') : fr DRQ S S' := f.wid (fun a j h => by unfold DRQ at h; rw [Bool.or_eq_false_iff] at h; exact h.1)
theorem DR_DRA {S S' : mj_S} (f : fr DR S S') : fr DRA S S' := f.wid (fun a j h => by unfold DRA at h; rw [Bool.or_eq_false_iff] at h; exact h.1)
theorem D112_DRA {S S' : mj_S} (f : fr D112 S S') : fr DRA S S' := f.wid (fun a j h => by
  unfold DRA at h
  rw [Bool.or_eq_false_iff, Bool.or_eq_false_iff] at h
  exact h.2.2)
theorem DRA_106 {S S' : mj_S} {j : Nat} {v : Int32} (e : S' = m_si S 106 j v) : fr DRA S S' := by rw [e]; exact fr.si rfl
def RQ (L : Nat) (S : mj_S) (R : rm) (s : sc) (H : hy) (I : imt) (Q : mj_S → Int32 → Prop) : Nat ⊕ (sc × Int32) → Prop
  | .inl j => ∀ S', fr DRQ S S' → (∀ i, m_gi S' 107 i = if i = j then m_gi S 107 i + 1 else m_gi S 107 i) → Q S' (-1)
  | .inr p => ∀ S', fr DRA S S' → RI L S' R p.1 → RHS S' R p.1 (hpush s H) I → Q S' p.2
section AC
variable {l : Launch} {G : mj_G} {L r rs nx : Nat} {R : rm} {s : sc} {S : mj_S} {H : hy} {I : imt}
theorem s_refuse {j : Nat} {Q : mj_S → Int32 → Prop} (hs : Sh L S) (hj : j < 5) (h : ∀ S', S' = m_si S 88 j (m_gi S 88 j + 1) → Q S' (-1)) : M_X10_refuse l G 6 (nI j) S Q := by
  refine e_X10_refuse (b_X10_refuse_0 hs.k6 (s_witN (n := 4) (by omega) (fun _ _ => ⟨fun z => absurd z (by decide), fun _ => ⟨88, hs.p6_13, ?_, ?_, fun S4 e4 => ?_⟩⟩) (fun e => ?_)))
  · rw [hs.l88]; exact vp_nI (by omega) (by omega)
  · rw [hs.l88]; exact vp_nI (by omega) (by omega)
  · rw [nI_clamp (by omega)] at e4; exact h S4 e4
  · rw [ixn_nI (by omega) (by omega)] at e; cases e
theorem cq_no {j : Nat} {S1 : mj_S} {Q : mj_S → Int32 → Prop} (hs : Sh L S1) (f : fr DC S S1) (hj : j < 5) (h : CQ L S r rs nx R s H I Q (.inl j)) : M_X10_refuse l G 6 (nI j) S1 Q := by
  refine s_refuse hs hj (fun S' e => h S' ((DC_DQ f).tr (by rw [e]; exact fr.si rfl)) (fun i => ?_))
  rw [e, m_gi_si]
  by_cases z : i = j
  · rw [if_pos ⟨rfl, z⟩, if_pos z, z, f.i _ _ rfl]
  · rw [if_neg (fun y => z y.2), if_neg z, f.i _ _ rfl]
theorem xor_in {a b : Int32} {n : Nat} (h1 : cp_in a n) (h2 : cp_in b n) : cp_in (a ^^^ b) n := by
  intro i hi
  rw [b_xor] at hi
  cases e1 : bt a i with
  | true => exact h1 i e1
  | false =>
    rw [e1] at hi
    exact h2 i (by simpa using hi)
theorem c_pull {x1 x2 x3 : Int32} {Q : mj_S → Int32 → Prop} (C : CI L S r 50 rs R s) (P : CHS S R s nx H I) (h : CQ L S r rs nx R s H I Q (P_pull R s x1 x2 x3)) : M_X10_pull l G 6 x1 x2 x3 S Q := by
  have nc := C.rw.nc
  have np := C.rw.np
  unfold P_pull at h
  refine e_X10_pull (b_X10_pull_0 C.sh.k6 (s_isPerson C (fun p e1 => ?_) (fun e1 => ?_)))
  · obtain ⟨hp, ep⟩ := ixn_some (by omega) e1
    try simp only [Option.some.injEq, exists_eq_left', fi32, i10, i00, false_implies, true_implies, not_false_eq_true, not_true_eq_false, true_and, and_true, nI_1, lz0, lz1, ix0, ix11, ix2]
    refine s_isCurtain C (fun c e2 => ?_) (fun e2 => ?_)
    · obtain ⟨hc, ec⟩ := ixn_some (by omega) e2
      rw [e1, e2] at h
      dsimp only at h
      rw [ep, ec]
      try simp only [Option.some.injEq, exists_eq_left', fi32, i10, i00, false_implies, true_implies, not_false_eq_true, not_true_eq_false, true_and, and_true, nI_1, lz0, lz1, ix0, ix11, ix2]
      refine s_rightsOf C hp (fun S1 f1 => ?_)
      have D := C.fr f1
      have hb0 : bt (bs (r_nc R) (ri R (st R s (s_pl s p)))) c = ri R (st R s (s_pl s p)) c := by rw [b_bs _ _ (by omega)]; simp [hc]
      refine s_has (by omega) (fun hb => ?_) (fun hb => ?_)
      · rw [hb0] at hb
        try simp only [Option.some.injEq, exists_eq_left', fi32, i10, i00, false_implies, true_implies, not_false_eq_true, not_true_eq_false, true_and, and_true, nI_1, lz0, lz1, ix0, ix11, ix2, D.p, D.sh.p6_0, D.sh.p6_4, D.sh.p6_7, D.sh.p6_8, D.sh.p6_9, D.sh.p6_10, D.sh.p6_11, D.sh.p6_12, D.sh.p6_13, D.sh.p50_1, D.sh.p50_2, D.sh.l60, D.sh.l61, D.rc.w, D.rc.h, D.rc.li, D.rc.mo, D.rc.n, D.rc.nc, D.rc.np, D.sh.rp8 D.irm, D.sh.rl8 D.irm, D.sh.rp9 D.irm, D.sh.rl9 D.irm, D.sh.rp10 D.irm, D.sh.rl10 D.irm, D.sh.rp11 D.irm, D.sh.rl11 D.irm, D.sh.rp12 D.irm, D.sh.rl12 D.irm, D.sh.rp16 D.irm, D.sh.rl16 D.irm, D.sn.bk]
        have go : ∀ v : Int32, v = (if bt (s_bk s) c = true then (1 : Int32) else 0) → ((¬ v = x3 → ∃ b12, m_gp S1 6 7 = some b12 ∧ (∃ b13, m_gp S1 b12 1 = some b13 ∧ (vp_in (nI c) (m_ln S1 b13) ∧ (((¬ (m_gi S1 b13 (nI c).toNatClampNeg) = 0) → ∃ b14, m_gp S1 6 9 = some b14 ∧ (∃ b15, m_gp S1 6 7 = some b15 ∧ (M_X4_remember l G b14 b15 S1 (fun S16 => ∃ b17, m_gp S16 6 7 = some b17 ∧ (∀ S18 : mj_S, S18 = m_si S16 b17 3 ((m_gi S16 b17 3) ^^^ ((1 : Int32) <<< (nI c &&& 31))) → ∃ b19, m_gp S18 6 7 = some b19 ∧ (M_X10_statesOf l G 6 b19 S18 (fun S20 r21 => Q S20 r21))))))) ∧ (((m_gi S1 b13 (nI c).toNatClampNeg) = 0) → M_X10_refuse l G 6 (3 : Int32) S1 (fun S22 r23 => Q S22 r23)))))) ∧ ((v = x3) → V_X10_pull_49 l G 6 S1 Q)) := by
          intro v ev
          refine ⟨fun z => ?_, fun z => ?_⟩
          · rw [ev] at z
            rw [if_neg (fun y => by rcases y with y | y; rw [hb] at y; cases y; exact z y)] at h
            have cl := C.sw.cl hc
            try simp only [Option.some.injEq, exists_eq_left', fi32, i10, i00, false_implies, true_implies, not_false_eq_true, not_true_eq_false, true_and, and_true, nI_1, lz0, lz1, ix0, ix11, ix2, D.p, D.sh.p6_0, D.sh.p6_4, D.sh.p6_7, D.sh.p6_8, D.sh.p6_9, D.sh.p6_10, D.sh.p6_11, D.sh.p6_12, D.sh.p6_13, D.sh.p50_1, D.sh.p50_2, D.sh.l60, D.sh.l61, D.rc.w, D.rc.h, D.rc.li, D.rc.mo, D.rc.n, D.rc.nc, D.rc.np, D.sh.rp8 D.irm, D.sh.rl8 D.irm, D.sh.rp9 D.irm, D.sh.rl9 D.irm, D.sh.rp10 D.irm, D.sh.rl10 D.irm, D.sh.rp11 D.irm, D.sh.rl11 D.irm, D.sh.rp12 D.irm, D.sh.rl12 D.irm, D.sh.rp16 D.irm, D.sh.rl16 D.irm, vp_nI (show c < 10 by omega) (show 10 < 2 ^ 31 by omega), nI_clamp (show c < 2 ^ 31 by omega), D.sn.cl hc, nI_e0 (show s_cl s c < 2 ^ 31 by omega)]
            refine ⟨fun y => ?_, fun y => ?_⟩
            · rw [if_neg y] at h
              refine s_remember' D (P.fr C.rw f1) (fun S2 f2 E P2 => ?_)
              try simp only [Option.some.injEq, exists_eq_left', fi32, i10, i00, false_implies, true_implies, not_false_eq_true, not_true_eq_false, true_and, and_true, nI_1, lz0, lz1, ix0, ix11, ix2, E.p, E.sh.p6_0, E.sh.p6_4, E.sh.p6_7, E.sh.p6_8, E.sh.p6_9, E.sh.p6_10, E.sh.p6_11, E.sh.p6_12, E.sh.p6_13, E.sh.p50_1, E.sh.p50_2, E.sh.l60, E.sh.l61, E.rc.w, E.rc.h, E.rc.li, E.rc.mo, E.rc.n, E.rc.nc, E.rc.np, E.sh.rp8 E.irm, E.sh.rl8 E.irm, E.sh.rp9 E.irm, E.sh.rl9 E.irm, E.sh.rp10 E.irm, E.sh.rl10 E.irm, E.sh.rp11 E.irm, E.sh.rl11 E.irm, E.sh.rp12 E.irm, E.sh.rl12 E.irm, E.sh.rp16 E.irm, E.sh.rl16 E.irm, E.sn.bk]
              intro S3 e3
              have F := E.setB e3 (xor_in C.sw.bk (on_in hc (by omega)))
              try simp only [Option.some.injEq, exists_eq_left', fi32, i10, i00, false_implies, true_implies, not_false_eq_true, not_true_eq_false, true_and, and_true, nI_1, lz0, lz1, ix0, ix11, ix2, F.p, F.sh.p6_0, F.sh.p6_4, F.sh.p6_7, F.sh.p6_8, F.sh.p6_9, F.sh.p6_10, F.sh.p6_11, F.sh.p6_12, F.sh.p6_13, F.sh.p50_1, F.sh.p50_2, F.sh.l60, F.sh.l61, F.rc.w, F.rc.h, F.rc.li, F.rc.mo, F.rc.n, F.rc.nc, F.rc.np, F.sh.rp8 F.irm, F.sh.rl8 F.irm, F.sh.rp9 F.irm, F.sh.rl9 F.irm, F.sh.rp10 F.irm, F.sh.rl10 F.irm, F.sh.rp11 F.irm, F.sh.rl11 F.irm, F.sh.rp12 F.irm, F.sh.rl12 F.irm, F.sh.rp16 F.irm, F.sh.rl16 F.irm]
              refine s_statesOf F (fun S4 f4 => ?_)
              refine h S4 ((((DC_DA f1).tr (D74_DA f2)).tr (D5_DA (by rw [e3]; exact fr.si rfl))).tr (DC_DA f4)) (F.fr f4) ?_
              refine P2.keep C.rw (fun a j q1 q2 => ?_) rfl
              rw [f4.i a j (DC_74 q1 q2), e3, m_gi_si, if_neg (by omega)]
            · rw [if_pos y] at h
              exact cq_no (j := 3) D.sh f1 (by omega) h
          · rw [ev] at z
            rw [if_pos (Or.inr z)] at h
            exact b_X10_pull_49 D.sh.k6 (cq_no (j := 2) D.sh f1 (by omega) h)
        refine s_has (by omega) (fun hb2 => go 1 (by rw [if_pos hb2])) (fun hb2 => go 0 (by rw [if_neg (by rw [hb2]; decide)]))
      · rw [hb0] at hb
        rw [if_pos (Or.inl hb)] at h
        try simp only [Option.some.injEq, exists_eq_left', fi32, i10, i00, false_implies, true_implies, not_false_eq_true, not_true_eq_false, true_and, and_true, nI_1, lz0, lz1, ix0, ix11, ix2]
        exact b_X10_pull_49 D.sh.k6 (cq_no (j := 2) D.sh f1 (by omega) h)
    · rw [e1, e2] at h
      try simp only [Option.some.injEq, exists_eq_left', fi32, i10, i00, false_implies, true_implies, not_false_eq_true, not_true_eq_false, true_and, and_true, nI_1, lz0, lz1, ix0, ix11, ix2]
      exact b_X10_pull_16 C.sh.k6 (cq_no (j := 0) C.sh fr.rf (by omega) h)
  · rw [e1] at h
    try simp only [Option.some.injEq, exists_eq_left', fi32, i10, i00, false_implies, true_implies, not_false_eq_true, not_true_eq_false, true_and, and_true, nI_1, lz0, lz1, ix0, ix11, ix2]
    exact b_X10_pull_16 C.sh.k6 (cq_no (j := 0) C.sh fr.rf (by omega) h)
theorem c_go {x1 x2 : Int32} {Q : mj_S → Int32 → Prop} (C : CI L S r 50 rs R s) (P : CHS S R s nx H I) (h : CQ L S r rs nx R s H I Q (P_go R s x1 x2)) : M_X10_go l G 6 x1 x2 S Q := by
  have np := C.rw.np
  have hn := C.rw.n
  unfold P_go at h
  refine e_X10_go (b_X10_go_0 C.sh.k6 (s_isPerson C (fun p e1 => ?_) (fun e1 => ?_)))
  · obtain ⟨hp, ep⟩ := ixn_some (by omega) e1
    try simp only [Option.some.injEq, exists_eq_left', fi32, i10, i00, false_implies, true_implies, not_false_eq_true, not_true_eq_false, true_and, and_true, nI_1, lz0, lz1, ix0, ix11, ix2]
    refine s_isSquare C (fun q e2 => ?_) (fun e2 => ?_)
    · obtain ⟨hq, eq⟩ := ixn_some (by omega) e2
      rw [e1, e2] at h
      dsimp only at h
      rw [ep, eq]
      have hpl := C.sw.pl hp
      have hin : vp_in (nI p) 6 := vp_nI (by omega) (by omega)
      try simp only [Option.some.injEq, exists_eq_left', fi32, i10, i00, false_implies, true_implies, not_false_eq_true, not_true_eq_false, true_and, and_true, nI_1, lz0, lz1, ix0, ix11, ix2, C.p, C.sh.p6_0, C.sh.p6_4, C.sh.p6_7, C.sh.p6_8, C.sh.p6_9, C.sh.p6_10, C.sh.p6_11, C.sh.p6_12, C.sh.p6_13, C.sh.p50_1, C.sh.p50_2, C.sh.l60, C.sh.l61, C.rc.w, C.rc.h, C.rc.li, C.rc.mo, C.rc.n, C.rc.nc, C.rc.np, C.sh.rp8 C.irm, C.sh.rl8 C.irm, C.sh.rp9 C.irm, C.sh.rl9 C.irm, C.sh.rp10 C.irm, C.sh.rl10 C.irm, C.sh.rp11 C.irm, C.sh.rl11 C.irm, C.sh.rp12 C.irm, C.sh.rl12 C.irm, C.sh.rp16 C.irm, C.sh.rl16 C.irm, hin, nI_clamp (show p < 2 ^ 31 by omega), C.sn.pl hp]
      refine s_stateAround C (fun S1 f1 _ => s_has (by omega) (fun hb => ?_) (fun hb => ?_))
      · have D := C.fr f1
        try simp only [Option.some.injEq, exists_eq_left', fi32, i10, i00, false_implies, true_implies, not_false_eq_true, not_true_eq_false, true_and, and_true, nI_1, lz0, lz1, ix0, ix11, ix2, D.p, D.sh.p6_0, D.sh.p6_4, D.sh.p6_7, D.sh.p6_8, D.sh.p6_9, D.sh.p6_10, D.sh.p6_11, D.sh.p6_12, D.sh.p6_13, D.sh.p50_1, D.sh.p50_2, D.sh.l60, D.sh.l61, D.rc.w, D.rc.h, D.rc.li, D.rc.mo, D.rc.n, D.rc.nc, D.rc.np, D.sh.rp8 D.irm, D.sh.rl8 D.irm, D.sh.rp9 D.irm, D.sh.rl9 D.irm, D.sh.rp10 D.irm, D.sh.rl10 D.irm, D.sh.rp11 D.irm, D.sh.rl11 D.irm, D.sh.rp12 D.irm, D.sh.rl12 D.irm, D.sh.rp16 D.irm, D.sh.rl16 D.irm, hin, nI_clamp (show p < 2 ^ 31 by omega), D.sn.pl hp, nI_eqI (show s_pl s p < 2 ^ 31 by omega) (show q < 2 ^ 31 by omega)]
        refine ⟨fun z => ?_, fun z => ?_⟩
        · rw [if_neg (fun y => by rcases y with y | y; rw [hb] at y; cases y; exact z y)] at h
          refine s_remember' D (P.fr C.rw f1) (fun S2 f2 E P2 => ?_)
          try simp only [Option.some.injEq, exists_eq_left', fi32, i10, i00, false_implies, true_implies, not_false_eq_true, not_true_eq_false, true_and, and_true, nI_1, lz0, lz1, ix0, ix11, ix2, E.p, E.sh.p6_0, E.sh.p6_4, E.sh.p6_7, E.sh.p6_8, E.sh.p6_9, E.sh.p6_10, E.sh.p6_11, E.sh.p6_12, E.sh.p6_13, E.sh.p50_1, E.sh.p50_2, E.sh.l60, E.sh.l61, E.rc.w, E.rc.h, E.rc.li, E.rc.mo, E.rc.n, E.rc.nc, E.rc.np, E.sh.rp8 E.irm, E.sh.rl8 E.irm, E.sh.rp9 E.irm, E.sh.rl9 E.irm, E.sh.rp10 E.irm, E.sh.rl10 E.irm, E.sh.rp11 E.irm, E.sh.rl11 E.irm, E.sh.rp12 E.irm, E.sh.rl12 E.irm, E.sh.rp16 E.irm, E.sh.rl16 E.irm, hin, nI_clamp (show p < 2 ^ 31 by omega)]
          intro S3 e3
          have F := E.setP e3 hq
          refine s_lowest (st_n0 C.rw hpl) (h S3 (((DC_DA f1).tr (D74_DA f2)).tr (D5_DA (by rw [e3]; exact fr.si rfl))) F (P2.keep C.rw (fun a j q1 q2 => ?_) rfl))
          rw [e3, m_gi_si, if_neg (by omega)]
        · rw [if_pos (Or.inr z)] at h
          exact b_X10_go_57 D.sh.k6 (cq_no (j := 2) D.sh f1 (by omega) h)
      · have D := C.fr f1
        rw [if_pos (Or.inl hb)] at h
        try simp only [Option.some.injEq, exists_eq_left', fi32, i10, i00, false_implies, true_implies, not_false_eq_true, not_true_eq_false, true_and, and_true, nI_1, lz0, lz1, ix0, ix11, ix2]
        exact b_X10_go_57 D.sh.k6 (cq_no (j := 2) D.sh f1 (by omega) h)
    · rw [e1, e2] at h
      try simp only [Option.some.injEq, exists_eq_left', fi32, i10, i00, false_implies, true_implies, not_false_eq_true, not_true_eq_false, true_and, and_true, nI_1, lz0, lz1, ix0, ix11, ix2]
      exact b_X10_go_16 C.sh.k6 (cq_no (j := 0) C.sh fr.rf (by omega) h)
  · rw [e1] at h
    try simp only [Option.some.injEq, exists_eq_left', fi32, i10, i00, false_implies, true_implies, not_false_eq_true, not_true_eq_false, true_and, and_true, nI_1, lz0, lz1, ix0, ix11, ix2]
    exact b_X10_go_16 C.sh.k6 (cq_no (j := 0) C.sh fr.rf (by omega) h)
theorem c_creep {x1 x2 : Int32} {Q : mj_S → Int32 → Prop} (C : CI L S r 50 rs R s) (P : CHS S R s nx H I) (h : CQ L S r rs nx R s H I Q (P_creep R s x1 x2)) : M_X10_creep l G 6 x1 x2 S Q := by
  have np := C.rw.np
  have nc := C.rw.nc
  have hn := C.rw.n
  unfold P_creep at h
  refine e_X10_creep (b_X10_creep_0 C.sh.k6 (s_isPerson C (fun p e1 => ?_) (fun e1 => ?_)))
  · obtain ⟨hp, ep⟩ := ixn_some (by omega) e1
    try simp only [Option.some.injEq, exists_eq_left', fi32, i10, i00, false_implies, true_implies, not_false_eq_true, not_true_eq_false, true_and, and_true, nI_1, lz0, lz1, ix0, ix11, ix2]
    refine s_isCurtain C (fun c e2 => ?_) (fun e2 => ?_)
    · obtain ⟨hc, ec⟩ := ixn_some (by omega) e2
      rw [e1, e2] at h
      dsimp only at h
      rw [ep, ec]
      have hpl := C.sw.pl hp
      have hnr := C.rw.nr hc
      have hfr := C.rw.fr hc
      have hin : vp_in (nI p) 6 := vp_nI (by omega) (by omega)
      have hic : vp_in (nI c) 10 := vp_nI (by omega) (by omega)
      try simp only [Option.some.injEq, exists_eq_left', fi32, i10, i00, false_implies, true_implies, not_false_eq_true, not_true_eq_false, true_and, and_true, nI_1, lz0, lz1, ix0, ix11, ix2, C.p, C.sh.p6_0, C.sh.p6_4, C.sh.p6_7, C.sh.p6_8, C.sh.p6_9, C.sh.p6_10, C.sh.p6_11, C.sh.p6_12, C.sh.p6_13, C.sh.p50_1, C.sh.p50_2, C.sh.l60, C.sh.l61, C.rc.w, C.rc.h, C.rc.li, C.rc.mo, C.rc.n, C.rc.nc, C.rc.np, C.sh.rp8 C.irm, C.sh.rl8 C.irm, C.sh.rp9 C.irm, C.sh.rl9 C.irm, C.sh.rp10 C.irm, C.sh.rl10 C.irm, C.sh.rp11 C.irm, C.sh.rl11 C.irm, C.sh.rp12 C.irm, C.sh.rl12 C.irm, C.sh.rp16 C.irm, C.sh.rl16 C.irm, hin, nI_clamp (show p < 2 ^ 31 by omega), C.sn.pl hp]
      refine s_hung C (s_besides C hpl ?_)
      have hbb : bt (hg R s &&& bs (r_nc R) (be R (s_pl s p))) c = (bt (hg R s) c && be R (s_pl s p) c) := by rw [b_and, b_bs _ _ (by omega)]; simp [hc]
      refine s_has (by omega) (fun hb => ?_) (fun hb => ?_)
      · rw [hbb, Bool.and_eq_true] at hb
        have gg := C.rw.gp hc
        have mm := (C.rw.mi hp).2
        try simp only [Option.some.injEq, exists_eq_left', fi32, i10, i00, false_implies, true_implies, not_false_eq_true, not_true_eq_false, true_and, and_true, nI_1, lz0, lz1, ix0, ix11, ix2, C.p, C.sh.p6_0, C.sh.p6_4, C.sh.p6_7, C.sh.p6_8, C.sh.p6_9, C.sh.p6_10, C.sh.p6_11, C.sh.p6_12, C.sh.p6_13, C.sh.p50_1, C.sh.p50_2, C.sh.l60, C.sh.l61, C.rc.w, C.rc.h, C.rc.li, C.rc.mo, C.rc.n, C.rc.nc, C.rc.np, C.sh.rp8 C.irm, C.sh.rl8 C.irm, C.sh.rp9 C.irm, C.sh.rl9 C.irm, C.sh.rp10 C.irm, C.sh.rl10 C.irm, C.sh.rp11 C.irm, C.sh.rl11 C.irm, C.sh.rp12 C.irm, C.sh.rl12 C.irm, C.sh.rp16 C.irm, C.sh.rl16 C.irm, hin, hic, nI_clamp (show p < 2 ^ 31 by omega), nI_clamp (show c < 2 ^ 31 by omega), C.rc.gp hc, C.rc.mi hp]
        refine ⟨fun z => ?_, fun z => ?_⟩
        · have z' := (nI_leI (by omega) (by omega)).mp z
          rw [if_neg (fun y => by rcases y with y | y | y; rw [hb.1] at y; cases y; rw [hb.2] at y; cases y; omega)] at h
          refine s_remember' C P (fun S2 f2 E P2 => ?_)
          try simp only [Option.some.injEq, exists_eq_left', fi32, i10, i00, false_implies, true_implies, not_false_eq_true, not_true_eq_false, true_and, and_true, nI_1, lz0, lz1, ix0, ix11, ix2, E.p, E.sh.p6_0, E.sh.p6_4, E.sh.p6_7, E.sh.p6_8, E.sh.p6_9, E.sh.p6_10, E.sh.p6_11, E.sh.p6_12, E.sh.p6_13, E.sh.p50_1, E.sh.p50_2, E.sh.l60, E.sh.l61, E.rc.w, E.rc.h, E.rc.li, E.rc.mo, E.rc.n, E.rc.nc, E.rc.np, E.sh.rp8 E.irm, E.sh.rl8 E.irm, E.sh.rp9 E.irm, E.sh.rl9 E.irm, E.sh.rp10 E.irm, E.sh.rl10 E.irm, E.sh.rp11 E.irm, E.sh.rl11 E.irm, E.sh.rp12 E.irm, E.sh.rl12 E.irm, E.sh.rp16 E.irm, E.sh.rl16 E.irm, hin, hic, nI_clamp (show p < 2 ^ 31 by omega), nI_clamp (show c < 2 ^ 31 by omega), E.rc.nr hc, E.rc.fr hc, nI_eqI (show r_nr R c < 2 ^ 31 by omega) (show s_pl s p < 2 ^ 31 by omega)]
          have fin : ∀ q, q = crp R s p c → q < r_n R → ∀ S3, S3 = m_si S2 61 p (nI q) → Q S3 (nI q) := by
            intro q eq hq S3 e3
            have F := E.setP e3 hq
            rw [eq] at F ⊢
            refine h S3 ((D74_DA f2).tr (D5_DA (by rw [e3]; exact fr.si rfl))) F (P2.keep C.rw (fun a j q1 q2 => ?_) rfl)
            rw [e3, m_gi_si, if_neg (by omega)]
          refine ⟨fun y S3 e3 => ?_, fun y S3 e3 => ?_⟩
          · have h3 : Sh L S3 := by rw [e3]; exact E.sh.si
            have := fin (r_nr R c) (by unfold crp; rw [if_neg y]) hnr S3 e3
            try simp only [Option.some.injEq, exists_eq_left', fi32, i10, i00, false_implies, true_implies, not_false_eq_true, not_true_eq_false, true_and, and_true, nI_1, lz0, lz1, ix0, ix11, ix2, h3.p6_7, h3.p50_2, h3.l61, hin]
            rw [e3, m_gi_si, if_pos ⟨rfl, rfl⟩]
            rw [e3] at this; exact this
          · have h3 : Sh L S3 := by rw [e3]; exact E.sh.si
            have := fin (r_fr R c) (by unfold crp; rw [if_pos y]) hfr S3 e3
            try simp only [Option.some.injEq, exists_eq_left', fi32, i10, i00, false_implies, true_implies, not_false_eq_true, not_true_eq_false, true_and, and_true, nI_1, lz0, lz1, ix0, ix11, ix2, h3.p6_7, h3.p50_2, h3.l61, hin]
            rw [e3, m_gi_si, if_pos ⟨rfl, rfl⟩]
            rw [e3] at this; exact this
        · have z' : ¬ r_mi R p ≤ r_gp R c := fun y => z ((nI_leI (by omega) (by omega)).mpr y)
          rw [if_pos (Or.inr (Or.inr (by omega)))] at h
          exact b_X10_creep_77 C.sh.k6 (cq_no (j := 2) C.sh fr.rf (by omega) h)
      · rw [hbb] at hb
        rw [if_pos (by
          cases y1 : bt (hg R s) c with
          | false => exact Or.inl rfl
          | true => rw [y1] at hb; exact Or.inr (Or.inl (by simpa using hb)))] at h
        try simp only [Option.some.injEq, exists_eq_left', fi32, i10, i00, false_implies, true_implies, not_false_eq_true, not_true_eq_false, true_and, and_true, nI_1, lz0, lz1, ix0, ix11, ix2]
        exact b_X10_creep_77 C.sh.k6 (cq_no (j := 2) C.sh fr.rf (by omega) h)
    · rw [e1, e2] at h
      try simp only [Option.some.injEq, exists_eq_left', fi32, i10, i00, false_implies, true_implies, not_false_eq_true, not_true_eq_false, true_and, and_true, nI_1, lz0, lz1, ix0, ix11, ix2]
      exact b_X10_creep_16 C.sh.k6 (cq_no (j := 0) C.sh fr.rf (by omega) h)
  · rw [e1] at h
    try simp only [Option.some.injEq, exists_eq_left', fi32, i10, i00, false_implies, true_implies, not_false_eq_true, not_true_eq_false, true_and, and_true, nI_1, lz0, lz1, ix0, ix11, ix2]
    exact b_X10_creep_16 C.sh.k6 (cq_no (j := 0) C.sh fr.rf (by omega) h)
theorem y9 {y : Int32} (h1 : ¬ y < 1) (h2 : ¬ 9 < y) : ∃ n, 1 ≤ n ∧ n ≤ 9 ∧ y = nI n := by
  obtain ⟨n, a, b, e⟩ := y99 h1 (fun z => h2 (by
    rw [Int32.lt_iff_toInt_lt] at z ⊢
    rw [show (99 : Int32).toInt = 99 by decide] at z
    rw [show (9 : Int32).toInt = 9 by decide]; omega))
  refine ⟨n, a, ?_, e⟩
  rw [e] at h2
  exact (nI_leI (b := 9) (by omega) (by omega)).mp (Int32.not_lt.mp h2)
theorem c_mend {x1 x2 : Int32} {Q : mj_S → Int32 → Prop} (C : CI L S r 50 rs R s) (P : CHS S R s nx H I) (h : CQ L S r rs nx R s H I Q (P_mend R s x1 x2)) : M_X10_mend l G 6 x1 x2 S Q := by
  have nc := C.rw.nc
  unfold P_mend at h
  refine e_X10_mend (b_X10_mend_0 C.sh.k6 (s_isCurtain C (fun c e1 => ?_) (fun e1 => ?_)))
  · obtain ⟨hc, ec⟩ := ixn_some (by omega) e1
    rw [e1] at h
    dsimp only at h
    rw [ec]
    have cl := C.sw.cl hc
    have hic : vp_in (nI c) 10 := vp_nI (by omega) (by omega)
    try simp only [Option.some.injEq, exists_eq_left', fi32, i10, i00, false_implies, true_implies, not_false_eq_true, not_true_eq_false, true_and, and_true, nI_1, lz0, lz1, ix0, ix11, ix2]
    refine s_wit (fun q1 q2 => ?_) (fun q => ?_)
    · obtain ⟨n, n1, n2, en⟩ := y9 q1 q2
      rw [en, nI_clamp (by omega)] at h
      rw [en]
      try simp only [Option.some.injEq, exists_eq_left', fi32, i10, i00, false_implies, true_implies, not_false_eq_true, not_true_eq_false, true_and, and_true, nI_1, lz0, lz1, ix0, ix11, ix2, C.p, C.sh.p6_0, C.sh.p6_4, C.sh.p6_7, C.sh.p6_8, C.sh.p6_9, C.sh.p6_10, C.sh.p6_11, C.sh.p6_12, C.sh.p6_13, C.sh.p50_1, C.sh.p50_2, C.sh.l60, C.sh.l61, C.rc.w, C.rc.h, C.rc.li, C.rc.mo, C.rc.n, C.rc.nc, C.rc.np, C.sh.rp8 C.irm, C.sh.rl8 C.irm, C.sh.rp9 C.irm, C.sh.rl9 C.irm, C.sh.rp10 C.irm, C.sh.rl10 C.irm, C.sh.rp11 C.irm, C.sh.rl11 C.irm, C.sh.rp12 C.irm, C.sh.rl12 C.irm, C.sh.rp16 C.irm, C.sh.rl16 C.irm, hic, nI_clamp (show c < 2 ^ 31 by omega), C.sn.cl hc, nI_add, nI_e0 (show s_cl s c < 2 ^ 31 by omega)]
      refine ⟨fun z => ⟨fun z2 => ?_, fun z2 => ?_⟩, fun z => ?_⟩
      · have z' := (nI_leI (b := 99) (by omega) (by omega)).mp z
        rw [if_neg (fun y => by rcases y with y | y | y; rw [← en] at y; exact q1 y; rw [← en] at y; exact q2 y; omega), if_neg z2] at h
        refine s_remember' C P (fun S2 f2 E P2 => ?_)
        try simp only [Option.some.injEq, exists_eq_left', fi32, i10, i00, false_implies, true_implies, not_false_eq_true, not_true_eq_false, true_and, and_true, nI_1, lz0, lz1, ix0, ix11, ix2, E.p, E.sh.p6_0, E.sh.p6_4, E.sh.p6_7, E.sh.p6_8, E.sh.p6_9, E.sh.p6_10, E.sh.p6_11, E.sh.p6_12, E.sh.p6_13, E.sh.p50_1, E.sh.p50_2, E.sh.l60, E.sh.l61, E.rc.w, E.rc.h, E.rc.li, E.rc.mo, E.rc.n, E.rc.nc, E.rc.np, E.sh.rp8 E.irm, E.sh.rl8 E.irm, E.sh.rp9 E.irm, E.sh.rl9 E.irm, E.sh.rp10 E.irm, E.sh.rl10 E.irm, E.sh.rp11 E.irm, E.sh.rl11 E.irm, E.sh.rp12 E.irm, E.sh.rl12 E.irm, E.sh.rp16 E.irm, E.sh.rl16 E.irm, hic, nI_clamp (show c < 2 ^ 31 by omega), E.sn.cl hc, nI_add]
        intro S3 e3
        have F := E.setC e3 z'
        have h3 := F.sh
        try simp only [Option.some.injEq, exists_eq_left', fi32, i10, i00, false_implies, true_implies, not_false_eq_true, not_true_eq_false, true_and, and_true, nI_1, lz0, lz1, ix0, ix11, ix2, h3.p6_7, h3.p50_1, h3.l60, hic]
        have v3 : m_gi S3 60 c = nI (s_cl s c + n) := by rw [e3, m_gi_si, if_pos ⟨rfl, rfl⟩]
        rw [v3]
        refine h S3 ((D74_DA f2).tr (D5_DA (by rw [e3]; exact fr.si rfl))) F (P2.keep C.rw (fun a j q1 q2 => ?_) rfl)
        rw [e3, m_gi_si, if_neg (by omega)]
      · have z' := (nI_leI (b := 99) (by omega) (by omega)).mp z
        rw [if_neg (fun y => by rcases y with y | y | y; rw [← en] at y; exact q1 y; rw [← en] at y; exact q2 y; omega), if_pos z2] at h
        exact cq_no (j := 3) C.sh fr.rf (by omega) h
      · have z' : ¬ s_cl s c + n ≤ 99 := fun y => z ((nI_leI (b := 99) (by omega) (by omega)).mpr y)
        rw [if_pos (Or.inr (Or.inr (by omega)))] at h
        exact b_X10_mend_40 C.sh.k6 (cq_no (j := 1) C.sh fr.rf (by omega) h)
    · rw [if_pos (by rcases q with y | y; exact Or.inl y; exact Or.inr (Or.inl y))] at h
      try simp only [Option.some.injEq, exists_eq_left', fi32, i10, i00, false_implies, true_implies, not_false_eq_true, not_true_eq_false, true_and, and_true, nI_1, lz0, lz1, ix0, ix11, ix2]
      exact b_X10_mend_40 C.sh.k6 (cq_no (j := 1) C.sh fr.rf (by omega) h)
  · rw [e1] at h
    try simp only [Option.some.injEq, exists_eq_left', fi32, i10, i00, false_implies, true_implies, not_false_eq_true, not_true_eq_false, true_and, and_true, nI_1, lz0, lz1, ix0, ix11, ix2]
    exact cq_no (j := 0) C.sh fr.rf (by omega) h
end AC
section RAC
variable {l : Launch} {G : mj_G} {L : Nat} {R : rm} {s : sc} {S : mj_S} {H : hy} {I : imt}
theorem s_refused {j : Nat} {Q : mj_S → Int32 → Prop} (hs : Sh L S) (hj : j < 5) (h : ∀ S', S' = m_si S 107 j (m_gi S 107 j + 1) → Q S' 1) : M_X11_isRefused l G 89 (nI j) S Q := by
  refine e_X11_isRefused (b_X11_isRefused_0 hs.k89 ⟨fun z => absurd z (nI_m1 (by omega)), fun _ => ⟨107, hs.p89_29, ?_, ?_, fun S2 e2 => ?_⟩⟩)
  · rw [hs.l107]; exact vp_nI (by omega) (by omega)
  · rw [hs.l107]; exact vp_nI (by omega) (by omega)
  · rw [nI_clamp (by omega)] at e2
    exact b_X11_isRefused_15 ⟨fun z => absurd z (nI_m1 (by omega)), fun _ => h S2 e2⟩
theorem s_notRefused {Q : mj_S → Int32 → Prop} (hs : Sh L S) (h : Q S 0) : M_X11_isRefused l G 89 (-1) S Q :=
  e_X11_isRefused (b_X11_isRefused_0 hs.k89 ⟨fun _ => b_X11_isRefused_15 ⟨fun _ => h, fun z => absurd rfl z⟩, fun z => absurd rfl z⟩)
theorem rq_no {j : Nat} {Q : mj_S → Int32 → Prop} (h : RQ L S R s H I Q (.inl j)) : ∀ S', S' = m_si S 107 j (m_gi S 107 j + 1) → Q S' (-1) := by
  intro S' e
  refine h S' (by rw [e]; exact fr.si rfl) (fun i => ?_)
  rw [e, m_gi_si]
  by_cases z : i = j
  · rw [if_pos ⟨rfl, z⟩, if_pos z, z]
  · rw [if_neg (fun y => z y.2), if_neg z]
theorem d_pull {x1 x2 x3 : Int32} {Q : mj_S → Int32 → Prop} (C : RI L S R s) (P : RHS S R s H I) (h : RQ L S R s H I Q (P_pull R s x1 x2 x3)) : M_X11_pull l G 89 x1 x2 x3 S Q := by
  have nc := C.rw.nc
  have np := C.rw.np
  have l10 : (10 : Int32).toNatClampNeg = 10 := by decide
  have v10 : ∀ {U : mj_S}, Sh L U → vp_in (10 : Int32) (m_ln U 106) := fun hU => by rw [hU.l106]; exact vp_nI (p := 10) (by omega) (by omega)
  unfold P_pull at h
  have no : ∀ j, j < 5 → RQ L S R s H I Q (.inl j) → V_X11_pull_62 l G 89 x2 (nI j) S Q := fun j hj hq => b_X11_pull_62 C.sh.k89 (s_refused C.sh hj (fun S' e => ⟨fun z => absurd z (by decide), fun _ => rq_no hq S' e⟩))
  refine e_X11_pull (b_X11_pull_0 C.sh.k89 (s_risPerson C (fun p e1 => ?_) (fun e1 => ?_)))
  · obtain ⟨hp, ep⟩ := ixn_some (by omega) e1
    try simp only [Option.some.injEq, exists_eq_left', fi32, i10, i00, false_implies, true_implies, not_false_eq_true, not_true_eq_false, true_and, and_true, nI_1, lz0, lz1, ix0, ix11, ix2]
    refine s_risCurtain C (fun c e2 => ?_) (fun e2 => ?_)
    · obtain ⟨hc, ec⟩ := ixn_some (by omega) e2
      rw [e1, e2] at h
      dsimp only at h
      rw [ec] at no
      rw [ep, ec]
      try simp only [Option.some.injEq, exists_eq_left', fi32, i10, i00, false_implies, true_implies, not_false_eq_true, not_true_eq_false, true_and, and_true, nI_1, lz0, lz1, ix0, ix11, ix2]
      refine s_hasRight C hp hc (fun hb => ?_) (fun hb => ?_)
      · try simp only [Option.some.injEq, exists_eq_left', fi32, i10, i00, false_implies, true_implies, not_false_eq_true, not_true_eq_false, true_and, and_true, nI_1, lz0, lz1, ix0, ix11, ix2]
        refine ⟨106, C.sh.p89_28, v10 C.sh, ?_⟩
        rw [l10, C.rs.bk]
        have go : ∀ v : Int32, v = (if bt (s_bk s) c = true then (1 : Int32) else 0) → ((¬ v = x3 → M_X11_isFallen l G 89 (nI c) S (fun S10 r11 => ((r11 = 0) → V_X11_pull_62 l G 89 (nI c) (-1 : Int32) S10 Q) ∧ ((¬ (r11 = 0)) → V_X11_pull_62 l G 89 (nI c) (3 : Int32) S10 Q))) ∧ ((v = x3) → V_X11_pull_62 l G 89 (nI c) (2 : Int32) S Q)) := by
          intro v ev
          refine ⟨fun z => ?_, fun z => ?_⟩
          · rw [ev] at z
            rw [if_neg (fun y => by rcases y with y | y; rw [hb] at y; cases y; exact z y)] at h
            refine s_isFallen C hc (fun y => ?_) (fun y => ?_)
            · rw [if_pos y] at h
              try simp only [Option.some.injEq, exists_eq_left', fi32, i10, i00, false_implies, true_implies, not_false_eq_true, not_true_eq_false, true_and, and_true, nI_1, lz0, lz1, ix0, ix11, ix2]
              exact no 3 (by omega) h
            · rw [if_neg y] at h
              try simp only [Option.some.injEq, exists_eq_left', fi32, i10, i00, false_implies, true_implies, not_false_eq_true, not_true_eq_false, true_and, and_true, nI_1, lz0, lz1, ix0, ix11, ix2]
              refine b_X11_pull_62 C.sh.k89 (s_notRefused C.sh ⟨fun _ => s_keep' C P (fun S2 f2 E P2 => ⟨106, E.sh.p89_28, v10 E.sh, v10 E.sh, fun S5 e5 => ?_⟩), fun w => absurd rfl w⟩)
              rw [l10, E.rs.bk] at e5
              have rs5 := E.rs.setB E.rw e5
              have F := E.set106 e5 (setB_wf C.sw (xor_in C.sw.bk (on_in hc (by omega)))) rs5
              exact s_states F (h S5 ((D112_DRA f2).tr (DRA_106 e5)) F (P2.set C.rw e5 (by omega) rs5 rfl))
          · rw [ev] at z
            rw [if_pos (Or.inr z)] at h
            exact no 2 (by omega) h
        exact s_rhas (by omega) (fun hb2 => go 1 (by rw [if_pos hb2])) (fun hb2 => go 0 (by rw [if_neg (by rw [hb2]; decide)]))
      · rw [if_pos (Or.inl hb)] at h
        try simp only [Option.some.injEq, exists_eq_left', fi32, i10, i00, false_implies, true_implies, not_false_eq_true, not_true_eq_false, true_and, and_true, nI_1, lz0, lz1, ix0, ix11, ix2]
        exact no 2 (by omega) h
    · rw [e1, e2] at h
      try simp only [Option.some.injEq, exists_eq_left', fi32, i10, i00, false_implies, true_implies, not_false_eq_true, not_true_eq_false, true_and, and_true, nI_1, lz0, lz1, ix0, ix11, ix2]
      exact no 0 (by omega) h
  · rw [e1] at h
    try simp only [Option.some.injEq, exists_eq_left', fi32, i10, i00, false_implies, true_implies, not_false_eq_true, not_true_eq_false, true_and, and_true, nI_1, lz0, lz1, ix0, ix11, ix2]
    exact no 0 (by omega) h
theorem d_go {x1 x2 : Int32} {Q : mj_S → Int32 → Prop} (C : RI L S R s) (P : RHS S R s H I) (h : RQ L S R s H I Q (P_go R s x1 x2)) : M_X11_go l G 89 x1 x2 S Q := by
  have np := C.rw.np
  have hn := C.rw.n
  unfold P_go at h
  have no : ∀ j, j < 5 → RQ L S R s H I Q (.inl j) → V_X11_go_57 l G 89 x1 x2 (nI j) S Q := fun j hj hq => b_X11_go_57 C.sh.k89 (s_refused C.sh hj (fun S' e => ⟨fun z => absurd z (by decide), fun _ => rq_no hq S' e⟩))
  refine e_X11_go (b_X11_go_0 C.sh.k89 (s_risPerson C (fun p e1 => ?_) (fun e1 => ?_)))
  · obtain ⟨hp, ep⟩ := ixn_some (by omega) e1
    try simp only [Option.some.injEq, exists_eq_left', fi32, i10, i00, false_implies, true_implies, not_false_eq_true, not_true_eq_false, true_and, and_true, nI_1, lz0, lz1, ix0, ix11, ix2]
    refine s_risSquare C (fun q e2 => ?_) (fun e2 => ?_)
    · obtain ⟨hq, eq⟩ := ixn_some (by omega) e2
      rw [e1, e2] at h
      dsimp only at h
      rw [ep, eq] at no
      rw [ep, eq]
      have hpl := C.sw.pl hp
      have hin : vp_in (nI (11 + p)) 199 := vp_nI (by omega) (by omega)
      try simp only [Option.some.injEq, exists_eq_left', fi32, i10, i00, false_implies, true_implies, not_false_eq_true, not_true_eq_false, true_and, and_true, nI_1, lz0, lz1, ix0, ix11, ix2, C.sh.p89_22, C.sh.p89_23, C.sh.p89_24, C.sh.p89_28, C.sh.p89_32, C.sh.p89_33, C.sh.l103, C.sh.l104, C.sh.l105, C.sh.l106, C.sh.l108, C.sh.l109, C.rr.n, C.rr.nc, C.rr.np, C.rr.w, C.rr.h, C.rr.li, C.rr.mo, C.rs.bk, C.rs.yr, ix4, ix6, hin, nI_clamp (show 11 + p < 2 ^ 31 by omega), C.rs.pl hp, nI_eqI (show s_pl s p < 2 ^ 31 by omega) (show q < 2 ^ 31 by omega)]
      refine ⟨fun z => ?_, fun z => s_stateOf C hpl (s_rhas (by omega) (fun hb => ?_) (fun hb => ?_))⟩
      · rw [if_pos (Or.inr z)] at h
        exact no 2 (by omega) h
      · rw [if_neg (fun y => by rcases y with y | y; rw [hb] at y; cases y; exact z y)] at h
        try simp only [Option.some.injEq, exists_eq_left', fi32, i10, i00, false_implies, true_implies, not_false_eq_true, not_true_eq_false, true_and, and_true, nI_1, lz0, lz1, ix0, ix11, ix2]
        refine b_X11_go_57 C.sh.k89 (s_notRefused C.sh ⟨fun _ => s_keep' C P (fun S2 f2 E P2 => ?_), fun w => absurd rfl w⟩)
        try simp only [Option.some.injEq, exists_eq_left', fi32, i10, i00, false_implies, true_implies, not_false_eq_true, not_true_eq_false, true_and, and_true, nI_1, lz0, lz1, ix0, ix11, ix2, E.sh.p89_22, E.sh.p89_23, E.sh.p89_24, E.sh.p89_28, E.sh.p89_32, E.sh.p89_33, E.sh.l103, E.sh.l104, E.sh.l105, E.sh.l106, E.sh.l108, E.sh.l109, E.rr.n, E.rr.nc, E.rr.np, E.rr.w, E.rr.h, E.rr.li, E.rr.mo, E.rs.bk, E.rs.yr, ix4, ix6, hin, nI_clamp (show 11 + p < 2 ^ 31 by omega)]
        intro S5 e5
        have rs5 := E.rs.setP E.rw hp e5
        have F := E.set106 e5 (setP_wf C.sw hq) rs5
        refine d_state F ?_
        have e3 : A_state R (setP s p q) (nI q) = nz (st R s (s_pl s p)) := by
          unfold A_state
          rw [ixn_nI (by omega) hq]
          have : st R (setP s p q) q = st R s (s_pl s p) := jn_meet C.rw hq hpl (jn_self C.rw _ hq) hb
          rw [← this]
        rw [e3]
        exact h S5 ((D112_DRA f2).tr (DRA_106 e5)) F (P2.set C.rw e5 (by omega) rs5 rfl)
      · rw [if_pos (Or.inl hb)] at h
        try simp only [Option.some.injEq, exists_eq_left', fi32, i10, i00, false_implies, true_implies, not_false_eq_true, not_true_eq_false, true_and, and_true, nI_1, lz0, lz1, ix0, ix11, ix2]
        exact no 2 (by omega) h
    · rw [e1, e2] at h
      try simp only [Option.some.injEq, exists_eq_left', fi32, i10, i00, false_implies, true_implies, not_false_eq_true, not_true_eq_false, true_and, and_true, nI_1, lz0, lz1, ix0, ix11, ix2]
      exact no 0 (by omega) h
  · rw [e1] at h
    try simp only [Option.some.injEq, exists_eq_left', fi32, i10, i00, false_implies, true_implies, not_false_eq_true, not_true_eq_false, true_and, and_true, nI_1, lz0, lz1, ix0, ix11, ix2]
    exact no 0 (by omega) h
theorem d_creep {x1 x2 : Int32} {Q : mj_S → Int32 → Prop} (C : RI L S R s) (P : RHS S R s H I) (h : RQ L S R s H I Q (P_creep R s x1 x2)) : M_X11_creep l G 89 x1 x2 S Q := by
  have np := C.rw.np
  have nc := C.rw.nc
  have hn := C.rw.n
  unfold P_creep at h
  have no : ∀ j, j < 5 → RQ L S R s H I Q (.inl j) → V_X11_creep_68 l G 89 x1 x2 (nI j) S Q := fun j hj hq => b_X11_creep_68 C.sh.k89 (s_refused C.sh hj (fun S' e => ⟨fun z => absurd z (by decide), fun _ => rq_no hq S' e⟩))
  refine e_X11_creep (b_X11_creep_0 C.sh.k89 (s_risPerson C (fun p e1 => ?_) (fun e1 => ?_)))
  · obtain ⟨hp, ep⟩ := ixn_some (by omega) e1
    try simp only [Option.some.injEq, exists_eq_left', fi32, i10, i00, false_implies, true_implies, not_false_eq_true, not_true_eq_false, true_and, and_true, nI_1, lz0, lz1, ix0, ix11, ix2]
    refine s_risCurtain C (fun c e2 => ?_) (fun e2 => ?_)
    · obtain ⟨hc, ec⟩ := ixn_some (by omega) e2
      rw [e1, e2] at h
      dsimp only at h
      rw [ep, ec] at no
      rw [ep, ec]
      have hpl := C.sw.pl hp
      have hnr := C.rw.nr hc
      have hfr := C.rw.fr hc
      have gg := C.rw.gp hc
      have mm := (C.rw.mi hp).2
      have hin : vp_in (nI (11 + p)) 199 := vp_nI (by omega) (by omega)
      have hi2 : vp_in (nI (2 * p + 1)) 12 := vp_nI (by omega) (by omega)
      try simp only [Option.some.injEq, exists_eq_left', fi32, i10, i00, false_implies, true_implies, not_false_eq_true, not_true_eq_false, true_and, and_true, nI_1, lz0, lz1, ix0, ix11, ix2]
      refine s_hangs C hc (fun hb => ?_) (fun hb => ?_)
      · try simp only [Option.some.injEq, exists_eq_left', fi32, i10, i00, false_implies, true_implies, not_false_eq_true, not_true_eq_false, true_and, and_true, nI_1, lz0, lz1, ix0, ix11, ix2, C.sh.p89_22, C.sh.p89_23, C.sh.p89_24, C.sh.p89_28, C.sh.p89_32, C.sh.p89_33, C.sh.l103, C.sh.l104, C.sh.l105, C.sh.l106, C.sh.l108, C.sh.l109, C.rr.n, C.rr.nc, C.rr.np, C.rr.w, C.rr.h, C.rr.li, C.rr.mo, C.rs.bk, C.rs.yr, ix4, ix6, hin, nI_clamp (show 11 + p < 2 ^ 31 by omega), C.rs.pl hp]
        refine s_isAt C hc hpl (fun hb2 => ?_) (fun hb2 => ?_)
        · try simp only [Option.some.injEq, exists_eq_left', fi32, i10, i00, false_implies, true_implies, not_false_eq_true, not_true_eq_false, true_and, and_true, nI_1, lz0, lz1, ix0, ix11, ix2]
          refine s_of (k := 4) C hc (by omega) ?_
          rw [C.rr.gp hc]
          try simp only [Option.some.injEq, exists_eq_left', fi32, i10, i00, false_implies, true_implies, not_false_eq_true, not_true_eq_false, true_and, and_true, nI_1, lz0, lz1, ix0, ix11, ix2, C.sh.p89_22, C.sh.p89_23, C.sh.p89_24, C.sh.p89_28, C.sh.p89_32, C.sh.p89_33, C.sh.l103, C.sh.l104, C.sh.l105, C.sh.l106, C.sh.l108, C.sh.l109, C.rr.n, C.rr.nc, C.rr.np, C.rr.w, C.rr.h, C.rr.li, C.rr.mo, C.rs.bk, C.rs.yr, ix4, ix6, hi2, nI_clamp (show 2 * p + 1 < 2 ^ 31 by omega), C.rr.mi hp]
          have hbe : be R (s_pl s p) c = true := by unfold be; simpa using hb2
          refine ⟨fun z => ?_, fun z => ?_⟩
          · have z' := (nI_leI (by omega) (by omega)).mp z
            rw [if_neg (fun y => by rcases y with y | y | y; rw [hb] at y; cases y; rw [hbe] at y; cases y; omega)] at h
            refine b_X11_creep_68 C.sh.k89 (s_notRefused C.sh ⟨fun _ => s_keep' C P (fun S2 f2 E P2 => ⟨106, E.sh.p89_28, s_firstSide E hc (s_secondSide E hc ?_)⟩), fun w => absurd rfl w⟩)
            try simp only [Option.some.injEq, exists_eq_left', fi32, i10, i00, false_implies, true_implies, not_false_eq_true, not_true_eq_false, true_and, and_true, nI_1, lz0, lz1, ix0, ix11, ix2, E.sh.p89_22, E.sh.p89_23, E.sh.p89_24, E.sh.p89_28, E.sh.p89_32, E.sh.p89_33, E.sh.l103, E.sh.l104, E.sh.l105, E.sh.l106, E.sh.l108, E.sh.l109, E.rr.n, E.rr.nc, E.rr.np, E.rr.w, E.rr.h, E.rr.li, E.rr.mo, E.rs.bk, E.rs.yr, ix4, ix6, hin, nI_clamp (show 11 + p < 2 ^ 31 by omega), E.rs.pl hp, nI_add]
            intro S5 e5
            have hv : nI (r_nr R c + r_fr R c) - nI (s_pl s p) = nI (crp R s p c) := by
              unfold crp
              rcases hb2 with y | y
              · rw [if_pos y, ← y, sub_v (by omega)]
                congr 1; omega
              · have hne : ¬ r_nr R c = s_pl s p := by
                  rw [← y]
                  rcases C.rw.rl hc with w | w
                  · unfold r_fr; rw [if_pos w.1]; omega
                  · have hw0 : 0 < r_w R := by
                      rcases Nat.eq_zero_or_pos (r_w R) with v | v
                      · unfold r_n at hnr; rw [v] at hnr; simp at hnr
                      · exact v
                    unfold r_fr; rw [if_neg (by omega)]; omega
                rw [if_neg hne, ← y, sub_v (by omega)]
                congr 1; omega
            rw [hv] at e5
            have hq : crp R s p c < r_n R := by unfold crp; split <;> assumption
            have rs5 := E.rs.setP E.rw hp e5
            have F := E.set106 e5 (setP_wf C.sw hq) rs5
            have h5 := F.sh
            try simp only [Option.some.injEq, exists_eq_left', fi32, i10, i00, false_implies, true_implies, not_false_eq_true, not_true_eq_false, true_and, and_true, nI_1, lz0, lz1, ix0, ix11, ix2, h5.p89_28, h5.l106, hin]
            have v5 : m_gi S5 106 (11 + p) = nI (crp R s p c) := by rw [e5, m_gi_si, if_pos ⟨rfl, rfl⟩]
            rw [v5]
            exact h S5 ((D112_DRA f2).tr (DRA_106 e5)) F (P2.set C.rw e5 (by omega) rs5 rfl)
          · have z' : ¬ r_mi R p ≤ r_gp R c := fun y => z ((nI_leI (by omega) (by omega)).mpr y)
            rw [if_pos (Or.inr (Or.inr (by omega)))] at h
            exact no 2 (by omega) h
        · rw [if_pos (Or.inr (Or.inl (by unfold be; simpa using hb2)))] at h
          try simp only [Option.some.injEq, exists_eq_left', fi32, i10, i00, false_implies, true_implies, not_false_eq_true, not_true_eq_false, true_and, and_true, nI_1, lz0, lz1, ix0, ix11, ix2]
          exact no 2 (by omega) h
      · rw [if_pos (Or.inl hb)] at h
        try simp only [Option.some.injEq, exists_eq_left', fi32, i10, i00, false_implies, true_implies, not_false_eq_true, not_true_eq_false, true_and, and_true, nI_1, lz0, lz1, ix0, ix11, ix2]
        exact no 2 (by omega) h
    · rw [e1, e2] at h
      try simp only [Option.some.injEq, exists_eq_left', fi32, i10, i00, false_implies, true_implies, not_false_eq_true, not_true_eq_false, true_and, and_true, nI_1, lz0, lz1, ix0, ix11, ix2]
      exact no 0 (by omega) h
  · rw [e1] at h
    try simp only [Option.some.injEq, exists_eq_left', fi32, i10, i00, false_implies, true_implies, not_false_eq_true, not_true_eq_false, true_and, and_true, nI_1, lz0, lz1, ix0, ix11, ix2]
    exact no 0 (by omega) h
theorem d_mend {x1 x2 : Int32} {Q : mj_S → Int32 → Prop} (C : RI L S R s) (P : RHS S R s H I) (h : RQ L S R s H I Q (P_mend R s x1 x2)) : M_X11_mend l G 89 x1 x2 S Q := by
  have nc := C.rw.nc
  unfold P_mend at h
  have no : ∀ j, j < 5 → RQ L S R s H I Q (.inl j) → V_X11_mend_54 l G 89 x1 x2 (nI j) S Q := fun j hj hq => b_X11_mend_54 C.sh.k89 (s_refused C.sh hj (fun S' e => ⟨fun z => absurd z (by decide), fun _ => rq_no hq S' e⟩))
  refine e_X11_mend (b_X11_mend_0 C.sh.k89 (s_risCurtain C (fun c e1 => ?_) (fun e1 => ?_)))
  · obtain ⟨hc, ec⟩ := ixn_some (by omega) e1
    rw [e1] at h
    dsimp only at h
    rw [ec] at no
    rw [ec]
    have cl := C.sw.cl hc
    have hic : vp_in (nI c) 199 := vp_nI (by omega) (by omega)
    try simp only [Option.some.injEq, exists_eq_left', fi32, i10, i00, false_implies, true_implies, not_false_eq_true, not_true_eq_false, true_and, and_true, nI_1, lz0, lz1, ix0, ix11, ix2]
    refine s_rin (fun q1 q2 => ?_) (fun q => ?_)
    · obtain ⟨n, n1, n2, en⟩ := y9 q1 q2
      rw [en, nI_clamp (by omega)] at h
      rw [en] at no
      rw [en]
      try simp only [Option.some.injEq, exists_eq_left', fi32, i10, i00, false_implies, true_implies, not_false_eq_true, not_true_eq_false, true_and, and_true, nI_1, lz0, lz1, ix0, ix11, ix2, C.sh.p89_22, C.sh.p89_23, C.sh.p89_24, C.sh.p89_28, C.sh.p89_32, C.sh.p89_33, C.sh.l103, C.sh.l104, C.sh.l105, C.sh.l106, C.sh.l108, C.sh.l109, C.rr.n, C.rr.nc, C.rr.np, C.rr.w, C.rr.h, C.rr.li, C.rr.mo, C.rs.bk, C.rs.yr, ix4, ix6, hic, nI_clamp (show c < 2 ^ 31 by omega), C.rs.cl hc, nI_add]
      refine ⟨fun z => s_isFallen C hc (fun z2 => ?_) (fun z2 => ?_), fun z => ?_⟩
      · have z' := (nI_leI (b := 99) (by omega) (by omega)).mp z
        rw [if_neg (fun y => by rcases y with y | y | y; rw [← en] at y; exact q1 y; rw [← en] at y; exact q2 y; omega), if_pos z2] at h
        try simp only [Option.some.injEq, exists_eq_left', fi32, i10, i00, false_implies, true_implies, not_false_eq_true, not_true_eq_false, true_and, and_true, nI_1, lz0, lz1, ix0, ix11, ix2]
        exact no 3 (by omega) h
      · have z' := (nI_leI (b := 99) (by omega) (by omega)).mp z
        rw [if_neg (fun y => by rcases y with y | y | y; rw [← en] at y; exact q1 y; rw [← en] at y; exact q2 y; omega), if_neg z2] at h
        try simp only [Option.some.injEq, exists_eq_left', fi32, i10, i00, false_implies, true_implies, not_false_eq_true, not_true_eq_false, true_and, and_true, nI_1, lz0, lz1, ix0, ix11, ix2]
        refine b_X11_mend_54 C.sh.k89 (s_notRefused C.sh ⟨fun _ => s_keep' C P (fun S2 f2 E P2 => ?_), fun w => absurd rfl w⟩)
        try simp only [Option.some.injEq, exists_eq_left', fi32, i10, i00, false_implies, true_implies, not_false_eq_true, not_true_eq_false, true_and, and_true, nI_1, lz0, lz1, ix0, ix11, ix2, E.sh.p89_22, E.sh.p89_23, E.sh.p89_24, E.sh.p89_28, E.sh.p89_32, E.sh.p89_33, E.sh.l103, E.sh.l104, E.sh.l105, E.sh.l106, E.sh.l108, E.sh.l109, E.rr.n, E.rr.nc, E.rr.np, E.rr.w, E.rr.h, E.rr.li, E.rr.mo, E.rs.bk, E.rs.yr, ix4, ix6, hic, nI_clamp (show c < 2 ^ 31 by omega), E.rs.cl hc, nI_add]
        intro S5 e5
        have rs5 := E.rs.setC E.rw hc e5
        have F := E.set106 e5 (setC_wf C.sw z') rs5
        have h5 := F.sh
        try simp only [Option.some.injEq, exists_eq_left', fi32, i10, i00, false_implies, true_implies, not_false_eq_true, not_true_eq_false, true_and, and_true, nI_1, lz0, lz1, ix0, ix11, ix2, h5.p89_28, h5.l106, hic]
        have v5 : m_gi S5 106 c = nI (s_cl s c + n) := by rw [e5, m_gi_si, if_pos ⟨rfl, rfl⟩]
        rw [v5]
        exact h S5 ((D112_DRA f2).tr (DRA_106 e5)) F (P2.set C.rw e5 (by omega) rs5 rfl)
      · have z' : ¬ s_cl s c + n ≤ 99 := fun y => z ((nI_leI (b := 99) (by omega) (by omega)).mpr y)
        rw [if_pos (Or.inr (Or.inr (by omega)))] at h
        exact no 1 (by omega) h
    · rw [if_pos (by rcases q with y | y; exact Or.inl y; exact Or.inr (Or.inl y))] at h
      try simp only [Option.some.injEq, exists_eq_left', fi32, i10, i00, false_implies, true_implies, not_false_eq_true, not_true_eq_false, true_and, and_true, nI_1, lz0, lz1, ix0, ix11, ix2]
      exact no 1 (by omega) h
  · rw [e1] at h
    try simp only [Option.some.injEq, exists_eq_left', fi32, i10, i00, false_implies, true_implies, not_false_eq_true, not_true_eq_false, true_and, and_true, nI_1, lz0, lz1, ix0, ix11, ix2]
    exact no 0 (by omega) h
end RAC
