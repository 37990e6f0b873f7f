/-! the reference's games -/
theorem dv : ∀ k, k < 121 → ∀ m, m < 12 → 0 < m → nI k / nI m = nI (k / m) ∧ nI k - nI k / nI m * nI m = nI (k % m) := by decide +kernel
theorem mul_1 (a : Int32) : a * 1 = a := Int32.mul_one a
theorem mul_2 (a : Int32) : a * 2 = 2 * a := Int32.mul_comm a 2
section RG
variable {l : Launch} {G : mj_G} {L : Nat} {R : rm} {s : sc} {S : mj_S}
theorem s_turnOf {p c : Nat} {Q : mj_S → Int32 → Prop} (C : RI L S R s) (hp : p < r_np R) (hc : c ≤ r_nc R) (h : Q S (tu R s p c)) : M_X11_turnOf l G 89 (nI p) (nI c) S Q := by
  have nc := C.rw.nc
  unfold tu at h
  refine e_X11_turnOf (b_X11_turnOf_0 C.sh.k89 (s_risCurtain C (fun q e => ?_) (fun e => ?_)))
  · have hc' : c < r_nc R := by
      have := ixn_some (by omega) e
      have := (nI_eq (by omega) (by omega)).mp this.2
      omega
    try simp only [Option.some.injEq, exists_eq_left', fi32, i10, i00, false_implies, true_implies, not_false_eq_true, not_true_eq_false, true_and, and_true, nI_1, lz0, lz1, ix0, ix11, ix2]
    refine s_isFallen C hc' (fun e2 => ?_) (fun e2 => ?_)
    · rw [if_neg (fun z => z.2.1 e2)] at h
      try simp only [Option.some.injEq, exists_eq_left', fi32, i10, i00, false_implies, true_implies, not_false_eq_true, not_true_eq_false, true_and, and_true, nI_1, lz0, lz1, ix0, ix11, ix2]
      exact h
    · try simp only [Option.some.injEq, exists_eq_left', fi32, i10, i00, false_implies, true_implies, not_false_eq_true, not_true_eq_false, true_and, and_true, nI_1, lz0, lz1, ix0, ix11, ix2]
      refine s_hasRight C hp hc' (fun e3 => ?_) (fun e3 => ?_)
      · rw [if_pos ⟨hc', e2, e3⟩] at h
        try simp only [Option.some.injEq, exists_eq_left', fi32, i10, i00, false_implies, true_implies, not_false_eq_true, not_true_eq_false, true_and, and_true, nI_1, lz0, lz1, ix0, ix11, ix2]
        exact h
      · rw [if_neg (fun z => by rw [e3] at z; cases z.2.2)] at h
        try simp only [Option.some.injEq, exists_eq_left', fi32, i10, i00, false_implies, true_implies, not_false_eq_true, not_true_eq_false, true_and, and_true, nI_1, lz0, lz1, ix0, ix11, ix2]
        exact h
  · rw [if_neg (fun z => by rw [ixn_nI (by omega) z.1] at e; cases e)] at h
    try simp only [Option.some.injEq, exists_eq_left', fi32, i10, i00, false_implies, true_implies, not_false_eq_true, not_true_eq_false, true_and, and_true, nI_1, lz0, lz1, ix0, ix11, ix2]
    exact h
theorem s_hasBy {p : Nat} {X : Int32} {Q : mj_S → Int32 → Prop} (C : RI L S R s) (hp : p < r_np R) (h : Q S (shr R s (hg R s ^^^ X) p)) : M_X11_hasBy l G 89 (nI p) X S Q := by
  have np := C.rw.np
  have hin : vp_in (nI (11 + p)) 199 := vp_nI (by omega) (by omega)
  unfold shr at h
  refine e_X11_hasBy (b_X11_hasBy_0 C.sh.k89 ?_)
  try simp only [Option.some.injEq, exists_eq_left', fi32, i10, i00, false_implies, true_implies, not_false_eq_true, not_true_eq_false, true_and, and_true, nI_1, lz0, lz1, ix0, ix11, ix2, C.sh.p89_22, C.sh.p89_23, C.sh.p89_24, C.sh.p89_28, C.sh.p89_32, C.sh.p89_33, C.sh.l103, C.sh.l104, C.sh.l105, C.sh.l106, C.sh.l108, C.sh.l109, C.rr.n, C.rr.nc, C.rr.np, C.rr.w, C.rr.h, C.rr.li, C.rr.mo, C.rs.bk, C.rs.yr, ix4, ix6, hin, nI_clamp (show 11 + p < 2 ^ 31 by omega), C.rs.pl hp]
  refine s_hanging C (s_joinedBy C (C.sw.pl hp) (s_bc (s_lordOf C ?_)))
  try simp only [Option.some.injEq, exists_eq_left', fi32, i10, i00, false_implies, true_implies, not_false_eq_true, not_true_eq_false, true_and, and_true, nI_1, lz0, lz1, ix0, ix11, ix2, oI_e (o := lo R s (jn R (hg R s ^^^ X) (on (s_pl s p))) (r_np R)) (p := p) (fun m z => by have := lo_lt z; omega) (by omega), mul_1, mul_2]
  exact ⟨fun z => by rw [if_neg z] at h; exact h, fun z => by rw [if_pos z] at h; exact h⟩
theorem s_gameOf {p q a b w : Nat} {Q : mj_S → Int32 → Prop} (C : RI L S R s) (hp : p < r_np R) (hq : q < r_np R) (hw : w < r_np R) (ha : a ≤ r_nc R) (hb : b ≤ r_nc R) (h : Q S (gm R s p q a b w)) : M_X11_gameOf l G 89 (nI p) (nI q) (nI a) (nI b) (nI w) S Q :=
  e_X11_gameOf (b_X11_gameOf_0 C.sh.k89 (s_turnOf C hp ha (s_turnOf C hq hb (s_hasBy C hw h))))
theorem s_areTwo {x1 x2 : Int32} {Q : mj_S → Int32 → Prop} (C : RI L S R s) (h1 : ∀ p q, ixn (r_np R) x1 = some p → ixn (r_np R) x2 = some q → ¬ x1 = x2 → Q S 1) (h0 : (ixn (r_np R) x1 = none ∨ ixn (r_np R) x2 = none ∨ x1 = x2) → Q S 0) : M_X11_areTwo l G 89 x1 x2 S Q := by
  refine e_X11_areTwo (b_X11_areTwo_0 C.sh.k89 (s_risPerson C (fun p e => ?_) (fun e => ?_)))
  · try simp only [Option.some.injEq, exists_eq_left', fi32, i10, i00, false_implies, true_implies, not_false_eq_true, not_true_eq_false, true_and, and_true, nI_1, lz0, lz1, ix0, ix11, ix2]
    refine s_risPerson C (fun q e2 => ?_) (fun e2 => ?_)
    · try simp only [Option.some.injEq, exists_eq_left', fi32, i10, i00, false_implies, true_implies, not_false_eq_true, not_true_eq_false, true_and, and_true, nI_1, lz0, lz1, ix0, ix11, ix2]
      exact ⟨fun z => h0 (Or.inr (Or.inr z)), fun z => h1 p q e e2 z⟩
    · try simp only [Option.some.injEq, exists_eq_left', fi32, i10, i00, false_implies, true_implies, not_false_eq_true, not_true_eq_false, true_and, and_true, nI_1, lz0, lz1, ix0, ix11, ix2]
      exact h0 (Or.inr (Or.inl e2))
  · try simp only [Option.some.injEq, exists_eq_left', fi32, i10, i00, false_implies, true_implies, not_false_eq_true, not_true_eq_false, true_and, and_true, nI_1, lz0, lz1, ix0, ix11, ix2]
    exact h0 (Or.inl e)
theorem d_game {x1 x2 x3 x4 x5 : Int32} {Q : mj_S → Int32 → Prop} (C : RI L S R s) (h : Q S (A_game R s x1 x2 x3 x4 x5)) : M_X11_game l G 89 x1 x2 x3 x4 x5 S Q := by
  have np := C.rw.np
  have nc := C.rw.nc
  unfold A_game at h
  refine e_X11_game (b_X11_game_0 C.sh.k89 (s_areTwo C (fun p q e1 e2 ne => ?_) (fun e => ?_)))
  · obtain ⟨hp, ep⟩ := ixn_some (by omega) e1
    obtain ⟨hq, eq⟩ := ixn_some (by omega) e2
    try simp only [Option.some.injEq, exists_eq_left', fi32, i10, i00, false_implies, true_implies, not_false_eq_true, not_true_eq_false, true_and, and_true, nI_1, lz0, lz1, ix0, ix11, ix2, C.sh.p89_22, C.sh.p89_23, C.sh.p89_24, C.sh.p89_28, C.sh.p89_32, C.sh.p89_33, C.sh.l103, C.sh.l104, C.sh.l105, C.sh.l106, C.sh.l108, C.sh.l109, C.rr.n, C.rr.nc, C.rr.np, C.rr.w, C.rr.h, C.rr.li, C.rr.mo, C.rs.bk, C.rs.yr, ix4, ix6]
    refine s_rinK (by omega) (fun a e3 => ?_) (fun e3 => ?_)
    · obtain ⟨ha, ea⟩ := ixn_some (by omega) e3
      try simp only [Option.some.injEq, exists_eq_left', fi32, i10, i00, false_implies, true_implies, not_false_eq_true, not_true_eq_false, true_and, and_true, nI_1, lz0, lz1, ix0, ix11, ix2, C.sh.p89_22, C.sh.p89_23, C.sh.p89_24, C.sh.p89_28, C.sh.p89_32, C.sh.p89_33, C.sh.l103, C.sh.l104, C.sh.l105, C.sh.l106, C.sh.l108, C.sh.l109, C.rr.n, C.rr.nc, C.rr.np, C.rr.w, C.rr.h, C.rr.li, C.rr.mo, C.rs.bk, C.rs.yr, ix4, ix6]
      refine s_rinK (by omega) (fun b e4 => ?_) (fun e4 => ?_)
      · obtain ⟨hb, eb⟩ := ixn_some (by omega) e4
        try simp only [Option.some.injEq, exists_eq_left', fi32, i10, i00, false_implies, true_implies, not_false_eq_true, not_true_eq_false, true_and, and_true, nI_1, lz0, lz1, ix0, ix11, ix2, C.sh.p89_22, C.sh.p89_23, C.sh.p89_24, C.sh.p89_28, C.sh.p89_32, C.sh.p89_33, C.sh.l103, C.sh.l104, C.sh.l105, C.sh.l106, C.sh.l108, C.sh.l109, C.rr.n, C.rr.nc, C.rr.np, C.rr.w, C.rr.h, C.rr.li, C.rr.mo, C.rs.bk, C.rs.yr, ix4, ix6]
        refine s_rinK (n := 1) (by omega) (fun w e5 => ?_) (fun e5 => ?_)
        · rw [if_neg (by rw [e1, e2, e3, e4, e5]; simp [ne])] at h
          try simp only [Option.some.injEq, exists_eq_left', fi32, i10, i00, false_implies, true_implies, not_false_eq_true, not_true_eq_false, true_and, and_true, nI_1, lz0, lz1, ix0, ix11, ix2, C.sh.p89_22, C.sh.p89_23, C.sh.p89_24, C.sh.p89_28, C.sh.p89_32, C.sh.p89_33, C.sh.l103, C.sh.l104, C.sh.l105, C.sh.l106, C.sh.l108, C.sh.l109, C.rr.n, C.rr.nc, C.rr.np, C.rr.w, C.rr.h, C.rr.li, C.rr.mo, C.rs.bk, C.rs.yr, ix4, ix6]
          rw [ep, eq, ea, eb]
          rw [ep, eq, ea, eb, nI_clamp (by omega), nI_clamp (by omega), nI_clamp (by omega), nI_clamp (by omega)] at h
          refine ⟨fun z => ?_, fun z => ?_⟩
          · rw [if_neg z] at h
            exact b_X11_game_64 C.sh.k89 (s_gameOf C hp hq hq (by omega) (by omega) h)
          · rw [if_pos z] at h
            exact b_X11_game_64 C.sh.k89 (s_gameOf C hp hq hp (by omega) (by omega) h)
        · rw [if_pos (by rw [e5]; simp)] at h
          try simp only [Option.some.injEq, exists_eq_left', fi32, i10, i00, false_implies, true_implies, not_false_eq_true, not_true_eq_false, true_and, and_true, nI_1, lz0, lz1, ix0, ix11, ix2]
          exact h
      · rw [if_pos (by rw [e4]; simp)] at h
        try simp only [Option.some.injEq, exists_eq_left', fi32, i10, i00, false_implies, true_implies, not_false_eq_true, not_true_eq_false, true_and, and_true, nI_1, lz0, lz1, ix0, ix11, ix2]
        exact h
    · rw [if_pos (by rw [e3]; simp)] at h
      try simp only [Option.some.injEq, exists_eq_left', fi32, i10, i00, false_implies, true_implies, not_false_eq_true, not_true_eq_false, true_and, and_true, nI_1, lz0, lz1, ix0, ix11, ix2]
      exact h
  · rw [if_pos (by rcases e with e | e | e; exact Or.inl e; exact Or.inr (Or.inl e); exact Or.inr (Or.inr (Or.inl e)))] at h
    try simp only [Option.some.injEq, exists_eq_left', fi32, i10, i00, false_implies, true_implies, not_false_eq_true, not_true_eq_false, true_and, and_true, nI_1, lz0, lz1, ix0, ix11, ix2]
    exact h
/-- the reference's table, its first k -/
def TR (S : mj_S) (R : rm) (s : sc) (p q k : Nat) : Prop := ∀ j, j < k → m_gi S 114 j = gm R s p q (j / (r_nc R + 1)) (j % (r_nc R + 1)) p ∧ m_gi S 115 j = gm R s p q (j / (r_nc R + 1)) (j % (r_nc R + 1)) q
theorem s_layGame {p q : Nat} {Q : mj_S → Prop} (C : RI L S R s) (hp : p < r_np R) (hq : q < r_np R) (h : ∀ S', fr DR S S' → TR S' R s p q ((r_nc R + 1) * (r_nc R + 1)) → Q S') : M_X11_layGame l G 89 (nI p) (nI q) S Q := by
  have nc := C.rw.nc
  have h121 : (r_nc R + 1) * (r_nc R + 1) ≤ 11 * 11 := Nat.mul_le_mul (by omega) (by omega)
  refine e_X11_layGame (b_X11_layGame_0 C.sh.k89 ?_)
  refine dn (P := fun k => ∀ T, fr DR S T → TR T R s p q k → V_X11_layGame_2 l G 89 (nI p) (nI q) (nI k) T Q) ((r_nc R + 1) * (r_nc R + 1)) ?_ ?_ S fr.rf (fun j z => absurd z (by omega))
  · intro T f hT
    have D := C.fr f
    refine b_X11_layGame_2 D.sh.k89 ?_
    try simp only [Option.some.injEq, exists_eq_left', fi32, i10, i00, false_implies, true_implies, not_false_eq_true, not_true_eq_false, true_and, and_true, nI_1, lz0, lz1, ix0, ix11, ix2, D.sh.p89_22, D.sh.p89_23, D.sh.p89_24, D.sh.p89_28, D.sh.p89_32, D.sh.p89_33, D.sh.l103, D.sh.l104, D.sh.l105, D.sh.l106, D.sh.l108, D.sh.l109, D.rr.n, D.rr.nc, D.rr.np, D.rr.w, D.rr.h, D.rr.li, D.rr.mo, D.rs.bk, D.rs.yr, ix4, ix6, nI_mul, geT (show (r_nc R + 1) * (r_nc R + 1) < 2 ^ 31 by omega)]
    exact h T f hT
  · intro k hk ih T f hT
    have D := C.fr f
    have hd := dv k (by omega) (r_nc R + 1) (by omega) (by omega)
    have hx : k / (r_nc R + 1) ≤ r_nc R := Nat.le_of_lt_succ (Nat.div_lt_of_lt_mul hk)
    have hy : k % (r_nc R + 1) ≤ r_nc R := Nat.le_of_lt_succ (Nat.mod_lt _ (by omega))
    have hin : vp_in (nI k) 121 := vp_nI (by omega) (by omega)
    refine b_X11_layGame_2 D.sh.k89 ?_
    try simp only [Option.some.injEq, exists_eq_left', fi32, i10, i00, false_implies, true_implies, not_false_eq_true, not_true_eq_false, true_and, and_true, nI_1, lz0, lz1, ix0, ix11, ix2, D.sh.p89_22, D.sh.p89_23, D.sh.p89_24, D.sh.p89_28, D.sh.p89_32, D.sh.p89_33, D.sh.l103, D.sh.l104, D.sh.l105, D.sh.l106, D.sh.l108, D.sh.l109, D.rr.n, D.rr.nc, D.rr.np, D.rr.w, D.rr.h, D.rr.li, D.rr.mo, D.rs.bk, D.rs.yr, ix4, ix6, nI_mul, gtF hk (show (r_nc R + 1) * (r_nc R + 1) < 2 ^ 31 by omega), D.sh.p89_40, nI_ne0 (show 0 < r_nc R + 1 by omega) (show r_nc R + 1 < 2 ^ 31 by omega)]
    rw [hd.2, hd.1]
    refine s_gameOf D hp hq hp hx hy ?_
    try simp only [Option.some.injEq, exists_eq_left', fi32, i10, i00, false_implies, true_implies, not_false_eq_true, not_true_eq_false, true_and, and_true, nI_1, lz0, lz1, ix0, ix11, ix2, D.sh.l114, hin, nI_clamp (show k < 2 ^ 31 by omega)]
    intro T1 e1
    have f1 : fr DR T T1 := by rw [e1]; exact fr.si rfl
    have E := D.fr f1
    try simp only [Option.some.injEq, exists_eq_left', fi32, i10, i00, false_implies, true_implies, not_false_eq_true, not_true_eq_false, true_and, and_true, nI_1, lz0, lz1, ix0, ix11, ix2, E.sh.p89_22, E.sh.p89_23, E.sh.p89_24, E.sh.p89_28, E.sh.p89_32, E.sh.p89_33, E.sh.l103, E.sh.l104, E.sh.l105, E.sh.l106, E.sh.l108, E.sh.l109, E.rr.n, E.rr.nc, E.rr.np, E.rr.w, E.rr.h, E.rr.li, E.rr.mo, E.rs.bk, E.rs.yr, ix4, ix6, E.sh.p89_41, nI_ne0 (show 0 < r_nc R + 1 by omega) (show r_nc R + 1 < 2 ^ 31 by omega)]
    rw [hd.2, hd.1]
    refine s_gameOf E hp hq hq hx hy ?_
    try simp only [Option.some.injEq, exists_eq_left', fi32, i10, i00, false_implies, true_implies, not_false_eq_true, not_true_eq_false, true_and, and_true, nI_1, lz0, lz1, ix0, ix11, ix2, E.sh.l115, hin, nI_clamp (show k < 2 ^ 31 by omega)]
    intro T2 e2
    try simp only [Option.some.injEq, exists_eq_left', fi32, i10, i00, false_implies, true_implies, not_false_eq_true, not_true_eq_false, true_and, and_true, nI_1, lz0, lz1, ix0, ix11, ix2]
    refine ih T2 ((f.tr f1).tr (by rw [e2]; exact fr.si rfl)) (fun j hj => ?_)
    rw [e2, m_gi_si, m_gi_si, if_neg (show ¬ (114 = 115 ∧ j = k) by omega), e1, m_gi_si, m_gi_si, if_neg (show ¬ (115 = 114 ∧ j = k) by omega)]
    by_cases e : j = k
    · rw [if_pos ⟨rfl, e⟩, if_pos ⟨rfl, e⟩, e]; exact ⟨rfl, rfl⟩
    · rw [if_neg (fun z => e z.2), if_neg (fun z => e z.2)]
      exact hT j (by omega)
theorem tr_at {p q a b : Nat} (hT : TR S R s p q ((r_nc R + 1) * (r_nc R + 1))) (ha : a ≤ r_nc R) (hb : b ≤ r_nc R) : (r_nc R + 1) * a + b < (r_nc R + 1) * (r_nc R + 1) ∧ m_gi S 114 ((r_nc R + 1) * a + b) = gm R s p q a b p ∧ m_gi S 115 ((r_nc R + 1) * a + b) = gm R s p q a b q := by
  have h1 : (r_nc R + 1) * a + b < (r_nc R + 1) * (r_nc R + 1) := by
    have := Nat.mul_le_mul_left (r_nc R + 1) (show a + 1 ≤ r_nc R + 1 by omega)
    rw [Nat.mul_add, Nat.mul_one] at this
    omega
  have := hT _ h1
  rw [Nat.mul_add_mod, Nat.mod_eq_of_lt (by omega), Nat.mul_add_div (by omega), Nat.div_eq_of_lt (by omega), Nat.add_zero] at this
  exact ⟨h1, this⟩
theorem s_isRest {p q a b : Nat} {Q : mj_S → Int32 → Prop} (C : RI L S R s) (hT : TR S R s p q ((r_nc R + 1) * (r_nc R + 1))) (ha : a ≤ r_nc R) (hb : b ≤ r_nc R) (h1 : rsk R s p q a b (r_nc R + 1) = true → Q S 1) (h0 : rsk R s p q a b (r_nc R + 1) = false → Q S 0) : M_X11_isRest l G 89 (nI a) (nI b) S Q := by
  have nc := C.rw.nc
  have h121 : (r_nc R + 1) * (r_nc R + 1) ≤ 11 * 11 := Nat.mul_le_mul (by omega) (by omega)
  refine e_X11_isRest (b_X11_isRest_0 C.sh.k89 ?_)
  try simp only [Option.some.injEq, exists_eq_left', fi32, i10, i00, false_implies, true_implies, not_false_eq_true, not_true_eq_false, true_and, and_true, nI_1, lz0, lz1, ix0, ix11, ix2, C.sh.p89_22, C.sh.p89_23, C.sh.p89_24, C.sh.p89_28, C.sh.p89_32, C.sh.p89_33, C.sh.l103, C.sh.l104, C.sh.l105, C.sh.l106, C.sh.l108, C.sh.l109, C.rr.n, C.rr.nc, C.rr.np, C.rr.w, C.rr.h, C.rr.li, C.rr.mo, C.rs.bk, C.rs.yr, ix4, ix6]
  refine dn (P := fun c => rsk R s p q a b c = true → V_X11_isRest_10 l G 89 (nI a) (nI b) (nI (r_nc R + 1)) (nI c) S Q) (r_nc R + 1) ?_ ?_ rfl
  · intro e
    refine b_X11_isRest_10 C.sh.k89 ?_
    try simp only [Option.some.injEq, exists_eq_left', fi32, i10, i00, false_implies, true_implies, not_false_eq_true, not_true_eq_false, true_and, and_true, nI_1, lz0, lz1, ix0, ix11, ix2, geT (show r_nc R + 1 < 2 ^ 31 by omega)]
    exact h1 e
  · intro c hc ih e
    have t1 := tr_at hT (show c ≤ r_nc R by omega) hb
    have t2 := tr_at hT ha (show c ≤ r_nc R by omega)
    have t3 := tr_at hT ha hb
    have i1 : vp_in (nI ((r_nc R + 1) * c + b)) 121 := vp_nI (by omega) (by omega)
    have i2 : vp_in (nI ((r_nc R + 1) * a + c)) 121 := vp_nI (by omega) (by omega)
    have i3 : vp_in (nI ((r_nc R + 1) * a + b)) 121 := vp_nI (by omega) (by omega)
    unfold rsk at ih
    rw [e] at ih
    have no : rsk R s p q a b (c + 1) = false → Q S 0 := fun z => h0 (rsk_f z (by omega))
    unfold rsk at no
    rw [e] at no
    refine b_X11_isRest_10 C.sh.k89 ?_
    try simp only [Option.some.injEq, exists_eq_left', fi32, i10, i00, false_implies, true_implies, not_false_eq_true, not_true_eq_false, true_and, and_true, nI_1, lz0, lz1, ix0, ix11, ix2, gtF hc (show r_nc R + 1 < 2 ^ 31 by omega), C.sh.p89_40, C.sh.p89_41, C.sh.l114, C.sh.l115, nI_mul, nI_add, i1, i2, i3, nI_clamp (show (r_nc R + 1) * c + b < 2 ^ 31 by omega), nI_clamp (show (r_nc R + 1) * a + c < 2 ^ 31 by omega), nI_clamp (show (r_nc R + 1) * a + b < 2 ^ 31 by omega), t1.2.1, t2.2.2, t3.2.1, t3.2.2]
    refine ⟨fun z => no (by simp [z]), fun z => ⟨fun z2 => ih (by simp [z, Int32.not_lt.mpr z2]), fun z2 => no (by simp [z]; exact Int32.not_le.mp z2)⟩⟩
theorem d_rests {x1 x2 x3 : Int32} {Q : mj_S → Int32 → Prop} (C : RI L S R s) (h : ∀ S', fr DR S S' → Q S' (A_rests R s x1 x2 x3)) : M_X11_rests l G 89 x1 x2 x3 S Q := by
  have np := C.rw.np
  have nc := C.rw.nc
  unfold A_rests at h
  refine e_X11_rests (b_X11_rests_0 C.sh.k89 (s_areTwo C (fun p q e1 e2 ne => ?_) (fun e => ?_)))
  · obtain ⟨hp, ep⟩ := ixn_some (by omega) e1
    obtain ⟨hq, eq⟩ := ixn_some (by omega) e2
    try simp only [Option.some.injEq, exists_eq_left', fi32, i10, i00, false_implies, true_implies, not_false_eq_true, not_true_eq_false, true_and, and_true, nI_1, lz0, lz1, ix0, ix11, ix2]
    refine ⟨fun z => ?_, fun z => ?_⟩
    · rw [if_neg (by rw [e1, e2]; simp [ne, z]), ep, eq, nI_clamp (by omega), nI_clamp (by omega)] at h
      rw [ep, eq]
      refine s_layGame C hp hq (fun S' f hT => ?_)
      have D := C.fr f
      refine search (i := x3) (n := r_nc R + 1) (A := fun f' a => V_X11_rests_28 l G 89 x3 f' (nI a) S' Q) (B := fun f' a b => V_X11_rests_40 l G 89 x3 f' (nI a) (nI b) S' Q) (Qf := fun v => Q S' v) ?_ ?_ ?_ ?_ (h S' f)
      · intro f' hf
        refine b_X11_rests_28 D.sh.k89 ⟨fun _ => ⟨fun z => by rw [if_neg z] at hf; exact hf, fun z => by rw [if_pos z] at hf; exact hf⟩, fun z => absurd ?_ z⟩
        rw [D.rr.nc]; exact nI_lt (by omega) (by omega)
      · intro f' a ha hB
        exact b_X11_rests_28 D.sh.k89 ⟨fun z => absurd z (by rw [D.rr.nc]; exact nI_nlt (by omega) (by omega)), fun _ => hB⟩
      · intro f' a hA
        refine b_X11_rests_40 D.sh.k89 ⟨fun _ v ev => by rw [ev, nI_1]; exact hA, fun z => absurd ?_ z⟩
        rw [D.rr.nc]; exact nI_lt (by omega) (by omega)
      · intro f' a b ha hb k1 k2 k3
        refine b_X11_rests_40 D.sh.k89 ⟨fun z => absurd z (by rw [D.rr.nc]; exact nI_nlt (by omega) (by omega)), fun _ => s_isRest D hT (by omega) (by omega) (fun e => ?_) (fun e => ?_)⟩
        · try simp only [Option.some.injEq, exists_eq_left', fi32, i10, i00, false_implies, true_implies, not_false_eq_true, not_true_eq_false, true_and, and_true, nI_1, lz0, lz1, ix0, ix11, ix2]
          exact ⟨fun z => k2 e z, fun z => k1 e z⟩
        · try simp only [Option.some.injEq, exists_eq_left', fi32, i10, i00, false_implies, true_implies, not_false_eq_true, not_true_eq_false, true_and, and_true, nI_1, lz0, lz1, ix0, ix11, ix2]
          exact k3 e
    · rw [if_pos (Or.inr (Or.inr (Or.inr z)))] at h
      exact h S fr.rf
  · rw [if_pos (by rcases e with e | e | e; exact Or.inl e; exact Or.inr (Or.inl e); exact Or.inr (Or.inr (Or.inl e)))] at h
    try simp only [Option.some.injEq, exists_eq_left', fi32, i10, i00, false_implies, true_implies, not_false_eq_true, not_true_eq_false, true_and, and_true, nI_1, lz0, lz1, ix0, ix11, ix2]
    exact h S fr.rf
theorem tu_nc {p : Nat} : tu R s p (r_nc R) = 0 := if_neg (fun z => absurd z.1 (by omega))
theorem or_0' (x : Int32) : 0 ||| x = x := by
  apply b_ext
  intro i _
  rw [b_or, b_0, Bool.false_or]
theorem d_treaty {x1 x2 : Int32} {Q : mj_S → Int32 → Prop} (C : RI L S R s) (h : Q S (A_treaty R s x1 x2)) : M_X11_treaty l G 89 x1 x2 S Q := by
  have np := C.rw.np
  have nc := C.rw.nc
  unfold A_treaty at h
  refine e_X11_treaty (b_X11_treaty_0 C.sh.k89 (s_areTwo C (fun p q e1 e2 ne => ?_) (fun e => ?_)))
  · obtain ⟨hp, ep⟩ := ixn_some (by omega) e1
    obtain ⟨hq, eq⟩ := ixn_some (by omega) e2
    try simp only [Option.some.injEq, exists_eq_left', fi32, i10, i00, false_implies, true_implies, not_false_eq_true, not_true_eq_false, true_and, and_true, nI_1, lz0, lz1, ix0, ix11, ix2]
    rw [if_neg (by rw [e1, e2]; simp [ne]), ep, eq, nI_clamp (by omega), nI_clamp (by omega)] at h
    rw [ep, eq]
    have g1 : gm R s p q (r_nc R) (r_nc R) p = shr R s (hg R s ^^^ 0) p := by unfold gm; rw [tu_nc, tu_nc, or_0]
    have g2 : gm R s p q (r_nc R) (r_nc R) q = shr R s (hg R s ^^^ 0) q := by unfold gm; rw [tu_nc, tu_nc, or_0]
    have g3 : ∀ c, gm R s p q c (r_nc R) p = shr R s (hg R s ^^^ tu R s p c) p := fun c => by unfold gm; rw [tu_nc, or_0]
    have g4 : ∀ c, gm R s p q (r_nc R) c q = shr R s (hg R s ^^^ tu R s q c) q := fun c => by unfold gm; rw [tu_nc, or_0']
    refine dn (P := fun c => rsk R s p q (r_nc R) (r_nc R) c = true → V_X11_treaty_13 l G 89 (nI p) (nI q) (nI c) S Q) (r_nc R) ?_ ?_ rfl
    · intro e
      refine b_X11_treaty_13 C.sh.k89 ?_
      try simp only [Option.some.injEq, exists_eq_left', fi32, i10, i00, false_implies, true_implies, not_false_eq_true, not_true_eq_false, true_and, and_true, nI_1, lz0, lz1, ix0, ix11, ix2, C.sh.p89_22, C.sh.p89_23, C.sh.p89_24, C.sh.p89_28, C.sh.p89_32, C.sh.p89_33, C.sh.l103, C.sh.l104, C.sh.l105, C.sh.l106, C.sh.l108, C.sh.l109, C.rr.n, C.rr.nc, C.rr.np, C.rr.w, C.rr.h, C.rr.li, C.rr.mo, C.rs.bk, C.rs.yr, ix4, ix6, geT (show r_nc R < 2 ^ 31 by omega)]
      rw [if_pos] at h
      · exact h
      · unfold rsk; rw [e]; simp [Int32.lt_irrefl]
    · intro c hc ih e
      unfold rsk at ih
      rw [e, g1, g2, g3, g4] at ih
      have no : rsk R s p q (r_nc R) (r_nc R) (c + 1) = false → Q S 0 := fun z => by
        rw [if_neg (by rw [rsk_f z (m := r_nc R + 1) (by omega)]; decide)] at h; exact h
      unfold rsk at no
      rw [e, g1, g2, g3, g4] at no
      refine b_X11_treaty_13 C.sh.k89 ?_
      try simp only [Option.some.injEq, exists_eq_left', fi32, i10, i00, false_implies, true_implies, not_false_eq_true, not_true_eq_false, true_and, and_true, nI_1, lz0, lz1, ix0, ix11, ix2, C.sh.p89_22, C.sh.p89_23, C.sh.p89_24, C.sh.p89_28, C.sh.p89_32, C.sh.p89_33, C.sh.l103, C.sh.l104, C.sh.l105, C.sh.l106, C.sh.l108, C.sh.l109, C.rr.n, C.rr.nc, C.rr.np, C.rr.w, C.rr.h, C.rr.li, C.rr.mo, C.rs.bk, C.rs.yr, ix4, ix6, gtF hc (show r_nc R < 2 ^ 31 by omega)]
      refine s_turnOf C hp (by omega) (s_hasBy C hp (s_hasBy C hp ⟨fun z => no (by rw [decide_eq_true z]; rfl), fun z => s_turnOf C hq (by omega) (s_hasBy C hq (s_hasBy C hq ⟨fun z2 => ih (by rw [decide_eq_false z, decide_eq_false (Int32.not_lt.mpr z2)]; rfl), fun z2 => no (by rw [decide_eq_false z, decide_eq_true (Int32.not_le.mp z2)]; rfl)⟩))⟩))
  · rw [if_pos e] at h
    try simp only [Option.some.injEq, exists_eq_left', fi32, i10, i00, false_implies, true_implies, not_false_eq_true, not_true_eq_false, true_and, and_true, nI_1, lz0, lz1, ix0, ix11, ix2]
    exact h
end RG
