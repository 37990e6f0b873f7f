/-! years and centuries -/
def fg (D : Nat → Nat → Bool) (S S' : mj_S) : Prop := S'.1 = S.1 ∧ (∀ a j, D a j = false → m_gi S' a j = m_gi S a j) ∧ ∀ a j, m_gp S' a j = m_gp S a j
theorem fr.fg {D : Nat → Nat → Bool} {S S' : mj_S} (f : fr D S S') : fg D S S' := ⟨f.1, f.2.1, f.2.2.2⟩
theorem fg.rf {D : Nat → Nat → Bool} {S : mj_S} : fg D S S := ⟨rfl, fun _ _ _ => rfl, fun _ _ => rfl⟩
theorem fg.tr {D : Nat → Nat → Bool} {S S' S'' : mj_S} (h1 : fg D S S') (h2 : fg D S' S'') : fg D S S'' := ⟨h2.1.trans h1.1, fun a j h => (h2.2.1 a j h).trans (h1.2.1 a j h), fun a j => (h2.2.2 a j).trans (h1.2.2 a j)⟩
theorem fg_law {S S' : mj_S} (f : fg DA S S') : lawz S S' := ⟨f.1, fun a j h1 h2 h3 => f.2.1 a j (by
  unfold DA
  rw [DC_law h1 h2 h3, D5_no (by omega) (by omega) (by omega)]
  have e : Nat.ble 74 a = false := by rw [← Bool.not_eq_true, Nat.ble_eq]; omega
  rw [e]; rfl)⟩
theorem CK.mono {l : Launch} {G : mj_G} {L : Nat} {S T : mj_S} {R : rm} {tk : sc → Nat → Nat} (h : CK l G L S R tk) (z : lawz S T) : CK l G L T R tk := fun S' r x rs s h1 => h S' r x rs s (z.tr h1)
theorem RK.mono {l : Launch} {G : mj_G} {L : Nat} {S T : mj_S} {R : rm} {tk : sc → Nat → Nat} (h : RK l G L S R tk) (z : lawr S T) : RK l G L T R tk := fun S' s h1 => h S' s (z.tr h1)
theorem fg_lawr {S S' : mj_S} (f : fg DRA S S') : lawr S S' := by
  have k : ∀ a j, 89 ≤ a → a ≤ 97 → (a = 89 → j ≠ 37) → DRA a j = false := fun a j h1 h2 h3 => by
    unfold DRA DR
    rw [← Bool.not_eq_true]
    simp only [Bool.or_eq_true, Bool.and_eq_true, Nat.beq_eq, Nat.ble_eq]
    omega
  exact ⟨f.1, fun a j h1 h2 => f.2.1 a j (k a j (by omega) h2 (by omega)), f.2.1 _ _ (k _ _ (by omega) (by omega) (by omega))⟩
def yit (R : rm) (tk : sc → Nat → Nat) : Nat → sc → hy → sc × hy
  | 0, s, H => (s, H)
  | k + 1, s, H => yit R tk k (wrn R s (lt0 R tk s)) (hyear s (ly R tk s) (hpush s H))
section YR
variable {l : Launch} {G : mj_G} {L r rs nx : Nat} {R : rm} {s : sc} {S : mj_S} {H : hy} {I : imt} {tk : sc → Nat → Nat}
theorem CHS.year {S' : mj_S} {v : Nat → Int32} (hR : r_wf R) (P : CHS S R s nx H I) {s' : sc} (he : s_yr s' = s_yr s + 1) (k : ∀ a j, 74 ≤ a → a ≤ 78 → a ≠ 76 → m_gi S' a j = m_gi S a j) (g : RG S' 76 (lgs H.2.2.1 (s_yr s + 1) v) (max H.2.2.2 (s_yr s + 1)) (s_yr s + 1)) : CHS S' R s' nx (hyear s v H) I := by
  refine ⟨P.1.cong hR (k _ _ (by omega) (by omega) (by omega)) (k _ _ (by omega) (by omega) (by omega)) (fun j => k _ _ (by omega) (by omega) (by omega)), ?_, (k _ _ (by omega) (by omega) (by omega)).trans P.2.2.1, fun z => ⟨(P.2.2.2 z).1.cong hR (fun j _ => k _ _ (by omega) (by omega) (by omega)), fun y w a b c d => (k _ _ (by omega) (by omega) (by omega)).trans ((P.2.2.2 z).2 y w a b c d)⟩⟩
  rw [he]; exact g
theorem DY_74 {a j : Nat} (h1 : 74 ≤ a) (h2 : a ≤ 78) (h3 : a ≠ 76) : DY a j = false := by
  unfold DY
  rw [DC_74 h1 h2, DS_no (by omega) (by omega)]
  rw [← Bool.not_eq_true, Bool.or_eq_true, Bool.or_eq_true, Nat.beq_eq]
  intro z
  rcases z with z | z | z
  · cases z
  · cases z
  · omega
/-- a year is lived behind a kept scene -/
theorem s_yearC {Q : mj_S → Prop} (C : CI L S r 50 rs R s) (P : CHS S R s nx H I) (hK : CK l G L S R tk) (ht : t_ok R tk) (hy : s_yr s < 999) (hpos : 0 < r_n R) (h : ∀ S', fr DY S S' → CI L S' r 50 rs R (wrn R s (lt0 R tk s)) → CHS S' R (wrn R s (lt0 R tk s)) nx (hyear s (ly R tk s) H) I → Q S') : M_X10_liveYear l G 6 S Q :=
  s_liveYear C hK ht hy hpos P.2.1 (fun S' f D g => h S' f D (P.year C.rw rfl (fun a j h1 h2 h3 => f.i a j (DY_74 h1 h2 h3)) g))
theorem s_yearsC {m : Nat} {Q : mj_S → Int32 → Prop} (hK : CK l G L S R tk) (ht : t_ok R tk) (hpos : 0 < r_n R) (hm : m ≤ 60) : ∀ (k i : Nat) (T : mj_S) (s1 : sc) (H1 : hy) (nx1 : Nat), i + k = m → s_yr s1 + k ≤ 999 → fg DA S T → CI L T r 50 rs R s1 → CHS T R s1 nx1 H1 I → (∀ S' nx', fg DA S S' → CI L S' r 50 rs R (yit R tk k s1 H1).1 → CHS S' R (yit R tk k s1 H1).1 nx' (yit R tk k s1 H1).2 I → Q S' (nI (s_yr (yit R tk k s1 H1).1))) → V_X10_years_52 l G 6 (nI m) (nI i) T Q
  | 0, i, T, s1, H1, nx1, hi, hy, f, C, P, h => by
    refine b_X10_years_52 C.sh.k6 ⟨fun _ => ⟨50, C.sh.p6_7, ?_⟩, fun z => absurd (nI_le (by omega) (by omega)) z⟩
    rw [C.sn.yr]; exact h T nx1 f C P
  | k + 1, i, T, s1, H1, nx1, hi, hy, f, C, P, h => by
    refine b_X10_years_52 C.sh.k6 ⟨fun z => absurd z (nI_ge (by omega) (by omega)), fun _ => ⟨74, C.sh.p6_9, 50, C.sh.p6_7, s_remember' C P (fun S2 f2 E P2 => ?_)⟩⟩
    have g2 := f.tr (D74_DA f2).fg
    refine s_yearC E P2 (hK.mono (fg_law g2)) ht (by omega) hpos (fun S3 f3 F P3 v ev => ?_)
    rw [ev, nI_1]
    exact s_yearsC hK ht hpos hm k (i + 1) S3 _ _ _ (by omega) (by show s_yr s1 + 1 + k ≤ 999; omega) (g2.tr (DY_DA f3).fg) F P3 h
def P_years (R : rm) (s : sc) (x : Int32) : Nat ⊕ Nat := if r_n R = 0 then .inl 0 else if x < 1 ∨ 60 < x then .inl 1 else if 999 < s_yr s + x.toNatClampNeg then .inl 4 else .inr x.toNatClampNeg
def CQy (L : Nat) (S : mj_S) (r rs : Nat) (R : rm) (s : sc) (H : hy) (I : imt) (tk : sc → Nat → Nat) (Q : mj_S → Int32 → Prop) : Nat ⊕ Nat → Prop
  | .inl j => ∀ S', fr DQ S S' → (∀ i, m_gi S' 88 i = if i = j then m_gi S 88 i + 1 else m_gi S 88 i) → Q S' (-1)
  | .inr m => ∀ S' nx', fg DA S S' → CI L S' r 50 rs R (yit R tk m s H).1 → CHS S' R (yit R tk m s H).1 nx' (yit R tk m s H).2 I → Q S' (nI (s_yr (yit R tk m s H).1))
theorem c_years {x1 : Int32} {Q : mj_S → Int32 → Prop} (C : CI L S r 50 rs R s) (P : CHS S R s nx H I) (hK : CK l G L S R tk) (ht : t_ok R tk) (hy : s_yr s ≤ 999) (h : CQy L S r rs R s H I tk Q (P_years R s x1)) : M_X10_years l G 6 x1 S Q := by
  have no : ∀ j, j < 5 → CQy L S r rs R s H I tk Q (.inl j) → M_X10_refuse l G 6 (nI j) S Q := by
    intro j hj hq
    refine s_refuse C.sh hj (fun S' e => hq S' (by rw [e]; exact fr.si rfl) (fun i => ?_))
    rw [e, m_gi_si]
    by_cases z : i = j
    · rw [if_pos ⟨rfl, z⟩, if_pos z, z]
    · rw [if_neg (fun y => z y.2), if_neg z]
  unfold P_years at h
  refine e_X10_years (b_X10_years_0 C.sh.k6 (s_hasRoom C (fun e => ?_) (fun e => ?_)))
  · rw [if_neg (by omega)] at h
    try simp only [Option.some.injEq, exists_eq_left', fi32, i10, i00, false_implies, true_implies, not_false_eq_true, not_true_eq_false, true_and, and_true, nI_1, lz0, lz1, ix0, ix11, ix2]
    refine s_wit (fun q1 q2 => ?_) (fun q => ?_)
    · obtain ⟨m, m1, m2, em⟩ := y60 q1 q2
      rw [if_neg (fun z => by rcases z with z | z; exact q1 z; exact q2 z), em, nI_clamp (by omega)] at h
      rw [em]
      try simp only [Option.some.injEq, exists_eq_left', fi32, i10, i00, false_implies, true_implies, not_false_eq_true, not_true_eq_false, true_and, and_true, nI_1, lz0, lz1, ix0, ix11, ix2, C.p, C.sh.p6_0, C.sh.p6_4, C.sh.p6_7, C.sh.p6_8, C.sh.p6_9, C.sh.p6_10, C.sh.p6_11, C.sh.p6_12, C.sh.p6_13, C.sh.p50_1, C.sh.p50_2, C.sh.l60, C.sh.l61, C.rc.w, C.rc.h, C.rc.li, C.rc.mo, C.rc.n, C.rc.nc, C.rc.np, C.sh.rp8 C.irm, C.sh.rl8 C.irm, C.sh.rp9 C.irm, C.sh.rl9 C.irm, C.sh.rp10 C.irm, C.sh.rl10 C.irm, C.sh.rp11 C.irm, C.sh.rl11 C.irm, C.sh.rp12 C.irm, C.sh.rl12 C.irm, C.sh.rp16 C.irm, C.sh.rl16 C.irm, C.sn.yr, nI_add]
      refine ⟨fun z => ?_, fun z => ?_⟩
      · have z' := (nI_leI (b := 999) (by omega) (by omega)).mp z
        rw [if_neg (by omega)] at h
        exact s_yearsC hK ht e m2 m 0 S s H nx (by omega) (by omega) fg.rf C P h
      · have z' : ¬ s_yr s + m ≤ 999 := fun y => z ((nI_leI (b := 999) (by omega) (by omega)).mpr y)
        rw [if_pos (by omega)] at h
        exact no 4 (by omega) h
    · rw [if_pos q] at h
      try simp only [Option.some.injEq, exists_eq_left', fi32, i10, i00, false_implies, true_implies, not_false_eq_true, not_true_eq_false, true_and, and_true, nI_1, lz0, lz1, ix0, ix11, ix2]
      exact no 1 (by omega) h
  · rw [if_pos e] at h
    try simp only [Option.some.injEq, exists_eq_left', fi32, i10, i00, false_implies, true_implies, not_false_eq_true, not_true_eq_false, true_and, and_true, nI_1, lz0, lz1, ix0, ix11, ix2]
    exact no 0 (by omega) h
end YR
section RYR
variable {l : Launch} {G : mj_G} {L : Nat} {R : rm} {s : sc} {S : mj_S} {H : hy} {I : imt} {tk : sc → Nat → Nat}
theorem D106_DRA {S S' : mj_S} (f : fr D106 S S') : fr DRA S S' := f.wid (fun a j h => by
  unfold DRA DR at h
  unfold D106 DRb
  rw [← Bool.not_eq_true] at h ⊢
  simp only [Bool.or_eq_true, Bool.and_eq_true, Nat.beq_eq, Nat.ble_eq] at h ⊢
  omega)
/-- the past behind a lived year -/
theorem rhs_year {S' : mj_S} {s' : sc} {v : Nat → Int32} (hR : r_wf R) (P : RHS S R s H I) (hh : ∀ i, i < H.1 → s_yr (H.2.1 i) ≤ s_yr s) (f : fr D106 S S') (N : LGr (m_gi S' 106) R s' (lgs H.2.2.1 (s_yr s + 1) v)) : RHS S' R s' (hyear s v H) I := by
  refine ⟨⟨⟨(f.i _ _ rfl).trans P.1.1.1, P.1.1.2⟩, fun i hi => ?_⟩, N, (f.i _ _ rfl).trans P.2.2.1, fun z => (P.2.2.2 z).cong hR (fun j _ => f.i _ _ rfl)⟩
  have h1 := hh i hi
  exact ((P.1.2 i hi).cong hR (fun j _ => f.i _ _ rfl)).lg (fun y w hy _ => if_neg (by omega))
theorem s_yearR {Q : mj_S → Prop} (C : RI L S R s) (P : RHS S R s H I) (hh : ∀ i, i < H.1 → s_yr (H.2.1 i) ≤ s_yr s) (hK : RK l G L S R tk) (ht : t_ok R tk) (hy : s_yr s < 999) (hpos : 0 < r_n R) (h : ∀ S', fr D106 S S' → RI L S' R (wrn R s (lt0 R tk s)) → RHS S' R (wrn R s (lt0 R tk s)) (hyear s (ly R tk s) H) I → Q S') : M_X11_passYear l G 89 S Q :=
  s_passYear C hK ht hy hpos P.2.1 (fun S' f D N => h S' f D (rhs_year C.rw P hh f N))
theorem hpush_le {H : hy} (hw : HW R s H) : ∀ i, i < (hpush s H).1 → s_yr ((hpush s H).2.1 i) ≤ s_yr s := by
  intro i hi
  have hi' : i < min 40 (H.1 + 1) := hi
  cases i with
  | zero => exact Nat.le_refl _
  | succ i => exact (hw.dist i (by omega)).1
theorem s_yearsR {m : Nat} {Q : mj_S → Int32 → Prop} (hK : RK l G L S R tk) (ht : t_ok R tk) (hpos : 0 < r_n R) (hm : m ≤ 60) : ∀ (k i : Nat) (T : mj_S) (s1 : sc) (H1 : hy), i + k = m → s_yr s1 + k ≤ 999 → HW R s1 H1 → fg DRA S T → RI L T R s1 → RHS T R s1 H1 I → (∀ S', fg DRA S S' → RI L S' R (yit R tk k s1 H1).1 → RHS S' R (yit R tk k s1 H1).1 (yit R tk k s1 H1).2 I → Q S' (nI (s_yr (yit R tk k s1 H1).1))) → V_X11_years_49 l G 89 (nI m) (nI i) T Q
  | 0, i, T, s1, H1, hi, hy, hw, f, C, P, h => by
    refine b_X11_years_49 C.sh.k89 ⟨fun _ => ⟨106, C.sh.p89_28, by rw [C.sh.l106]; exact vp_nI (p := 17) (by omega) (by omega), ?_⟩, fun z => absurd (nI_le (by omega) (by omega)) z⟩
    rw [show (17 : Int32).toNatClampNeg = 17 by decide, C.rs.yr]; exact h T f C P
  | k + 1, i, T, s1, H1, hi, hy, hw, f, C, P, h => by
    refine b_X11_years_49 C.sh.k89 ⟨fun z => absurd z (nI_ge (by omega) (by omega)), fun _ => s_keep' C P (fun S2 f2 E P2 => ?_)⟩
    have g2 := f.tr (D112_DRA f2).fg
    refine s_yearR E P2 (hpush_le hw) (hK.mono (fg_lawr g2)) ht (by omega) hpos (fun S3 f3 F P3 v ev => ?_)
    rw [ev, nI_1]
    exact s_yearsR hK ht hpos hm k (i + 1) S3 _ _ (by omega) (by show s_yr s1 + 1 + k ≤ 999; omega) (hw.year C.sw rfl (by omega)) (g2.tr (D106_DRA f3).fg) F P3 h
def RQy (L : Nat) (S : mj_S) (R : rm) (s : sc) (H : hy) (I : imt) (tk : sc → Nat → Nat) (Q : mj_S → Int32 → Prop) : Nat ⊕ Nat → Prop
  | .inl j => ∀ S', fr DRQ S S' → (∀ i, m_gi S' 107 i = if i = j then m_gi S 107 i + 1 else m_gi S 107 i) → Q S' (-1)
  | .inr m => ∀ S', fg DRA S S' → RI L S' R (yit R tk m s H).1 → RHS S' R (yit R tk m s H).1 (yit R tk m s H).2 I → Q S' (nI (s_yr (yit R tk m s H).1))
theorem s_areYears {x1 : Int32} {Q : mj_S → Int32 → Prop} (C : RI L S R s) (hy : s_yr s ≤ 999) (h1 : ∀ m, 1 ≤ m → m ≤ 60 → x1 = nI m → s_yr s + m ≤ 999 → Q S 1) (h0 : (x1 < 1 ∨ 60 < x1) ∨ (∃ m, 1 ≤ m ∧ m ≤ 60 ∧ x1 = nI m ∧ 999 < s_yr s + m) → Q S 0) : M_X11_areYears l G 89 x1 S Q := by
  refine e_X11_areYears (b_X11_areYears_0 C.sh.k89 (s_rin (fun q1 q2 => ?_) (fun q => ?_)))
  · obtain ⟨m, m1, m2, em⟩ := y60 q1 q2
    refine ⟨fun z => absurd z (by decide), fun _ => ⟨106, C.sh.p89_28, by rw [C.sh.l106]; exact vp_nI (p := 17) (by omega) (by omega), ?_⟩⟩
    rw [show (17 : Int32).toNatClampNeg = 17 by decide, C.rs.yr, em, nI_add]
    refine ⟨fun z => ?_, fun z => ?_⟩
    · exact h0 (Or.inr ⟨m, m1, m2, em, (nI_ltI (a := 999) (by omega) (by omega)).mp z⟩)
    · exact h1 m m1 m2 em (by
        rcases Nat.lt_or_ge 999 (s_yr s + m) with y | y
        · exact absurd ((nI_ltI (a := 999) (by omega) (by omega)).mpr y) z
        · exact y)
  · try simp only [Option.some.injEq, exists_eq_left', fi32, i10, i00, false_implies, true_implies, not_false_eq_true, not_true_eq_false, true_and, and_true, nI_1, lz0, lz1, ix0, ix11, ix2]
    exact h0 (Or.inl q)
theorem d_years {x1 : Int32} {Q : mj_S → Int32 → Prop} (C : RI L S R s) (P : RHS S R s H I) (hw : HW R s H) (hK : RK l G L S R tk) (ht : t_ok R tk) (h : RQy L S R s H I tk Q (P_years R s x1)) : M_X11_years l G 89 x1 S Q := by
  have hn := C.rw.n
  have hy := hw.1.2.1
  have no : ∀ j, j < 5 → RQy L S R s H I tk Q (.inl j) → V_X11_years_39 l G 89 x1 89 (nI j) S Q := by
    intro j hj hq
    refine b_X11_years_39 C.sh.k89 C.sh.k89 (s_refused C.sh hj (fun S' e => ⟨fun z => absurd z (by decide), fun _ => hq S' (by rw [e]; exact fr.si rfl) (fun i => ?_)⟩))
    rw [e, m_gi_si]
    by_cases z : i = j
    · rw [if_pos ⟨rfl, z⟩, if_pos z, z]
    · rw [if_neg (fun y => z y.2), if_neg z]
  unfold P_years at h
  refine e_X11_years (b_X11_years_0 C.sh.k89 ?_)
  try simp only [Option.some.injEq, exists_eq_left', fi32, i10, i00, false_implies, true_implies, not_false_eq_true, not_true_eq_false, true_and, and_true, nI_1, lz0, lz1, ix0, ix11, ix2, C.sh.p89_22, C.sh.p89_23, C.sh.p89_24, C.sh.p89_28, C.sh.p89_32, C.sh.p89_33, C.sh.l103, C.sh.l104, C.sh.l105, C.sh.l106, C.sh.l108, C.sh.l109, C.rr.n, C.rr.nc, C.rr.np, C.rr.w, C.rr.h, C.rr.li, C.rr.mo, C.rs.bk, C.rs.yr, ix4, ix6, nI_e0 (show r_n R < 2 ^ 31 by omega)]
  refine ⟨fun e => ?_, fun e => by rw [if_pos e] at h; exact no 0 (by omega) h⟩
  rw [if_neg e] at h
  refine s_rin (fun q1 q2 => ?_) (fun q => ?_)
  · obtain ⟨m, m1, m2, em⟩ := y60 q1 q2
    rw [if_neg (fun z => by rcases z with z | z; exact q1 z; exact q2 z), em, nI_clamp (by omega)] at h
    try simp only [Option.some.injEq, exists_eq_left', fi32, i10, i00, false_implies, true_implies, not_false_eq_true, not_true_eq_false, true_and, and_true, nI_1, lz0, lz1, ix0, ix11, ix2]
    refine s_areYears C hy (fun m' a1 a2 a3 a4 => ?_) (fun z => ?_)
    · have : m' = m := (nI_eq (by omega) (by omega)).mp (a3.symm.trans em)
      rw [this] at a4
      rw [if_neg (by omega)] at h
      try simp only [Option.some.injEq, exists_eq_left', fi32, i10, i00, false_implies, true_implies, not_false_eq_true, not_true_eq_false, true_and, and_true, nI_1, lz0, lz1, ix0, ix11, ix2]
      rw [em]
      exact b_X11_years_39 C.sh.k89 C.sh.k89 (s_notRefused C.sh ⟨fun _ => s_yearsR hK ht (by omega) m2 m 0 S s H (by omega) (by omega) hw fg.rf C P h, fun z => absurd rfl z⟩)
    · have : 999 < s_yr s + m := by
        rcases z with z | ⟨m', a1, a2, a3, a4⟩
        · rcases z with z | z
          · exact absurd z q1
          · exact absurd z q2
        · have : m' = m := (nI_eq (by omega) (by omega)).mp (a3.symm.trans em)
          rw [this] at a4; exact a4
      rw [if_pos this] at h
      try simp only [Option.some.injEq, exists_eq_left', fi32, i10, i00, false_implies, true_implies, not_false_eq_true, not_true_eq_false, true_and, and_true, nI_1, lz0, lz1, ix0, ix11, ix2]
      exact no 4 (by omega) h
  · rw [if_pos q] at h
    try simp only [Option.some.injEq, exists_eq_left', fi32, i10, i00, false_implies, true_implies, not_false_eq_true, not_true_eq_false, true_and, and_true, nI_1, lz0, lz1, ix0, ix11, ix2]
    exact no 1 (by omega) h
end RYR
