/-! what was: the reference -/
def LGr (get : Nat → Int32) (R : rm) (s : sc) (lg : Nat → Nat → Int32) : Prop := ((∀ c, c < r_nc R → get c = nI (s_cl s c)) ∧ get 10 = s_bk s ∧ (∀ p, p < r_np R → get (11 + p) = nI (s_pl s p)) ∧ get 17 = nI (s_yr s)) ∧ get 18 = nI (min (s_yr s) 60) ∧ ∀ j w, j < min (s_yr s) 60 → w < 3 → get (19 + 3 * j + w) = lg (s_yr s - min (s_yr s) 60 + 1 + j) w
theorem LGr.cong {g g' : Nat → Int32} {R : rm} {s : sc} {lg : Nat → Nat → Int32} (hR : r_wf R) (h : LGr g R s lg) (e : ∀ j, j < 199 → g' j = g j) : LGr g' R s lg := by
  have nc := hR.nc
  have np := hR.np
  exact ⟨⟨fun c hc => (e c (by omega)).trans (h.1.1 c hc), (e _ (by omega)).trans h.1.2.1, fun p hp => (e _ (by omega)).trans (h.1.2.2.1 p hp), (e _ (by omega)).trans h.1.2.2.2⟩, (e _ (by omega)).trans h.2.1, fun j w hj hw => (e _ (by omega)).trans (h.2.2 j w hj hw)⟩
theorem LGr.lg {g : Nat → Int32} {R : rm} {s : sc} {lg lg' : Nat → Nat → Int32} (h : LGr g R s lg) (e : ∀ y w, y ≤ s_yr s → w < 3 → lg' y w = lg y w) : LGr g R s lg' := ⟨h.1, h.2.1, fun j w hj hw => (h.2.2 j w hj hw).trans (e _ w (by omega) hw).symm⟩
def RHk (S : mj_S) (R : rm) (k : Nat) (hs : Nat → sc) (lg : Nat → Nat → Int32) : Prop := (m_gi S 89 37 = nI k ∧ k ≤ 40) ∧ ∀ i, i < k → LGr (fun j => m_gi S 112 (199 * (k - 1 - i) + j)) R (hs i) lg
def D112 (a j : Nat) : Bool := Nat.beq a 112 || (Nat.beq a 89 && Nat.beq j 37)
theorem ix199 (a b : Nat) : (199 : Int32) * nI a + nI b = nI (199 * a + b) := by rw [show (199 : Int32) = nI 199 from rfl, nI_mul, nI_add]
section RH
variable {l : Launch} {G : mj_G} {L : Nat} {R : rm} {s : sc} {S : mj_S}
theorem s_keep {k : Nat} {hs : Nat → sc} {lg : Nat → Nat → Int32} {Q : mj_S → Prop} (hsh : Sh L S) (hR : r_wf R) (H : RHk S R k hs lg) (N : LGr (m_gi S 106) R s lg) (h : ∀ S', fr D112 S S' → RHk S' R (min 40 (k + 1)) (psh s hs) lg → Q S') : M_X11_keep l G 89 S Q := by
  have hk := H.1.2
  -- the copying, with q kept
  have copy : ∀ (q : Nat) (S1 : mj_S), q < 40 → fr D112 S S1 → m_gi S1 89 37 = nI q → (∀ S', fr D112 S S' → m_gi S' 89 37 = nI (q + 1) → (∀ j, m_gi S' 112 j = if 199 * q ≤ j ∧ j < 199 * q + 199 then m_gi S 106 (j - 199 * q) else m_gi S1 112 j) → Q S') → V_X11_keep_54 l G 89 0 S1 Q := by
    intro q S1 hq f1 e37 hQ
    refine dn (P := fun i => ∀ T, fr D112 S T → m_gi T 89 37 = nI q → (∀ j, m_gi T 112 j = if 199 * q ≤ j ∧ j < 199 * q + i then m_gi S 106 (j - 199 * q) else m_gi S1 112 j) → V_X11_keep_54 l G 89 (nI i) T Q) 199 ?_ ?_ S1 f1 e37 (fun j => by rw [if_neg (by omega)])
    · intro T f e g
      refine b_X11_keep_54 (hsh.fr f).k89 ⟨fun _ S2 e2 => ?_, fun z => absurd (by decide) z⟩
      rw [e, nI_1] at e2
      exact hQ S2 (f.tr (by rw [e2]; exact fr.si rfl)) (by rw [e2, m_gi_si, if_pos ⟨rfl, rfl⟩]) (fun j => by rw [e2, m_gi_si, if_neg (by omega)]; exact g j)
    · intro i hi ih T f e g
      have hs' := hsh.fr f
      have hin : vp_in (nI i) 199 := vp_nI (by omega) (by omega)
      refine b_X11_keep_54 hs'.k89 ⟨fun z => absurd z (nI_ge hi (by decide)), fun _ => ⟨112, hs'.p89_36, 106, hs'.p89_28, by rw [hs'.l106]; exact hin, by rw [e, ix199, hs'.l112]; exact vp_nI (by omega) (by omega), fun S4 e4 v ev => ?_⟩⟩
      rw [ev, nI_1]
      rw [e, ix199, nI_clamp (by omega), nI_clamp (by omega), f.i 106 i rfl] at e4
      refine ih S4 (f.tr (by rw [e4]; exact fr.si rfl)) (by rw [e4, m_gi_si, if_neg (by omega)]; exact e) (fun j => ?_)
      rw [e4, m_gi_si]
      by_cases z : j = 199 * q + i
      · rw [if_pos ⟨rfl, z⟩, if_pos (by omega), z]
        congr 1; omega
      · rw [if_neg (fun y => z y.2), g j]
        by_cases z2 : 199 * q ≤ j ∧ j < 199 * q + i
        · rw [if_pos z2, if_pos (by omega)]
        · rw [if_neg z2, if_neg (by omega)]
  refine e_X11_keep (b_X11_keep_0 hsh.k89 ?_)
  rw [H.1.1]
  refine ⟨fun z => ?_, fun z => ?_⟩
  · have hk40 : k < 40 := by
      rcases Nat.lt_or_ge k 40 with y | y
      · exact y
      · exact absurd (by rw [show k = 40 by omega]; rfl) z
    refine copy k S hk40 fr.rf H.1.1 (fun S' f' e37 g => h S' f' ?_)
    rw [show min 40 (k + 1) = k + 1 by omega]
    refine ⟨⟨e37, by omega⟩, fun i hi => ?_⟩
    cases i with
    | zero =>
      refine N.cong hR (fun j hj => ?_)
      show m_gi S' 112 (199 * (k + 1 - 1 - 0) + j) = _
      rw [g, if_pos (by omega)]
      congr 1; omega
    | succ i =>
      refine (H.2 i (by omega)).cong hR (fun j hj => ?_)
      show m_gi S' 112 (199 * (k + 1 - 1 - (i + 1)) + j) = _
      rw [g, if_neg (by omega)]
      congr 2; omega
  · have hk40 : k = 40 := (nI_eq (b := 40) (by omega) (by omega)).mp z
    have := dnA (P := fun m => ∀ T, fr D112 S T → m_gi T 89 37 = nI k → (∀ j, m_gi T 112 j = if j + 199 < m then m_gi S 112 (j + 199) else m_gi S 112 j) → V_X11_keep_13 l G 89 (nI m) T Q) 199 7960 (by omega) ?_ ?_ S fr.rf H.1.1 (fun j => by rw [if_neg (by omega)])
    · exact this
    · intro T f e g
      refine b_X11_keep_13 (hsh.fr f).k89 ⟨fun _ S1 e1 => ?_, fun z => absurd (by decide) z⟩
      obtain ⟨q, hq⟩ : ∃ q, k = q + 1 := ⟨39, hk40⟩
      rw [e, hq, nI_pred] at e1
      refine copy q S1 (by omega) (f.tr (by rw [e1]; exact fr.si rfl)) (by rw [e1, m_gi_si, if_pos ⟨rfl, rfl⟩]) (fun S' f' e37 g' => h S' f' ?_)
      rw [show min 40 (k + 1) = q + 1 by omega]
      have g1 : ∀ j, m_gi S1 112 j = m_gi T 112 j := fun j => by rw [e1, m_gi_si, if_neg (by omega)]
      refine ⟨⟨e37, by omega⟩, fun i hi => ?_⟩
      cases i with
      | zero =>
        refine N.cong hR (fun j hj => ?_)
        show m_gi S' 112 (199 * (q + 1 - 1 - 0) + j) = _
        rw [g', if_pos (by omega)]
        congr 1; omega
      | succ i =>
        refine (H.2 i (by omega)).cong hR (fun j hj => ?_)
        show m_gi S' 112 (199 * (q + 1 - 1 - (i + 1)) + j) = m_gi S 112 (199 * (k - 1 - i) + j)
        rw [g', if_neg (by omega), g1, g, if_pos (by omega)]
        congr 1; omega
    · intro m hm1 hm2 ih T f e g
      have hs' := hsh.fr f
      have e199 : nI m - (199 : Int32) = nI (m - 199) := sub_v (w := 199) (by omega)
      refine b_X11_keep_13 hs'.k89 ⟨fun z => absurd z (nI_ge hm2 (by decide)), fun _ => ⟨112, hs'.p89_36, 112, hs'.p89_36, by rw [hs'.l112]; exact vp_nI (by omega) (by omega), by rw [e199, hs'.l112]; exact vp_nI (by omega) (by omega), fun S4 e4 v ev => ?_⟩⟩
      rw [ev, nI_1]
      rw [e199, nI_clamp (by omega), nI_clamp (by omega), g m, if_neg (by omega)] at e4
      refine ih S4 (f.tr (by rw [e4]; exact fr.si rfl)) (by rw [e4, m_gi_si, if_neg (by omega)]; exact e) (fun j => ?_)
      rw [e4, m_gi_si]
      by_cases z : j = m - 199
      · rw [if_pos ⟨rfl, z⟩, if_pos (by omega), z]
        congr 1; omega
      · rw [if_neg (fun y => z y.2), g j]
        by_cases z2 : j + 199 < m
        · rw [if_pos z2, if_pos (by omega)]
        · rw [if_neg z2, if_neg (by omega)]
def D106 (a j : Nat) : Bool := DRb a j || Nat.beq a 106
theorem D17_D106 {S S' : mj_S} (f : fr D17 S S') : fr D106 S S' := f.wid (fun a j h => by
  unfold D106 at h
  rw [Bool.or_eq_false_iff] at h
  unfold D17
  rw [h.1, h.2]; rfl)
theorem DRb_D106 {S S' : mj_S} (f : fr DRb S S') : fr D106 S S' := f.wid (fun a j h => by
  unfold D106 at h
  rw [Bool.or_eq_false_iff] at h; exact h.1)
theorem DRb_17 {S S' : mj_S} (f : fr DRb S S') : fr D17 S S' := DR_D17 f
theorem s_litOfAllb {t : Nat → Nat} {Q : mj_S → Int32 → Prop} (C : RI L S R s) (T : TKr l G S (r_nc R) t) (ht : ∀ c, c < r_nc R → t c ≤ 99) (hpos : 0 < r_n R) (h : ∀ S', fr DRb S S' → Q S' (nI (lsum (lit R (hg R s) t 0 (r_li R)) (r_n R)))) : M_X11_litOfAll l G 89 S Q := by
  have hn := C.rw.n
  refine e_X11_litOfAll (b_X11_litOfAll_0 C.sh.k89 (s_layLit C T ht hpos (fun S' f hM => ?_)))
  have D := C.fr (DRb_DR f)
  refine dn (P := fun q => V_X11_litOfAll_8 l G 89 (nI (lsum (lit R (hg R s) t 0 (r_li R)) q)) (nI q) S' Q) (r_n R) ?_ ?_
  · refine b_X11_litOfAll_8 D.sh.k89 ?_
    try simp only [Option.some.injEq, exists_eq_left', fi32, i10, i00, false_implies, true_implies, not_false_eq_true, not_true_eq_false, true_and, and_true, nI_1, lz0, lz1, ix0, ix11, ix2, D.sh.p89_22, D.sh.p89_23, D.sh.p89_24, D.sh.p89_28, D.sh.p89_32, D.sh.p89_33, D.sh.l103, D.sh.l104, D.sh.l105, D.sh.l106, D.sh.l108, D.sh.l109, D.rr.n, D.rr.nc, D.rr.np, D.rr.w, D.rr.h, D.rr.li, D.rr.mo, D.rs.bk, D.rs.yr, ix4, ix6, geT (show r_n R < 2 ^ 31 by omega)]
    exact h S' f
  · intro q hq ih
    refine b_X11_litOfAll_8 D.sh.k89 ?_
    try simp only [Option.some.injEq, exists_eq_left', fi32, i10, i00, false_implies, true_implies, not_false_eq_true, not_true_eq_false, true_and, and_true, nI_1, lz0, lz1, ix0, ix11, ix2, D.sh.p89_22, D.sh.p89_23, D.sh.p89_24, D.sh.p89_28, D.sh.p89_32, D.sh.p89_33, D.sh.l103, D.sh.l104, D.sh.l105, D.sh.l106, D.sh.l108, D.sh.l109, D.rr.n, D.rr.nc, D.rr.np, D.rr.w, D.rr.h, D.rr.li, D.rr.mo, D.rs.bk, D.rs.yr, ix4, ix6, gtF hq (show r_n R < 2 ^ 31 by omega), D.sh.p89_34, D.sh.l110, vp_nI (show q < 20 by omega) (show 20 < 2 ^ 31 by omega), nI_clamp (show q < 2 ^ 31 by omega), hM q (by omega), nI_add]
    exact ih
theorem RI.log {S' : mj_S} {j : Nat} {v : Int32} (C : RI L S R s) (e : S' = m_si S 106 j v) (hj : 18 ≤ j) : RI L S' R s := by
  have nc := C.rw.nc
  have np := C.rw.np
  refine C.set106 e C.sw ⟨fun c hc => ?_, ?_, fun p hp => ?_, ?_⟩
  · rw [e, m_gi_si, if_neg (by omega)]; exact C.rs.cl hc
  · rw [e, m_gi_si, if_neg (by omega)]; exact C.rs.bk
  · rw [e, m_gi_si, if_neg (by omega)]; exact C.rs.pl hp
  · rw [e, m_gi_si, if_neg (by omega)]; exact C.rs.yr
theorem lawr106 {S S' : mj_S} (f : fr D106 S S') : lawr S S' := by
  have k : ∀ a j, 89 ≤ a → a ≤ 97 → D106 a j = false := fun a j h1 h2 => by
    unfold D106 DRb
    rw [← Bool.not_eq_true, Bool.or_eq_true, Bool.or_eq_true, Bool.and_eq_true, Bool.and_eq_true, Nat.beq_eq, Nat.ble_eq, Nat.ble_eq, Nat.ble_eq, Nat.ble_eq]; omega
  exact ⟨f.1, fun a j h1 h2 => f.i a j (k a j (by omega) h2), f.i _ _ (k _ _ (by omega) (by omega))⟩
theorem s_passYear {tk : sc → Nat → Nat} {lg : Nat → Nat → Int32} {Q : mj_S → Prop} (C : RI L S R s) (hK : RK l G L S R tk) (ht : t_ok R tk) (hy : s_yr s < 999) (hpos : 0 < r_n R) (N : LGr (m_gi S 106) R s lg) (h : ∀ S', fr D106 S S' → RI L S' R (wrn R s (lt0 R tk s)) → LGr (m_gi S' 106) R (wrn R s (lt0 R tk s)) (lgs lg (s_yr s + 1) (ly R tk s)) → Q S') : M_X11_passYear l G 89 S Q := by
  have l18 : (18 : Int32).toNatClampNeg = 18 := by decide
  have v18 : ∀ {U : mj_S}, Sh L U → vp_in (18 : Int32) (m_ln U 106) := fun hU => by rw [hU.l106]; exact vp_nI (p := 18) (by omega) (by omega)
  have lr0 : lawr S S := ⟨rfl, fun _ _ _ _ => rfl, rfl⟩
  refine e_X11_passYear (b_X11_passYear_0 C.sh.k89 (s_live C (hK S s lr0 C (by omega)) (ht s) hpos (fun S1 f1 D => ?_)))
  have k18 : ∀ j, 18 ≤ j → m_gi S1 106 j = m_gi S 106 j := fun j hj => f1.i _ _ (D17_no (by omega) (by omega) (by omega))
  have e18 : m_gi S1 106 18 = nI (min (s_yr s) 60) := (k18 18 (by omega)).trans N.2.1
  have hyr' : s_yr (wrn R s (lt0 R tk s)) = s_yr s + 1 := rfl
  -- the last part, from a log of q rows that are those of the years up to s_yr s
  have fin : ∀ (q : Nat) (U : mj_S), q + 1 = min (s_yr s + 1) 60 → fr D106 S U → RI L U R (wrn R s (lt0 R tk s)) → m_gi U 106 18 = nI q → (∀ j w, j < q → w < 3 → m_gi U 106 (19 + 3 * j + w) = lg (s_yr s + 1 - (q + 1) + 1 + j) w) → V_X11_passYear_63 l G 89 (bs (r_nc R) (fel R s (lt0 R tk s))) U Q := by
    intro q U hq fU E eU gU
    have i0 : (19 : Int32) + (3 : Int32) * nI q = nI (19 + 3 * q) := by rw [show (19 : Int32) = nI 19 from rfl, show (3 : Int32) = nI 3 from rfl, nI_mul, nI_add]
    refine b_X11_passYear_63 E.sh.k89 ⟨106, E.sh.p89_28, v18 E.sh, fun v2 e2 => ⟨106, E.sh.p89_28, s_states E ⟨?_, fun S6 e6 => ?_⟩⟩⟩
    · rw [e2, l18, eU, i0, E.sh.l106]; exact vp_nI (by omega) (by omega)
    · rw [l18, eU, i0] at e2
      rw [e2, nI_clamp (by omega)] at e6
      have E6 := E.log e6 (by omega)
      have f6 : fr D106 S S6 := fU.tr (by rw [e6]; exact fr.si rfl)
      refine ⟨106, E6.sh.p89_28, s_litOfAllb E6 (hK S6 _ (lawr106 f6) E6 (by rw [hyr']; omega)) (ht _) hpos (fun S8 f8 => ?_)⟩
      have E8 := E6.fr (DRb_DR f8)
      rw [e2, nI_1, show nI (19 + 3 * q) + (2 : Int32) = nI (19 + 3 * q + 2) by rw [show (2 : Int32) = nI 2 from rfl, nI_add]]
      refine ⟨by rw [E8.sh.l106]; exact vp_nI (by omega) (by omega), fun S10 e10 => ?_⟩
      rw [nI_clamp (by omega)] at e10
      have E10 := E8.log e10 (by omega)
      refine ⟨106, E10.sh.p89_28, by rw [E10.sh.l106]; exact vp_nI (by omega) (by omega), fun S12 e12 => ?_⟩
      rw [nI_clamp (by omega)] at e12
      have E12 := E10.log e12 (by omega)
      refine ⟨106, E12.sh.p89_28, v18 E12.sh, v18 E12.sh, fun S14 e14 => ?_⟩
      have e18' : m_gi S12 106 18 = nI q := by rw [e12, m_gi_si, if_neg (by omega), e10, m_gi_si, if_neg (by omega), f8.i _ _ rfl, e6, m_gi_si, if_neg (by omega)]; exact eU
      rw [l18, e18', nI_1] at e14
      have E14 := E12.log e14 (by omega)
      refine h S14 (((f6.tr (DRb_D106 f8)).tr (show fr D106 S8 S10 by rw [e10]; exact fr.si rfl)).tr (show fr D106 S10 S14 by rw [e14, e12]; exact (fr.si rfl).tr (fr.si rfl))) E14 ⟨E14.rs, ?_, fun j w hj hw => ?_⟩
      · rw [e14, m_gi_si, if_pos ⟨rfl, rfl⟩, hyr', hq]
      · rw [hyr'] at hj ⊢
        have er : lgs lg (s_yr s + 1) (ly R tk s) (s_yr s + 1 - min (s_yr s + 1) 60 + 1 + j) w = if j = q then ly R tk s w else lg (s_yr s + 1 - (q + 1) + 1 + j) w := by
          unfold lgs
          by_cases z : j = q
          · rw [if_pos z, if_pos (by omega)]
          · rw [if_neg z, if_neg (by omega), hq]
        rw [er, e14, m_gi_si, if_neg (show ¬ (106 = 106 ∧ 19 + 3 * j + w = 18) by omega), e12, m_gi_si, e10, m_gi_si]
        by_cases z : j = q
        · rw [if_pos z, z]
          rcases Nat.lt_or_ge w 1 with y | y
          · rw [show w = 0 by omega, if_neg (show ¬ (106 = 106 ∧ 19 + 3 * q + 0 = 19 + 3 * q + 2) by omega), if_neg (show ¬ (106 = 106 ∧ 19 + 3 * q + 0 = 19 + 3 * q + 1) by omega), f8.i _ _ rfl, e6, m_gi_si, if_pos ⟨rfl, rfl⟩]; rfl
          · rcases Nat.lt_or_ge w 2 with y2 | y2
            · rw [show w = 1 by omega, if_neg (show ¬ (106 = 106 ∧ 19 + 3 * q + 1 = 19 + 3 * q + 2) by omega), if_pos ⟨rfl, rfl⟩]; rfl
            · rw [show w = 2 by omega, if_pos ⟨rfl, rfl⟩]; rfl
        · rw [if_neg z, if_neg (show ¬ (106 = 106 ∧ 19 + 3 * j + w = 19 + 3 * q + 2) by omega), if_neg (show ¬ (106 = 106 ∧ 19 + 3 * j + w = 19 + 3 * q + 1) by omega), f8.i _ _ rfl, e6, m_gi_si, if_neg (show ¬ (106 = 106 ∧ 19 + 3 * j + w = 19 + 3 * q) by omega), gU j w (by omega) hw]
  refine ⟨106, D.sh.p89_28, v18 D.sh, ?_⟩
  rw [l18, e18]
  refine ⟨fun z => ?_, fun z => ?_⟩
  · have hlt : s_yr s < 60 := by
      rcases Nat.lt_or_ge (s_yr s) 60 with y | y
      · exact y
      · exact absurd (by rw [show min (s_yr s) 60 = 60 by omega]; rfl) z
    refine fin (s_yr s) S1 (by omega) (D17_D106 f1) D (by rw [e18]; congr 1; omega) (fun j w hj hw => ?_)
    rw [k18 _ (by omega), N.2.2 j w (by omega) hw]
    congr 1; omega
  · have hge : 60 ≤ s_yr s := by
      rcases Nat.lt_or_ge (s_yr s) 60 with y | y
      · rw [show min (s_yr s) 60 = s_yr s by omega] at z
        have := (nI_eq (b := 60) (by omega) (by omega)).mp z
        omega
      · exact y
    have sh := dnA (P := fun m => ∀ T, fr D106 S T → RI L T R (wrn R s (lt0 R tk s)) → m_gi T 106 18 = nI 60 → (∀ k, k < 180 → m_gi T 106 (19 + k) = if k + 3 < m then m_gi S 106 (19 + k + 3) else m_gi S 106 (19 + k)) → V_X11_passYear_19 l G 89 (bs (r_nc R) (fel R s (lt0 R tk s))) (nI m) T Q) 3 180 (by omega) ?_ ?_ S1 (D17_D106 f1) D (by rw [e18]; congr 1; omega) (fun k hk => by rw [if_neg (by omega)]; exact k18 _ (by omega))
    · exact sh
    · intro T f E e g
      refine b_X11_passYear_19 E.sh.k89 ⟨fun _ => ⟨106, E.sh.p89_28, v18 E.sh, v18 E.sh, fun S2 e2 => ?_⟩, fun z => absurd (by decide) z⟩
      rw [l18, e, show nI 60 - 1 = nI 59 from sub_v (w := 1) (by omega)] at e2
      refine fin 59 S2 (by omega) (f.tr (by rw [e2]; exact fr.si rfl)) (E.log e2 (by omega)) (by rw [e2, m_gi_si, if_pos ⟨rfl, rfl⟩]) (fun j w hj hw => ?_)
      rw [e2, m_gi_si, if_neg (by omega), show 19 + 3 * j + w = 19 + (3 * j + w) by omega, g (3 * j + w) (by omega), if_pos (by omega), show 19 + (3 * j + w) + 3 = 19 + 3 * (j + 1) + w by omega, N.2.2 (j + 1) w (by omega) hw]
      congr 1; omega
    · intro m hm1 hm2 ih T f E e g
      have i0 : (19 : Int32) + nI m = nI (19 + m) := by rw [show (19 : Int32) = nI 19 from rfl, nI_add]
      have i3 : nI (19 + m) - (3 : Int32) = nI (19 + m - 3) := sub_v (w := 3) (by omega)
      refine b_X11_passYear_19 E.sh.k89 ⟨fun z => absurd z (nI_ge hm2 (by decide)), fun _ => ⟨106, E.sh.p89_28, 106, E.sh.p89_28, by rw [i0, E.sh.l106]; exact vp_nI (by omega) (by omega), by rw [i0, i3, E.sh.l106]; exact vp_nI (by omega) (by omega), fun S5 e5 v ev => ?_⟩⟩
      rw [ev, nI_1]
      rw [i0, i3, nI_clamp (by omega), nI_clamp (by omega), g m (by omega), if_neg (by omega)] at e5
      refine ih S5 (f.tr (by rw [e5]; exact fr.si rfl)) (E.log e5 (by omega)) (by rw [e5, m_gi_si, if_neg (by omega)]; exact e) (fun k hk => ?_)
      rw [e5, m_gi_si]
      by_cases z2 : 19 + k = 19 + m - 3
      · rw [if_pos ⟨rfl, z2⟩, if_pos (by omega)]
        congr 1; omega
      · rw [if_neg (fun y => z2 y.2), g k hk]
        by_cases z3 : k + 3 < m
        · rw [if_pos z3, if_pos (by omega)]
        · rw [if_neg z3, if_neg (by omega)]
/-- a copy of all 199 -/
theorem RI.of106 {S' : mj_S} {s' : sc} {lg : Nat → Nat → Int32} (C : RI L S R s) (h1 : S'.1 = S.1) (hp : ∀ a j, m_gp S' a j = m_gp S a j) (k0 : ∀ j, 25 ≤ j → j ≤ 27 → m_gi S' 89 j = m_gi S 89 j) (hk : ∀ a j, 103 ≤ a → a ≤ 109 → a ≠ 106 → m_gi S' a j = m_gi S a j) (hw : s_wf R s') (N : LGr (m_gi S' 106) R s' lg) : RI L S' R s' := C.upd h1 hp k0 hk hw N.1
def DU (a j : Nat) : Bool := Nat.beq a 106 || (Nat.beq a 89 && Nat.beq j 37)
theorem d_undo0 {k : Nat} {hs : Nat → sc} {lg : Nat → Nat → Int32} {Q : mj_S → Int32 → Prop} (C : RI L S R s) (H : RHk S R (k + 1) hs lg) (hw : s_wf R (hs 0)) (h : ∀ S', fr DU S S' → RI L S' R (hs 0) → LGr (m_gi S' 106) R (hs 0) lg → RHk S' R k (fun i => hs (i + 1)) lg → Q S' (nI k)) : M_X11_undo l G 89 S Q := by
  have hk := H.1.2
  refine e_X11_undo (b_X11_undo_0 C.sh.k89 ⟨fun _ S1 e1 => ?_, fun z => absurd z (by rw [H.1.1]; exact nI_ne0 (by omega) (by omega))⟩)
  rw [H.1.1, nI_pred] at e1
  have f1 : fr DU S S1 := by rw [e1]; exact fr.si rfl
  have e37 : m_gi S1 89 37 = nI k := by rw [e1, m_gi_si, if_pos ⟨rfl, rfl⟩]
  refine dn (P := fun i => ∀ T, fr DU S T → m_gi T 89 37 = nI k → (∀ j, j < i → m_gi T 106 j = m_gi S 112 (199 * k + j)) → V_X11_undo_21 l G 89 (nI i) T Q) 199 ?_ ?_ S1 f1 e37 (fun j z => absurd z (by omega))
  · intro T f e g
    have hs' := C.sh.fr f
    refine b_X11_undo_21 hs'.k89 ⟨fun _ => ?_, fun z => absurd (by decide) z⟩
    rw [e]
    have k112 : ∀ j, m_gi T 112 j = m_gi S 112 j := fun j => f.i _ _ rfl
    have N : LGr (m_gi T 106) R (hs 0) lg := (H.2 0 (by omega)).cong C.rw (fun j hj => by
      rw [g j hj]
      show _ = m_gi S 112 (199 * (k + 1 - 1 - 0) + j)
      congr 2)
    refine h T f (C.of106 f.1 f.2.2.2 (fun j h1 h2 => f.i _ _ (by
      unfold DU
      rw [← Bool.not_eq_true, Bool.or_eq_true, Bool.and_eq_true, Nat.beq_eq, Nat.beq_eq, Nat.beq_eq]; omega)) (fun a j h1 h2 h3 => f.i _ _ (by
      unfold DU
      rw [← Bool.not_eq_true, Bool.or_eq_true, Bool.and_eq_true, Nat.beq_eq, Nat.beq_eq, Nat.beq_eq]; omega)) hw N) N ⟨⟨e, by omega⟩, fun i hi => ?_⟩
    refine (H.2 (i + 1) (by omega)).cong C.rw (fun j _ => ?_)
    rw [k112]
    congr 2; omega
  · intro i hi ih T f e g
    have hs' := C.sh.fr f
    refine b_X11_undo_21 hs'.k89 ⟨fun z => absurd z (nI_ge hi (by decide)), fun _ => ⟨106, hs'.p89_28, 112, hs'.p89_36, by rw [e, ix199, hs'.l112]; exact vp_nI (by omega) (by omega), by rw [hs'.l106]; exact vp_nI (by omega) (by omega), fun S3 e3 v ev => ?_⟩⟩
    rw [ev, nI_1]
    rw [e, ix199, nI_clamp (by omega), nI_clamp (by omega), f.i 112 _ rfl] at e3
    refine ih S3 (f.tr (by rw [e3]; exact fr.si rfl)) (by rw [e3, m_gi_si, if_neg (by omega)]; exact e) (fun j hj => ?_)
    rw [e3, m_gi_si]
    by_cases z : j = i
    · rw [if_pos ⟨rfl, z⟩, z]
    · rw [if_neg (fun y => z y.2)]; exact g j (by omega)
def DI (a j : Nat) : Bool := Nat.beq a 118 || (Nat.beq a 89 && Nat.beq j 46)
theorem d_image {lg : Nat → Nat → Int32} {Q : mj_S → Int32 → Prop} (C : RI L S R s) (N : LGr (m_gi S 106) R s lg) (h1 : 0 < r_n R → ∀ S', fr DI S S' → m_gi S' 89 46 = 1 → LGr (m_gi S' 118) R s lg → Q S' (nI (s_yr s))) (h0 : r_n R = 0 → Q S (-1)) : M_X11_image l G 89 S Q := by
  have hn := C.rw.n
  refine e_X11_image (b_X11_image_0 C.sh.k89 ?_)
  try simp only [Option.some.injEq, exists_eq_left', fi32, i10, i00, false_implies, true_implies, not_false_eq_true, not_true_eq_false, true_and, and_true, nI_1, lz0, lz1, ix0, ix11, ix2, C.sh.p89_22, C.sh.p89_23, C.sh.p89_24, C.sh.p89_28, C.sh.p89_32, C.sh.p89_33, C.sh.l103, C.sh.l104, C.sh.l105, C.sh.l106, C.sh.l108, C.sh.l109, C.rr.n, C.rr.nc, C.rr.np, C.rr.w, C.rr.h, C.rr.li, C.rr.mo, C.rs.bk, C.rs.yr, ix4, ix6, nI_e0 (show r_n R < 2 ^ 31 by omega)]
  refine ⟨fun e => ?_, fun e => h0 e⟩
  refine dn (P := fun i => ∀ T, fr DI S T → (∀ j, j < i → m_gi T 118 j = m_gi S 106 j) → V_X11_image_11 l G 89 (nI i) T Q) 199 ?_ ?_ S fr.rf (fun j z => absurd z (by omega))
  · intro T f g
    have hs' := C.sh.fr f
    refine b_X11_image_11 hs'.k89 ⟨fun _ S1 e1 => ?_, fun z => absurd (by decide) z⟩
    have hs1 : Sh L S1 := by rw [e1]; exact hs'.si
    refine ⟨106, hs1.p89_28, by rw [hs1.l106]; exact vp_nI (p := 17) (by omega) (by omega), ?_⟩
    have f1 : fr DI S S1 := f.tr (by rw [e1]; exact fr.si rfl)
    rw [show (17 : Int32).toNatClampNeg = 17 by decide, f1.i 106 17 rfl, C.rs.yr]
    exact h1 (by omega) S1 f1 (by rw [e1, m_gi_si, if_pos ⟨rfl, rfl⟩]) (N.cong C.rw (fun j hj => by rw [e1, m_gi_si, if_neg (by omega)]; exact g j hj))
  · intro i hi ih T f g
    have hs' := C.sh.fr f
    refine b_X11_image_11 hs'.k89 ⟨fun z => absurd z (nI_ge hi (by decide)), fun _ => ⟨118, hs'.p89_45, 106, hs'.p89_28, by rw [hs'.l106]; exact vp_nI (by omega) (by omega), by rw [hs'.l118]; exact vp_nI (by omega) (by omega), fun S3 e3 v ev => ?_⟩⟩
    rw [ev, nI_1]
    rw [nI_clamp (by omega), f.i 106 _ rfl] at e3
    refine ih S3 (f.tr (by rw [e3]; exact fr.si rfl)) (fun j hj => ?_)
    rw [e3, m_gi_si]
    by_cases z : j = i
    · rw [if_pos ⟨rfl, z⟩, z]
    · rw [if_neg (fun y => z y.2)]; exact g j (by omega)
theorem d_back {lg : Nat → Nat → Int32} {s' : sc} {Q : mj_S → Int32 → Prop} (C : RI L S R s) (h1 : ¬ m_gi S 89 46 = 0 → (LGr (m_gi S 118) R s' lg ∧ s_wf R s') ∧ ∀ S', fr DU S S' → m_gi S' 89 37 = 0 → RI L S' R s' → LGr (m_gi S' 106) R s' lg → Q S' (nI (s_yr s'))) (h0 : m_gi S 89 46 = 0 → Q S (-1)) : M_X11_back l G 89 S Q := by
  refine e_X11_back (b_X11_back_0 C.sh.k89 ⟨fun e => ?_, fun e => h0 e⟩)
  obtain ⟨⟨N, hw⟩, h⟩ := h1 e
  refine dn (P := fun i => ∀ T, fr DU S T → (∀ j, j < i → m_gi T 106 j = m_gi S 118 j) → V_X11_back_11 l G 89 (nI i) T Q) 199 ?_ ?_ S fr.rf (fun j z => absurd z (by omega))
  · intro T f g
    have hs' := C.sh.fr f
    refine b_X11_back_11 hs'.k89 ⟨fun _ S1 e1 => ?_, fun z => absurd (by decide) z⟩
    have hs1 : Sh L S1 := by rw [e1]; exact hs'.si
    refine ⟨106, hs1.p89_28, by rw [hs1.l106]; exact vp_nI (p := 17) (by omega) (by omega), ?_⟩
    have f1 : fr DU S S1 := f.tr (by rw [e1]; exact fr.si rfl)
    have N1 : LGr (m_gi S1 106) R s' lg := N.cong C.rw (fun j hj => by rw [e1, m_gi_si, if_neg (by omega)]; exact g j hj)
    rw [show (17 : Int32).toNatClampNeg = 17 by decide, N1.1.2.2.2]
    exact h S1 f1 (by rw [e1, m_gi_si, if_pos ⟨rfl, rfl⟩]) (C.of106 f1.1 f1.2.2.2 (fun j h1 h2 => f1.i _ _ (by
      unfold DU
      rw [← Bool.not_eq_true, Bool.or_eq_true, Bool.and_eq_true, Nat.beq_eq, Nat.beq_eq, Nat.beq_eq]; omega)) (fun a j h1 h2 h3 => f1.i _ _ (by
      unfold DU
      rw [← Bool.not_eq_true, Bool.or_eq_true, Bool.and_eq_true, Nat.beq_eq, Nat.beq_eq, Nat.beq_eq]; omega)) hw N1) N1
  · intro i hi ih T f g
    have hs' := C.sh.fr f
    refine b_X11_back_11 hs'.k89 ⟨fun z => absurd z (nI_ge hi (by decide)), fun _ => ⟨106, hs'.p89_28, 118, hs'.p89_45, by rw [hs'.l118]; exact vp_nI (by omega) (by omega), by rw [hs'.l106]; exact vp_nI (by omega) (by omega), fun S3 e3 v ev => ?_⟩⟩
    rw [ev, nI_1]
    rw [nI_clamp (by omega), f.i 118 _ rfl] at e3
    refine ih S3 (f.tr (by rw [e3]; exact fr.si rfl)) (fun j hj => ?_)
    rw [e3, m_gi_si]
    by_cases z : j = i
    · rw [if_pos ⟨rfl, z⟩, z]
    · rw [if_neg (fun y => z y.2)]; exact g j (by omega)
/-- the log -/
def A_log (s : sc) (lg : Nat → Nat → Int32) (x y : Int32) : Int32 := match ixn (min (s_yr s) 60) x, ixn 3 y with
  | some i, some w => lg (s_yr s - i) w
  | _, _ => -1
theorem d_log {lg : Nat → Nat → Int32} {x1 x2 : Int32} {Q : mj_S → Int32 → Prop} (C : RI L S R s) (N : LGr (m_gi S 106) R s lg) (h : Q S (A_log s lg x1 x2)) : M_X11_log l G 89 x1 x2 S Q := by
  have l18 : (18 : Int32).toNatClampNeg = 18 := by decide
  have v18 : vp_in (18 : Int32) (m_ln S 106) := by rw [C.sh.l106]; exact vp_nI (p := 18) (by omega) (by omega)
  unfold A_log at h
  refine e_X11_log (b_X11_log_0 C.sh.k89 ⟨106, C.sh.p89_28, v18, ?_⟩)
  rw [l18, N.2.1]
  refine s_rinN (by omega) (fun i e1 => ?_) (fun e1 => ?_)
  · obtain ⟨hi, ei⟩ := ixn_some (by omega) e1
    try simp only [Option.some.injEq, exists_eq_left', fi32, i10, i00, false_implies, true_implies, not_false_eq_true, not_true_eq_false, true_and, and_true, nI_1, lz0, lz1, ix0, ix11, ix2]
    refine s_rinK (n := 2) (by omega) (fun w e2 => ?_) (fun e2 => ?_)
    · obtain ⟨hw, ew⟩ := ixn_some (by omega) e2
      rw [e1, e2] at h
      dsimp only at h
      try simp only [Option.some.injEq, exists_eq_left', fi32, i10, i00, false_implies, true_implies, not_false_eq_true, not_true_eq_false, true_and, and_true, nI_1, lz0, lz1, ix0, ix11, ix2]
      have ix : ((19 : Int32) + (3 : Int32) * ((nI (min (s_yr s) 60) - 1) - nI i)) + nI w = nI (19 + 3 * (min (s_yr s) 60 - 1 - i) + w) := by
        rw [show (1 : Int32) = nI 1 from rfl, sub_v (by omega), sub_v (by omega), show (19 : Int32) = nI 19 from rfl, show (3 : Int32) = nI 3 from rfl, nI_mul, nI_add, nI_add]
      refine ⟨106, C.sh.p89_28, 106, C.sh.p89_28, v18, ?_, ?_⟩
      · rw [N.2.1, ei, ew, ix, C.sh.l106]; exact vp_nI (by omega) (by omega)
      · rw [N.2.1, ei, ew, ix, nI_clamp (by omega), N.2.2 _ _ (by omega) hw]
        rw [show s_yr s - min (s_yr s) 60 + 1 + (min (s_yr s) 60 - 1 - i) = s_yr s - i by omega]
        exact h
    · rw [e1, e2] at h
      try simp only [Option.some.injEq, exists_eq_left', fi32, i10, i00, false_implies, true_implies, not_false_eq_true, not_true_eq_false, true_and, and_true, nI_1, lz0, lz1, ix0, ix11, ix2]
      exact h
  · rw [e1] at h
    try simp only [Option.some.injEq, exists_eq_left', fi32, i10, i00, false_implies, true_implies, not_false_eq_true, not_true_eq_false, true_and, and_true, nI_1, lz0, lz1, ix0, ix11, ix2]
    exact h
end RH
section HC2
variable {l : Launch} {G : mj_G} {L r rs : Nat} {R : rm} {s : sc} {S : mj_S}
theorem s_logged {Q : mj_S → Int32 → Prop} (C : CI L S r 50 rs R s) (hy : s_yr s ≤ 999) (h : Q S (nI (min (s_yr s) 60))) : M_X10_logged l G 6 S Q := by
  refine e_X10_logged (b_X10_logged_0 C.sh.k6 ⟨50, C.sh.p6_7, ?_⟩)
  rw [C.sn.yr]
  refine s_mn ?_
  have : mn (nI (s_yr s)) 60 = nI (min (s_yr s) 60) := by
    show (if nI 60 < nI (s_yr s) then nI 60 else nI (s_yr s)) = _
    by_cases z : 60 < s_yr s
    · rw [if_pos (nI_lt z (by omega)), Nat.min_eq_right (by omega)]
    · rw [if_neg (nI_nlt (a := 60) (by omega) (by omega)), Nat.min_eq_left (by omega)]
  rw [this]; exact h
theorem c_log {lg : Nat → Nat → Int32} {T : Nat} {x1 x2 : Int32} {Q : mj_S → Int32 → Prop} (C : CI L S r 50 rs R s) (hy : s_yr s ≤ 999) (hT : T ≤ s_yr s + 40) (hG : RG S 76 lg T (s_yr s)) (h : Q S (A_log s lg x1 x2)) : M_X10_log l G 6 x1 x2 S Q := by
  unfold A_log at h
  refine e_X10_log (b_X10_log_0 C.sh.k6 (s_logged C hy ?_))
  rcases Nat.eq_zero_or_pos (s_yr s) with hz | hz
  · have e1 : ixn (min (s_yr s) 60) x1 = none := by
      unfold ixn; rw [hz]; exact if_neg (by omega)
    rw [e1] at h
    have hm : nI (min (s_yr s) 60) - 1 = -1 := by rw [hz]; decide
    rw [hm]
    refine s_wit (fun q1 q2 => ?_) (fun _ => ?_)
    · exfalso
      rw [Int32.lt_iff_toInt_lt] at q1 q2
      rw [show (0 : Int32).toInt = 0 by decide] at q1
      rw [show (-1 : Int32).toInt = -1 by decide] at q2
      omega
    · try simp only [Option.some.injEq, exists_eq_left', fi32, i10, i00, false_implies, true_implies, not_false_eq_true, not_true_eq_false, true_and, and_true, nI_1, lz0, lz1, ix0, ix11, ix2]
      exact h
  rw [show nI (min (s_yr s) 60) - 1 = nI (min (s_yr s) 60 - 1) from sub_v (w := 1) (by omega)]
  refine s_witN (by omega) (fun i e1 => ?_) (fun e1 => ?_)
  · rw [show min (s_yr s) 60 - 1 + 1 = min (s_yr s) 60 by omega] at e1
    obtain ⟨hi, ei⟩ := ixn_some (by omega) e1
    try simp only [Option.some.injEq, exists_eq_left', fi32, i10, i00, false_implies, true_implies, not_false_eq_true, not_true_eq_false, true_and, and_true, nI_1, lz0, lz1, ix0, ix11, ix2]
    refine s_witN (n := 2) (by omega) (fun w e2 => ?_) (fun e2 => ?_)
    · obtain ⟨hw, ew⟩ := ixn_some (by omega) e2
      rw [e1, e2] at h
      dsimp only at h
      refine ⟨fun _ => ⟨74, C.sh.p6_9, 50, C.sh.p6_7, ?_⟩, fun z => absurd z (by decide)⟩
      rw [C.sn.yr, ei, ew, sub_v (by omega)]
      refine e_X4_noted (b_X4_noted_0 C.sh.k74 (s_witN (n := 2) (by omega) (fun _ _ => ?_) (fun e => ?_)))
      · refine ⟨fun z => absurd z (by decide), fun _ => ⟨76, C.sh.p74_3, s_rowOf (by omega) ?_⟩⟩
        rw [nI_add, C.sh.l76, nI_clamp (by omega)]
        refine ⟨vp_nI (by omega) (by omega), ?_⟩
        rw [hG (s_yr s - i) w (by omega) (by omega) (by omega) hw]
        exact h
      · rw [ixn_nI (by omega) (by omega)] at e; cases e
    · rw [e1, e2] at h
      try simp only [Option.some.injEq, exists_eq_left', fi32, i10, i00, false_implies, true_implies, not_false_eq_true, not_true_eq_false, true_and, and_true, nI_1, lz0, lz1, ix0, ix11, ix2]
      exact h
  · rw [show min (s_yr s) 60 - 1 + 1 = min (s_yr s) 60 by omega] at e1
    rw [e1] at h
    try simp only [Option.some.injEq, exists_eq_left', fi32, i10, i00, false_implies, true_implies, not_false_eq_true, not_true_eq_false, true_and, and_true, nI_1, lz0, lz1, ix0, ix11, ix2]
    exact h
end HC2
