/-! the reference takes a room: the loops -/
def bkc (s : ps) (c : Nat) : Int32 := bs c (fun d => decide (p_cu s d 5 = 1))
section T3
variable {l : Launch} {G : mj_G} {L : Nat} {s : ps} {Q : mj_S → Int32 → Prop}
theorem s_tk134 {S : mj_S} (hw : p_wf s) (e26 : m_gi S 89 26 = nI (p_nc s)) (h104 : ∀ c, c < p_nc s → ∀ k, k < 6 → m_gi S 104 (6 * c + k) = nI (p_cu s c k)) (h : ∀ S2, Sh L S2 → fr Dtk S S2 → (∀ a j, a ≠ 106 → m_gi S2 a j = m_gi S a j) → (∀ j, j < 199 → m_gi S2 106 j = if j < p_nc s then nI (p_cu s j 3) else if j = 10 then p_bk s else 0) → V_X11_takeRoom_182 l G 89 0 S2 Q) : ∀ (k c : Nat) (S' : mj_S), k + c = p_nc s → Sh L S' → fr Dtk S S' → (∀ a j, a ≠ 106 → m_gi S' a j = m_gi S a j) → (∀ j, j < 199 → m_gi S' 106 j = if j < c then nI (p_cu s j 3) else if j = 10 then bkc s c else 0) → V_X11_takeRoom_134 l G 89 (nI c) S' Q
  | 0, c, S', ek, hs, f, g1, g2 => by
    have nc := hw.1.2.1
    have e : c = p_nc s := by omega
    refine b_X11_takeRoom_134 hs.k89 ?_
    rw [g1 89 26 (by omega), e26]
    refine ⟨fun _ => h S' hs f g1 (fun j hj => ?_), fun z => absurd (nI_le (by omega) (by omega)) z⟩
    rw [g2 j hj, e]; rfl
  | k + 1, c, S', ek, hs, f, g1, g2 => by
    have nc := hw.1.2.1
    have hc : c < p_nc s := by omega
    have hu := hw.cu hc
    refine b_X11_takeRoom_134 hs.k89 ?_
    rw [g1 89 26 (by omega), e26]
    refine ⟨fun z => absurd z (nI_ge (by omega) (by omega)), fun _ => ⟨106, hs.p89_28, z_of (k := 3) hs (by omega) (by omega) ?_⟩⟩
    rw [hs.l106, ix0, nI_clamp (by omega), g1 104 _ (by omega), h104 c hc 3 (by omega)]
    refine ⟨vp_nI (by omega) (by omega), fun S4 e4 => ?_⟩
    have f4 : fr Dtk S' S4 := by rw [e4]; exact fr.si (Dtk_t (by omega))
    have hs4 := hs.fr f4
    have c10 : (10 : Int32).toNatClampNeg = 10 := by decide
    have gg : vp_in (10 : Int32) 199 := vp_nI (p := 10) (by omega) (by omega)
    refine ⟨106, hs4.p89_28, by rw [hs4.l106]; exact gg, z_of (k := 5) hs4 (by omega) (by omega) ?_⟩
    rw [hs4.l106, c10]
    refine ⟨gg, fun S8 e8 v9 e9 => ?_⟩
    have f8 : fr Dtk S4 S8 := by rw [e8]; exact fr.si (Dtk_t (by omega))
    rw [e9, nI_1]
    have i4 : m_gi S4 106 10 = bkc s c := by
      rw [e4, m_gi_si, if_neg (by omega), g2 10 (by omega), if_neg (by omega), if_pos rfl]
    have i5 : m_gi S4 104 (6 * c + 5) = nI (p_cu s c 5) := by
      rw [e4, m_gi_si, if_neg (by omega), g1 104 _ (by omega)]; exact h104 c hc 5 (by omega)
    have eb : bkc s c ||| (nI (p_cu s c 5) <<< (nI c &&& 31)) = bkc s (c + 1) := by
      unfold bkc
      by_cases e : p_cu s c 5 = 1
      · rw [bs_s1 (by exact decide_eq_true e), e]; rfl
      · have e' : p_cu s c 5 = 0 := by omega
        rw [bs_s0' (by rw [e']; decide), e', sh0_10 _ (by omega)]
    refine s_tk134 hw e26 h104 h k (c + 1) S8 (by omega) (hs4.fr f8) (f.tr (f4.tr f8)) (fun a j ha => ?_) (fun j hj => ?_)
    · rw [e8, m_gi_si, if_neg (by omega), e4, m_gi_si, if_neg (by omega)]; exact g1 a j ha
    · rw [e8, m_gi_si]
      by_cases e : j = 10
      · rw [if_pos ⟨rfl, e⟩, i4, i5, eb, if_neg (by omega), if_pos e]
      · rw [if_neg (by omega), e4, m_gi_si]
        by_cases e' : j = c
        · rw [if_pos ⟨rfl, e'⟩, if_pos (by omega), e']
        · rw [if_neg (by omega), g2 j hj]
          by_cases e'' : j < c
          · rw [if_pos e'', if_pos (by omega)]
          · rw [if_neg e'', if_neg e, if_neg (by omega), if_neg e]
theorem s_tk182 {S : mj_S} (hw : p_wf s) (e27 : m_gi S 89 27 = nI (p_np s)) (h105 : ∀ c, c < p_np s → ∀ k, k < 2 → m_gi S 105 (2 * c + k) = nI (p_pe s c k)) (h : ∀ S2, Sh L S2 → fr Dtk S S2 → (∀ a j, ¬ (a = 106 ∧ 11 ≤ j ∧ j < 11 + p_np s) → m_gi S2 a j = m_gi S a j) → (∀ p, p < p_np s → m_gi S2 106 (11 + p) = nI (p_pe s p 0)) → V_X11_takeRoom_215 l G 89 0 S2 Q) : ∀ (k c : Nat) (S' : mj_S), k + c = p_np s → Sh L S' → fr Dtk S S' → (∀ a j, ¬ (a = 106 ∧ 11 ≤ j ∧ j < 11 + p_np s) → m_gi S' a j = m_gi S a j) → (∀ p, p < c → m_gi S' 106 (11 + p) = nI (p_pe s p 0)) → V_X11_takeRoom_182 l G 89 (nI c) S' Q
  | 0, c, S', ek, hs, f, g1, g2 => by
    have nc := hw.1.2.2
    have e : c = p_np s := by omega
    refine b_X11_takeRoom_182 hs.k89 ?_
    rw [g1 89 27 (by omega), e27]
    exact ⟨fun _ => h S' hs f g1 (fun p hp => g2 p (by omega)), fun z => absurd (nI_le (by omega) (by omega)) z⟩
  | k + 1, c, S', ek, hs, f, g1, g2 => by
    have nc := hw.1.2.2
    have hc : c < p_np s := by omega
    refine b_X11_takeRoom_182 hs.k89 ?_
    rw [g1 89 27 (by omega), e27]
    refine ⟨fun z => absurd z (nI_ge (by omega) (by omega)), fun _ => ⟨106, hs.p89_28, 105, hs.p89_24, ?_⟩⟩
    have i2 : (2 : Int32) * nI c = nI (2 * c) := nI_mul 2 c
    rw [hs.l106, hs.l105, i2, ix11, nI_clamp (by omega), nI_clamp (by omega), nI_1, g1 105 _ (by omega), show m_gi S 105 (2 * c) = nI (p_pe s c 0) from h105 c hc 0 (by omega)]
    refine ⟨vp_nI (by omega) (by omega), vp_nI (by omega) (by omega), fun S3 e3 v4 e4 => ?_⟩
    have f3 : fr Dtk S' S3 := by rw [e3]; exact fr.si (Dtk_t (by omega))
    rw [e4]
    refine s_tk182 hw e27 h105 h k (c + 1) S3 (by omega) (hs.fr f3) (f.tr f3) (fun a j ha => ?_) (fun p hp => ?_)
    · rw [e3, m_gi_si, if_neg (by omega)]; exact g1 a j ha
    · rw [e3, m_gi_si]
      by_cases e : p = c
      · rw [if_pos ⟨rfl, by omega⟩, e]
      · rw [if_neg (by omega)]; exact g2 p (by omega)
theorem nx_ltR {R : rm} (hR : r_wf R) {q way b : Nat} (hq : q < r_n R) (e : nx R q way = some b) : b < r_n R := by
  unfold nx at e
  split at e
  · split at e
    · cases e; exact r_right hq (by assumption)
    · cases e
  · split at e
    · split at e
      · cases e; assumption
      · cases e
    · split at e
      · split at e
        · cases e; omega
        · cases e
      · split at e
        · cases e; omega
        · cases e
theorem s_tk215 {S : mj_S} {R : rm} (hR : r_wf R) (C : Rz S R) (h : ∀ S2, Sh L S2 → fr Dtk S S2 → (∀ a j, a ≠ 108 → a ≠ 109 → ¬ (a = 89 ∧ (j = 44 ∨ j = 37 ∨ j = 46)) → m_gi S2 a j = m_gi S a j) → (∀ q way, q < r_n R → way < 4 → m_gi S2 108 (4 * q + way) = oI (nx R q way) ∧ m_gi S2 109 (4 * q + way) = oI (sd R q way)) → m_gi S2 89 44 = 0 → m_gi S2 89 37 = 0 → m_gi S2 89 46 = 0 → Q S2 (nI (r_n R))) : ∀ (k i : Nat) (S' : mj_S), k + i = 4 * r_n R → Sh L S' → fr Dtk S S' → (∀ a j, a ≠ 108 → a ≠ 109 → m_gi S' a j = m_gi S a j) → (∀ j, j < i → m_gi S' 108 j = oI (nx R (j / 4) (j % 4)) ∧ m_gi S' 109 j = oI (sd R (j / 4) (j % 4))) → V_X11_takeRoom_215 l G 89 (nI i) S' Q
  | 0, i, S', ek, hs, f, g1, g2 => by
    have n20 := hR.n
    refine b_X11_takeRoom_215 hs.k89 ?_
    have i4 : (4 : Int32) * nI (r_n R) = nI (4 * r_n R) := nI_mul 4 _
    rw [g1 89 25 (by omega) (by omega), C.1.1, i4]
    refine ⟨fun _ S1 e1 S2 e2 S3 e3 => ?_, fun z => absurd (nI_le (by omega) (by omega)) z⟩
    have f3 : fr Dtk S' S3 := by rw [e3, e2, e1]; exact ((fr.si (Dtk_t (by omega))).tr (fr.si (Dtk_t (by omega)))).tr (fr.si (Dtk_t (by omega)))
    have k3 : ∀ a j, ¬ (a = 89 ∧ (j = 44 ∨ j = 37 ∨ j = 46)) → m_gi S3 a j = m_gi S' a j := fun a j ha => by rw [e3, m_gi_si, if_neg (by omega), e2, m_gi_si, if_neg (by omega), e1, m_gi_si, if_neg (by omega)]
    rw [k3 89 25 (by omega), g1 89 25 (by omega) (by omega), C.1.1]
    refine h S3 (hs.fr f3) (f.tr f3) (fun a j h1 h2 h3 => (k3 a j h3).trans (g1 a j h1 h2)) (fun q way hq hw => ?_) ?_ ?_ ?_
    · have hj := g2 (4 * q + way) (by omega)
      rw [show (4 * q + way) / 4 = q by omega, show (4 * q + way) % 4 = way by omega] at hj
      rw [k3 _ _ (by omega), k3 _ _ (by omega)]; exact hj
    · rw [e3, m_gi_si, if_neg (by omega), e2, m_gi_si, if_neg (by omega), e1, m_gi_si, if_pos ⟨rfl, rfl⟩]
    · rw [e3, m_gi_si, if_neg (by omega), e2, m_gi_si, if_pos ⟨rfl, rfl⟩]
    · rw [e3, m_gi_si, if_pos ⟨rfl, rfl⟩]
  | k + 1, i, S', ek, hs, f, g1, g2 => by
    have n20 := hR.n
    have hi : i < 80 := by omega
    have hq : i / 4 < r_n R := by omega
    have hwy : i % 4 < 4 := by omega
    have hd := dv_s i hi 4 (by omega) (by omega)
    have hd1 : nI i - nI i / (4 : Int32) * (4 : Int32) = nI (i % 4) := hd.1
    have hd2 : nI i / (4 : Int32) = nI (i / 4) := hd.2
    have C' : Rz S' R := C.k (fun j _ _ => g1 _ _ (by omega) (by omega)) (fun a j _ _ => g1 _ _ (by omega) (by omega))
    refine b_X11_takeRoom_215 hs.k89 ?_
    have i4 : (4 : Int32) * nI (r_n R) = nI (4 * r_n R) := nI_mul 4 _
    rw [C'.1.1, i4, hd1, hd2]
    refine ⟨fun z => absurd z (nI_ge (by omega) (by omega)), fun _ => ⟨108, hs.p89_32, by decide, by decide, s_beside hs hR C' hq hwy ?_⟩⟩
    have hin : vp_in (nI i) 80 := vp_nI (by omega) (by omega)
    have cc : (nI i).toNatClampNeg = i := nI_clamp (by omega)
    rw [hs.l108, cc]
    refine ⟨hin, fun S7 e7 => ⟨109, ?_⟩⟩
    have f7 : fr Dtk S' S7 := by rw [e7]; exact fr.si (Dtk_t (by omega))
    have hs7 := hs.fr f7
    have C7 : Rz S7 R := C'.k (fun j _ _ => by rw [e7, m_gi_si, if_neg (by omega)]) (fun a j _ _ => by rw [e7, m_gi_si, if_neg (by omega)])
    have g7 : m_gi S7 108 i = oI (nx R (i / 4) (i % 4)) := by rw [e7, m_gi_si, if_pos ⟨rfl, rfl⟩]
    refine ⟨hs7.p89_33, 108, hs7.p89_32, by rw [hs7.l108]; exact hin, ?_⟩
    rw [g7]
    have next : ∀ S8 : mj_S, S8 = m_si S7 109 i (oI (sd R (i / 4) (i % 4))) → ∀ v : Int32, v = nI i + 1 → V_X11_takeRoom_215 l G 89 v S8 Q := by
      intro S8 e8 v ev
      have f8 : fr Dtk S7 S8 := by rw [e8]; exact fr.si (Dtk_t (by omega))
      rw [ev, nI_1]
      refine s_tk215 hR C h k (i + 1) S8 (by omega) (hs7.fr f8) (f.tr (f7.tr f8)) (fun a j h1 h2 => ?_) (fun j hj => ?_)
      · rw [e8, m_gi_si, if_neg (by omega), e7, m_gi_si, if_neg (by omega)]; exact g1 a j h1 h2
      · by_cases e : j = i
        · rw [e]
          refine ⟨?_, ?_⟩
          · rw [e8, m_gi_si, if_neg (by omega)]; exact g7
          · rw [e8, m_gi_si, if_pos ⟨rfl, rfl⟩]
        · have := g2 j (by omega)
          refine ⟨?_, ?_⟩
          · rw [e8, m_gi_si, if_neg (by omega), e7, m_gi_si, if_neg (by omega)]; exact this.1
          · rw [e8, m_gi_si, if_neg (by omega), e7, m_gi_si, if_neg (by omega)]; exact this.2
    cases en : nx R (i / 4) (i % 4) with
    | none =>
      refine ⟨fun z => absurd rfl z, fun _ => ⟨by rw [hs7.l109]; exact hin, fun S8 e8 v ev => next S8 ?_ v ev⟩⟩
      unfold sd
      rw [en, e8]; rfl
    | some b =>
      have hb := nx_ltR hR hq en
      refine ⟨fun _ => ⟨by decide, 108, hs7.p89_32, by rw [hs7.l108]; exact hin, ?_⟩, fun z => absurd z (nI_m1 (by omega))⟩
      rw [g7, en, show oI (some b) = nI b from rfl]
      refine s_between hs7 hR C7 (by omega) (by omega) ⟨by rw [hs7.l109]; exact hin, fun S8 e8 v ev => next S8 ?_ v ev⟩
      unfold sd
      rw [en, e8]
theorem s_takeRoom {S : mj_S} (hs : Sh L S) (hw : p_wf s) (ok : p_ok s) (C : RP S s) (h : ∀ S', fr Dtk S S' → RI L S' (p_R s) (p_s s) → m_gi S' 89 44 = 0 → m_gi S' 89 37 = 0 → m_gi S' 89 46 = 0 → (∀ j, 17 ≤ j → j < 199 → m_gi S' 106 j = 0) → Q S' (nI (p_n s))) : M_X11_takeRoom l G 89 S Q := by
  have nc := hw.1.2
  have hr := hw.ru
  have hR := p_R_wf hw ok
  have hS := p_s_wf hw ok
  refine e_X11_takeRoom (b_X11_takeRoom_0 hs.k89 (fun S1 e1 S2 e2 => ?_))
  have f2 : fr Dtk S S2 := by rw [e2, e1]; exact (fr.si (Dtk_t (by omega))).tr (fr.si (Dtk_t (by omega)))
  have k2 : ∀ a j, ¬ (a = 89 ∧ (j = 26 ∨ j = 27)) → m_gi S2 a j = m_gi S a j := fun a j ha => by rw [e2, m_gi_si, if_neg (by omega), e1, m_gi_si, if_neg (by omega)]
  have i26 : m_gi S2 89 26 = nI (p_nc s) := by rw [e2, m_gi_si, if_neg (by omega), e1, m_gi_si, if_pos ⟨rfl, rfl⟩]; exact C.1.1
  have i27 : m_gi S2 89 27 = nI (p_np s) := by rw [e2, m_gi_si, if_pos ⟨rfl, rfl⟩, e1, m_gi_si, if_neg (by omega)]; exact C.1.2
  have key : ∀ k i (S3 : mj_S), k + i = 4 → Sh L S3 → fr Dtk S S3 → (∀ a j, a ≠ 103 → m_gi S3 a j = m_gi S2 a j) → (∀ j, j < i → m_gi S3 103 j = nI (p_ru s j)) → V_X11_takeRoom_18 l G 89 (nI i) S3 Q := by
    intro k
    induction k with
    | zero =>
      intro i S3 ek hs3 f3 g1 g2
      have e : i = 4 := by omega
      rw [e]
      refine b_X11_takeRoom_18 hs3.k89 ⟨fun _ => ⟨103, hs3.p89_22, by rw [hs3.l103]; exact vp_nI (p := 0) (by omega) (by omega), 103, hs3.p89_22, by rw [hs3.l103]; exact vp_nI (p := 1) (by omega) (by omega), fun S4 e4 => ?_⟩, fun z => absurd (by decide) z⟩
      rw [lz0, lz1, g2 0 (by omega), g2 1 (by omega), nI_mul] at e4
      have f4 : fr Dtk S S4 := f3.tr (by rw [e4]; exact fr.si (Dtk_t (by omega)))
      have k4 : ∀ a j, ¬ (a = 89 ∧ j = 25) → m_gi S4 a j = m_gi S3 a j := fun a j ha => by rw [e4, m_gi_si, if_neg (by omega)]
      refine s_tk60 (S := S4) 60 0 S4 (by omega) (hs.fr f4) fr.rf (fun _ _ _ => rfl) (fun j hj => by omega) (fun S5 hs5 f5 a5 b5 => ?_)
      refine s_tk86 (S := S5) 12 0 S5 (by omega) hs5 fr.rf (fun _ _ _ => rfl) (fun j hj => by omega) (fun S6 hs6 f6 a6 b6 => ?_)
      refine s_tk112 (S := S6) 199 0 S6 (by omega) hs6 fr.rf (fun _ _ _ => rfl) (fun j hj => by omega) (fun S7 hs7 f7 a7 b7 => ?_)
      have t7 : ∀ a j, a ≠ 104 → a ≠ 105 → a ≠ 106 → m_gi S7 a j = m_gi S4 a j := fun a j h1 h2 h3 => (a7 a j h3).trans ((a6 a j h2).trans (a5 a j h1))
      have q104 : ∀ c, c < p_nc s → ∀ k, k < 6 → m_gi S7 104 (6 * c + k) = nI (p_cu s c k) := by
        intro c hc k hk
        rw [a7 _ _ (by omega), a6 _ _ (by omega), b5 _ (by omega), k4 _ _ (by omega), g1 _ _ (by omega), k2 _ _ (by omega)]
        exact C.2.2.1 c hc k hk
      have q105 : ∀ c, c < p_np s → ∀ k, k < 2 → m_gi S7 105 (2 * c + k) = nI (p_pe s c k) := by
        intro c hc k hk
        rw [a7 _ _ (by omega), b6 _ (by omega), a5 _ _ (by omega), k4 _ _ (by omega), g1 _ _ (by omega), k2 _ _ (by omega)]
        exact C.2.2.2 c hc k hk
      have j26 : m_gi S7 89 26 = nI (p_nc s) := by rw [t7 _ _ (by omega) (by omega) (by omega), k4 _ _ (by omega), g1 _ _ (by omega)]; exact i26
      have j27 : m_gi S7 89 27 = nI (p_np s) := by rw [t7 _ _ (by omega) (by omega) (by omega), k4 _ _ (by omega), g1 _ _ (by omega)]; exact i27
      have j25 : m_gi S7 89 25 = nI (p_n s) := by rw [t7 _ _ (by omega) (by omega) (by omega), e4, m_gi_si, if_pos ⟨rfl, rfl⟩]; rfl
      have j103 : ∀ j, j < 4 → m_gi S7 103 j = nI (p_ru s j) := fun j hj => by rw [t7 _ _ (by omega) (by omega) (by omega), k4 _ _ (by omega)]; exact g2 j (by omega)
      refine s_tk134 (S := S7) hw j26 q104 (fun S8 hs8 f8 a8 b8 => ?_) (p_nc s) 0 S7 (by omega) hs7 fr.rf (fun _ _ _ => rfl) (fun j hj => ?_)
      · refine s_tk182 (S := S8) hw (by rw [a8 _ _ (by omega)]; exact j27) (fun c hc k hk => by rw [a8 _ _ (by omega)]; exact q105 c hc k hk) (fun S9 hs9 f9 a9 b9 => ?_) (p_np s) 0 S8 (by omega) hs8 fr.rf (fun _ _ _ => rfl) (fun p hp => by omega)
        have t9 : ∀ a j, a ≠ 106 → m_gi S9 a j = m_gi S7 a j := fun a j h1 => (a9 a j (by omega)).trans (a8 a j h1)
        have Z9 : Rz S9 (p_R s) := by
          refine ⟨⟨?_, ?_, ?_⟩, ⟨?_, ?_, ?_, ?_⟩, fun c hc => ⟨?_, ?_, ?_, ?_⟩, fun p hp => ?_⟩
          · rw [t9 _ _ (by omega)]; exact j25
          · rw [t9 _ _ (by omega)]; exact j26
          · rw [t9 _ _ (by omega)]; exact j27
          · rw [t9 _ _ (by omega)]; exact j103 0 (by omega)
          · rw [t9 _ _ (by omega)]; exact j103 1 (by omega)
          · rw [t9 _ _ (by omega)]; exact j103 2 (by omega)
          · rw [t9 _ _ (by omega)]; exact j103 3 (by omega)
          · rw [t9 _ _ (by omega)]; exact q104 c hc 0 (by omega)
          · rw [t9 _ _ (by omega)]; exact q104 c hc 1 (by omega)
          · rw [t9 _ _ (by omega)]; exact q104 c hc 2 (by omega)
          · rw [t9 _ _ (by omega)]; exact q104 c hc 4 (by omega)
          · rw [t9 _ _ (by omega)]; exact q105 p hp 1 (by omega)
        refine s_tk215 (S := S9) hR Z9 (fun S10 hs10 f10 a10 b10 c44 c37 c46 => ?_) (4 * r_n (p_R s)) 0 S9 (by omega) hs9 fr.rf (fun _ _ _ _ => rfl) (fun j hj => by omega)
        have Z10 : Rz S10 (p_R s) := Z9.k (fun j _ _ => a10 _ _ (by omega) (by omega) (by omega)) (fun a j _ _ => a10 _ _ (by omega) (by omega) (by omega))
        have m106 : ∀ j, j < 199 → ¬ (11 ≤ j ∧ j < 11 + p_np s) → m_gi S10 106 j = if j < p_nc s then nI (p_cu s j 3) else if j = 10 then p_bk s else 0 := fun j hj h1 => by
          rw [a10 _ _ (by omega) (by omega) (by omega), a9 _ _ (by omega)]; exact b8 j hj
        refine h S10 ((((((f4.tr f5).tr f6).tr f7).tr f8).tr f9).tr f10) ⟨hs10, hR, hS, ⟨Z10.1, Z10.2.1, Z10.2.2.1, Z10.2.2.2, b10⟩, ⟨fun c hc => ?_, ?_, fun p hp => ?_, ?_⟩⟩ c44 c37 c46 (fun j h1 h2 => ?_)
        · have hc' : c < p_nc s := hc
          rw [m106 c (by omega) (by omega), if_pos hc']; rfl
        · rw [m106 10 (by omega) (by omega), if_neg (by omega), if_pos rfl]; rfl
        · rw [a10 _ _ (by omega) (by omega) (by omega)]; exact b9 p hp
        · rw [m106 17 (by omega) (by omega), if_neg (by omega), if_neg (by omega)]; rfl
        · rw [m106 j (by omega) (by omega), if_neg (by omega), if_neg (by omega)]
      · rw [b7 j hj, if_neg (by omega)]
        by_cases e10 : j = 10
        · rw [if_pos e10]; rfl
        · rw [if_neg e10]
    | succ k ih =>
      intro i S3 ek hs3 f3 g1 g2
      refine b_X11_takeRoom_18 hs3.k89 ⟨fun z => absurd z (nI_ge (b := 4) (by omega) (by omega)), fun _ => ⟨103, hs3.p89_22, 100, hs3.p89_17, ?_⟩⟩
      rw [hs3.l103, hs3.l100, nI_clamp (by omega), nI_1, g1 100 i (by omega), k2 _ _ (by omega), C.2.1 i (by omega)]
      refine ⟨vp_nI (by omega) (by omega), vp_nI (by omega) (by omega), fun S4 e4 v7 e7 => ?_⟩
      have f4 : fr Dtk S3 S4 := by rw [e4]; exact fr.si (Dtk_t (by omega))
      rw [e7]
      refine ih (i + 1) S4 (by omega) (hs3.fr f4) (f3.tr f4) (fun a j ha => ?_) (fun j hj => ?_)
      · rw [e4, m_gi_si, if_neg (by omega)]; exact g1 a j ha
      · rw [e4, m_gi_si]
        by_cases e : j = i
        · rw [if_pos ⟨rfl, e⟩, e]
        · rw [if_neg (by omega)]; exact g2 j (by omega)
  exact key 4 0 S2 rfl (hs.fr f2) f2 (fun _ _ _ => rfl) (fun j hj => by omega)
end T3
