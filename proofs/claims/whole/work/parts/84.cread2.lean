/-! the class reads a room -/
def p_bk (s : ps) : Int32 := bs (p_nc s) (fun c => decide (p_cu s c 5 = 1))
def p_R (s : ps) : rm := (fun k => if k = 4 then p_nc s else if k = 5 then p_np s else p_ru s k, fun k c => if k = 7 then p_pe s c 1 else p_cu s c k)
def p_s (s : ps) : sc := (fun c => p_cu s c 3, p_bk s, fun p => p_pe s p 0, 0)
theorem tb_L : tb LO 0 = 1 ∧ tb LO 1 = 1 ∧ tb LO 2 = 0 ∧ tb LO 3 = 0 ∧ tb LO 4 = 0 ∧ tb LO 5 = 0 ∧ tb LO 6 = 0 ∧ tb LO 7 = 1 ∧ tb LO 8 = 0 ∧ tb LO 9 = 0 ∧ tb LO 10 = 0 ∧ tb LO 11 = 1 := by decide
theorem tb_H : tb HI 0 = 5 ∧ tb HI 1 = 4 ∧ tb HI 2 = 99 ∧ tb HI 3 = 9 ∧ tb HI 4 = 19 ∧ tb HI 5 = 1 ∧ tb HI 6 = 9 ∧ tb HI 7 = 99 ∧ tb HI 8 = 9 ∧ tb HI 9 = 1 ∧ tb HI 10 = 19 ∧ tb HI 11 = 9 := by decide
theorem p_wf.ru {s : ps} (h : p_wf s) : (1 ≤ p_ru s 0 ∧ p_ru s 0 ≤ 5) ∧ (1 ≤ p_ru s 1 ∧ p_ru s 1 ≤ 4) ∧ p_ru s 2 ≤ 99 ∧ p_ru s 3 ≤ 9 := by
  have h0 := h.1.1 0 (by omega)
  have h1 := h.1.1 1 (by omega)
  have h2 := h.1.1 2 (by omega)
  have h3 := h.1.1 3 (by omega)
  have a := tb_L
  have b := tb_H
  omega
theorem p_wf.cu {s : ps} (h : p_wf s) {c : Nat} (hc : c < p_nc s) : p_cu s c 0 ≤ 19 ∧ p_cu s c 1 ≤ 1 ∧ p_cu s c 2 ≤ 9 ∧ (1 ≤ p_cu s c 3 ∧ p_cu s c 3 ≤ 99) ∧ p_cu s c 4 ≤ 9 ∧ p_cu s c 5 ≤ 1 := by
  have h0 := h.2.1 c hc 0 (by omega)
  have h1 := h.2.1 c hc 1 (by omega)
  have h2 := h.2.1 c hc 2 (by omega)
  have h3 := h.2.1 c hc 3 (by omega)
  have h4 := h.2.1 c hc 4 (by omega)
  have h5 := h.2.1 c hc 5 (by omega)
  have a := tb_L
  have b := tb_H
  simp only [Nat.reduceAdd] at h0 h1 h2 h3 h4 h5
  omega
theorem p_wf.pe {s : ps} (h : p_wf s) {c : Nat} (hc : c < p_np s) : p_pe s c 0 ≤ 19 ∧ 1 ≤ p_pe s c 1 ∧ p_pe s c 1 ≤ 9 := by
  have h0 := h.2.2 c hc 0 (by omega)
  have h1 := h.2.2 c hc 1 (by omega)
  have a := tb_L
  have b := tb_H
  simp only [Nat.reduceAdd] at h0 h1
  omega
theorem p_R_wf {s : ps} (h : p_wf s) (ok : p_ok s) : r_wf (p_R s) := by
  have hr := h.ru
  refine ⟨⟨hr.1.2, hr.2.1.2, h.1.2.1, h.1.2.2, hr.2.2.1, hr.2.2.2⟩, fun c hc => ?_, fun c d hc hd e => ?_, fun p hp => ?_, fun _ => ok.1⟩
  · have hu := h.cu hc
    have hk := ok.2.2 c hc
    refine ⟨hk.1, ?_, hu.2.2.1, hu.2.2.2.2.1⟩
    have h2 := hk.2.1
    by_cases e : p_cu s c 1 = 0
    · rw [if_pos e] at h2; exact Or.inl ⟨e, h2⟩
    · rw [if_neg e] at h2; exact Or.inr ⟨show p_cu s c 1 = 1 by omega, h2⟩
  · exact (ok.2.2 c hc).2.2 d hd ⟨e.1.symm, e.2.symm⟩
  · exact (h.pe hp).2
theorem p_s_wf {s : ps} (h : p_wf s) (ok : p_ok s) : s_wf (p_R s) (p_s s) := ⟨fun c hc => (h.cu hc).2.2.2.1.2, bs_in _ (by have := h.1.2.1; exact Nat.le_trans this (by omega)), fun p hp => ok.2.1 p hp⟩
/-- the class's reader holds in the room q what has been told -/
def CP (S : mj_S) (q : Nat) (s : ps) : Prop := (m_gp S 8 4 = some q ∧ m_gi S 8 3 = (if p_rd s = true then 1 else 0)) ∧ (∀ k, k < 4 → m_gi S q k = nI (p_ru s k)) ∧ (m_gi S q 7 = nI (p_nc s) ∧ m_gi S q 15 = nI (p_np s) ∧ m_gi S q 14 = p_bk s) ∧ (∀ c, c < p_nc s → m_gi S (q + 1) c = nI (p_cu s c 0) ∧ m_gi S (q + 3) c = nI (p_cu s c 1) ∧ m_gi S (q + 4) c = nI (p_cu s c 2) ∧ m_gi S (q + 6) c = nI (p_cu s c 3) ∧ m_gi S (q + 5) c = nI (p_cu s c 4)) ∧ ∀ p, p < p_np s → m_gi S (q + 7) p = nI (p_pe s p 1) ∧ m_gi S (q + 8) p = nI (p_pe s p 0)
def D8 (q : Nat) (a _j : Nat) : Bool := Nat.beq a 8 || (Nat.beq a 19 || (Nat.ble q a && Nat.ble a (q + 8)))
theorem D8_f {q a j : Nat} (h1 : a ≠ 8) (h2 : a ≠ 19) (h3 : a < q ∨ q + 8 < a) : D8 q a j = false := by
  rw [← Bool.not_eq_true]
  intro z
  unfold D8 at z
  rw [Bool.or_eq_true, Bool.or_eq_true, Bool.and_eq_true, Nat.beq_eq, Nat.beq_eq, Nat.ble_eq, Nat.ble_eq] at z
  omega
theorem D8_t {q a j : Nat} (h3 : q ≤ a ∧ a ≤ q + 8) : D8 q a j = true := by
  unfold D8
  rw [Bool.or_eq_true, Bool.or_eq_true, Bool.and_eq_true, Nat.beq_eq, Nat.beq_eq, Nat.ble_eq, Nat.ble_eq]
  omega
theorem D8i_8 {q : Nat} {S S' : mj_S} (f : fr D8i S S') : fr (D8 q) S S' := f.wid (fun a j h => by
  apply D8i_f
  · intro z; unfold D8 at h; rw [z.1] at h; simp at h
  · intro z; unfold D8 at h; rw [z] at h; simp at h)
def isQ (q : Nat) : Prop := q = 32 ∨ q = 41
theorem isQ.rm {q : Nat} (h : isQ q) : isRm q := by
  rcases h with e | e
  · exact Or.inr (Or.inl e)
  · exact Or.inr (Or.inr (Or.inl e))
theorem sh0_10 : ∀ c, c < 10 → (nI 0 <<< (nI c &&& 31)) = (0 : Int32) := by decide +kernel
section CR
variable {l : Launch} {G : mj_G} {L : Nat} {S : mj_S} {n p q : Nat} {t : Nat → Nat} {s : ps}
theorem CP.fi {S' : mj_S} (C : CP S q s) (hq : isQ q) (f : fr D8i S S') : CP S' q s := by
  have k : ∀ a j, q ≤ a → m_gi S' a j = m_gi S a j := fun a j h => f.i a j (D8i_f (by rcases hq with e | e <;> omega) (by rcases hq with e | e <;> omega))
  refine ⟨⟨(f.p _ _).trans C.1.1, (f.i _ _ (D8i_f (by omega) (by omega))).trans C.1.2⟩, fun i hi => (k _ _ (by omega)).trans (C.2.1 i hi), ⟨(k _ _ (by omega)).trans C.2.2.1.1, (k _ _ (by omega)).trans C.2.2.1.2.1, (k _ _ (by omega)).trans C.2.2.1.2.2⟩, fun c hc => ?_, fun c hc => ?_⟩
  · have := C.2.2.2.1 c hc
    exact ⟨(k _ _ (by omega)).trans this.1, (k _ _ (by omega)).trans this.2.1, (k _ _ (by omega)).trans this.2.2.1, (k _ _ (by omega)).trans this.2.2.2.1, (k _ _ (by omega)).trans this.2.2.2.2⟩
  · have := C.2.2.2.2 c hc
    exact ⟨(k _ _ (by omega)).trans this.1, (k _ _ (by omega)).trans this.2⟩
def ac_S (S : mj_S) (q c : Nat) (v : Nat → Int32) : mj_S := m_si (m_si (m_si (m_si (m_si (m_si (m_si S (q + 1) c (v 0)) (q + 3) c (v 1)) (q + 4) c (v 2)) (q + 6) c (v 3)) (q + 5) c (v 4)) q 14 (m_gi S q 14 ||| (v 5 <<< (nI c &&& 31)))) q 7 (nI (c + 1))
theorem s_addCurtain {c : Nat} {v : Nat → Int32} {Q : mj_S → Prop} (hs : Sh L S) (hq : isQ q) (hc : c < 10) (e7 : m_gi S q 7 = nI c) (hv : ∀ k, k < 6 → m_gi S 19 (4 + k) = v k) (h : ∀ S', S' = ac_S S q c v → Q S') : M_X6_addCurtain l G q 19 S Q := by
  have hr := hq.rm
  have h32 : 32 ≤ q ∧ q ≤ 41 := by rcases hq with e | e <;> omega
  have v0 := hv 0 (by omega)
  have v1 := hv 1 (by omega)
  have v2 := hv 2 (by omega)
  have v3 := hv 3 (by omega)
  have v4 := hv 4 (by omega)
  have v5 := hv 5 (by omega)
  simp only [Nat.reduceAdd] at v0 v1 v2 v3 v4 v5
  refine e_X6_addCurtain (b_X6_addCurtain_0 (hs.rk hr) hs.k19 ⟨fun _ => ⟨q + 1, hs.rp8 hr, ?_⟩, fun z => absurd (by rw [e7]; exact nI_lt (b := 10) hc (by omega)) z⟩)
  have c4 : (4 : Int32).toNatClampNeg = 4 := by decide
  have c5 : (5 : Int32).toNatClampNeg = 5 := by decide
  have c6 : (6 : Int32).toNatClampNeg = 6 := by decide
  have c7 : (7 : Int32).toNatClampNeg = 7 := by decide
  have c8 : (8 : Int32).toNatClampNeg = 8 := by decide
  have c9 : (9 : Int32).toNatClampNeg = 9 := by decide
  have hin : vp_in (nI c) 10 := vp_nI hc (by omega)
  have g4 : vp_in (4 : Int32) 12 := vp_nI (p := 4) (by omega) (by omega)
  have g5 : vp_in (5 : Int32) 12 := vp_nI (p := 5) (by omega) (by omega)
  have g6 : vp_in (6 : Int32) 12 := vp_nI (p := 6) (by omega) (by omega)
  have g7 : vp_in (7 : Int32) 12 := vp_nI (p := 7) (by omega) (by omega)
  have g8 : vp_in (8 : Int32) 12 := vp_nI (p := 8) (by omega) (by omega)
  have g9 : vp_in (9 : Int32) 12 := vp_nI (p := 9) (by omega) (by omega)
  have cc : (nI c).toNatClampNeg = c := nI_clamp (by omega)
  rw [e7, c4, hs.l19, hs.rl8 hr, cc, v0]
  refine ⟨g4, hin, fun S2 e2 => ?_⟩
  have f2 : fr (D8 q) S S2 := by rw [e2]; exact fr.si (D8_t (by omega))
  have hs2 := hs.fr f2
  have i2 : m_gi S2 q 7 = nI c := by rw [e2, m_gi_si, if_neg (by omega)]; exact e7
  rw [i2, c5, hs2.l19, cc, show m_gi S2 19 5 = v 1 from by rw [e2, m_gi_si, if_neg (by omega)]; exact v1, hs2.rp10 hr]
  refine ⟨q + 3, rfl, g5, by rw [hs2.rl10 hr]; exact hin, fun S4 e4 => ?_⟩
  have f4 : fr (D8 q) S S4 := f2.tr (by rw [e4]; exact fr.si (D8_t (by omega)))
  have hs4 := hs.fr f4
  have i4 : m_gi S4 q 7 = nI c := by rw [e4, m_gi_si, if_neg (by omega)]; exact i2
  rw [i4, c6, hs4.l19, cc, show m_gi S4 19 6 = v 2 from by rw [e4, m_gi_si, if_neg (by omega), e2, m_gi_si, if_neg (by omega)]; exact v2, hs4.rp11 hr]
  refine ⟨q + 4, rfl, g6, by rw [hs4.rl11 hr]; exact hin, fun S6 e6 => ?_⟩
  have f6 : fr (D8 q) S S6 := f4.tr (by rw [e6]; exact fr.si (D8_t (by omega)))
  have hs6 := hs.fr f6
  have i6 : m_gi S6 q 7 = nI c := by rw [e6, m_gi_si, if_neg (by omega)]; exact i4
  rw [i6, c7, hs6.l19, cc, show m_gi S6 19 7 = v 3 from by rw [e6, m_gi_si, if_neg (by omega), e4, m_gi_si, if_neg (by omega), e2, m_gi_si, if_neg (by omega)]; exact v3, hs6.rp13 hr]
  refine ⟨q + 6, rfl, g7, by rw [hs6.rl13 hr]; exact hin, fun S8 e8 => ?_⟩
  have f8 : fr (D8 q) S S8 := f6.tr (by rw [e8]; exact fr.si (D8_t (by omega)))
  have hs8 := hs.fr f8
  have i8 : m_gi S8 q 7 = nI c := by rw [e8, m_gi_si, if_neg (by omega)]; exact i6
  rw [i8, c8, hs8.l19, cc, show m_gi S8 19 8 = v 4 from by rw [e8, m_gi_si, if_neg (by omega), e6, m_gi_si, if_neg (by omega), e4, m_gi_si, if_neg (by omega), e2, m_gi_si, if_neg (by omega)]; exact v4, hs8.rp12 hr]
  refine ⟨q + 5, rfl, g8, by rw [hs8.rl12 hr]; exact hin, fun S10 e10 => ?_⟩
  have f10 : fr (D8 q) S S10 := f8.tr (by rw [e10]; exact fr.si (D8_t (by omega)))
  have hs10 := hs.fr f10
  have i10 : m_gi S10 q 7 = nI c := by rw [e10, m_gi_si, if_neg (by omega)]; exact i8
  have j10 : m_gi S10 q 14 = m_gi S q 14 := by rw [e10, m_gi_si, if_neg (by omega), e8, m_gi_si, if_neg (by omega), e6, m_gi_si, if_neg (by omega), e4, m_gi_si, if_neg (by omega), e2, m_gi_si, if_neg (by omega)]
  rw [i10, c9, hs10.l19, j10, show m_gi S10 19 9 = v 5 from by rw [e10, m_gi_si, if_neg (by omega), e8, m_gi_si, if_neg (by omega), e6, m_gi_si, if_neg (by omega), e4, m_gi_si, if_neg (by omega), e2, m_gi_si, if_neg (by omega)]; exact v5]
  refine ⟨g9, fun S11 e11 S12 e12 => h S12 ?_⟩
  rw [e12, e11, m_gi_si, if_neg (by omega), i10, nI_1, e10, e8, e6, e4, e2]
  rfl
def ap_S (S : mj_S) (q c : Nat) (v : Nat → Int32) : mj_S := m_si (m_si (m_si S (q + 8) c (v 0)) (q + 7) c (v 1)) q 15 (nI (c + 1))
theorem s_addPerson {c : Nat} {v : Nat → Int32} {Q : mj_S → Prop} (hs : Sh L S) (hq : isQ q) (hc : c < 6) (e7 : m_gi S q 15 = nI c) (hv : ∀ k, k < 2 → m_gi S 19 (10 + k) = v k) (h : ∀ S', S' = ap_S S q c v → Q S') : M_X6_addPerson l G q 19 S Q := by
  have hr := hq.rm
  have h32 : 32 ≤ q ∧ q ≤ 41 := by rcases hq with e | e <;> omega
  have v0 := hv 0 (by omega)
  have v1 := hv 1 (by omega)
  simp only [Nat.reduceAdd] at v0 v1
  refine e_X6_addPerson (b_X6_addPerson_0 (hs.rk hr) hs.k19 ⟨fun _ => ⟨q + 8, hs.rp17 hr, ?_⟩, fun z => absurd (by rw [e7]; exact nI_lt (b := 6) hc (by omega)) z⟩)
  have c4 : (10 : Int32).toNatClampNeg = 10 := by decide
  have c5 : (11 : Int32).toNatClampNeg = 11 := by decide
  have hin : vp_in (nI c) 6 := vp_nI hc (by omega)
  have g4 : vp_in (10 : Int32) 12 := vp_nI (p := 10) (by omega) (by omega)
  have g5 : vp_in (11 : Int32) 12 := vp_nI (p := 11) (by omega) (by omega)
  have cc : (nI c).toNatClampNeg = c := nI_clamp (by omega)
  rw [e7, c4, hs.l19, hs.rl17 hr, cc, v0]
  refine ⟨g4, hin, fun S2 e2 => ?_⟩
  have f2 : fr (D8 q) S S2 := by rw [e2]; exact fr.si (D8_t (by omega))
  have hs2 := hs.fr f2
  have i2 : m_gi S2 q 15 = nI c := by rw [e2, m_gi_si, if_neg (by omega)]; exact e7
  rw [i2, c5, hs2.l19, cc, show m_gi S2 19 11 = v 1 from by rw [e2, m_gi_si, if_neg (by omega)]; exact v1, hs2.rp16 hr]
  refine ⟨q + 7, rfl, g5, by rw [hs2.rl16 hr]; exact hin, fun S4 e4 S5 e5 => h S5 ?_⟩
  rw [e5, e4, m_gi_si, if_neg (by omega), i2, nI_1, e2]
  rfl
def sr_S (S : mj_S) (q : Nat) (v : Nat → Int32) : mj_S := m_si (m_si (m_si (m_si S q 0 (v 0)) q 1 (v 1)) q 2 (v 2)) q 3 (v 3)
theorem s_setRules {u : Nat} {v : Nat → Int32} {Q : mj_S → Prop} (hs : Sh L S) (hq : isQ q) (hu : u = 3 ∨ u = 19) (hv : ∀ k, k < 4 → m_gi S u k = v k) (h : ∀ S', S' = sr_S S q v → Q S') : M_X6_setRules l G q u S Q := by
  have hr := hq.rm
  have h32 : 32 ≤ q ∧ q ≤ 41 := by rcases hq with e | e <;> omega
  have hku : m_kd S u = 100 ∨ m_kd S u = 110 := by
    rcases hu with e | e <;> subst e
    · exact Or.inr hs.k3
    · exact Or.inl hs.k19
  have hlu : ∀ S', fr (D8 q) S S' → m_ln S' u = 12 := by
    intro S' f
    have := hs.fr f
    rcases hu with e | e <;> subst e
    · exact this.l3
    · exact this.l19
  refine e_X6_setRules (b_X6_setRules_0 (hs.rk hr) hku ?_)
  have c0 : (0 : Int32).toNatClampNeg = 0 := by decide
  have c1 : (1 : Int32).toNatClampNeg = 1 := by decide
  have c2 : (2 : Int32).toNatClampNeg = 2 := by decide
  have c3 : (3 : Int32).toNatClampNeg = 3 := by decide
  rw [c0, hlu S fr.rf, hv 0 (by omega)]
  refine ⟨vp_nI (p := 0) (by omega) (by omega), fun S1 e1 => ?_⟩
  have f1 : fr (D8 q) S S1 := by rw [e1]; exact fr.si (D8_t (by omega))
  rw [c1, hlu S1 f1, show m_gi S1 u 1 = v 1 from by rw [e1, m_gi_si, if_neg (by omega)]; exact hv 1 (by omega)]
  refine ⟨vp_nI (p := 1) (by omega) (by omega), fun S2 e2 => ?_⟩
  have f2 : fr (D8 q) S S2 := f1.tr (by rw [e2]; exact fr.si (D8_t (by omega)))
  rw [c2, hlu S2 f2, show m_gi S2 u 2 = v 2 from by rw [e2, m_gi_si, if_neg (by omega), e1, m_gi_si, if_neg (by omega)]; exact hv 2 (by omega)]
  refine ⟨vp_nI (p := 2) (by omega) (by omega), fun S3 e3 => ?_⟩
  have f3 : fr (D8 q) S S3 := f2.tr (by rw [e3]; exact fr.si (D8_t (by omega)))
  rw [c3, hlu S3 f3, show m_gi S3 u 3 = v 3 from by rw [e3, m_gi_si, if_neg (by omega), e2, m_gi_si, if_neg (by omega), e1, m_gi_si, if_neg (by omega)]; exact hv 3 (by omega)]
  exact ⟨vp_nI (p := 3) (by omega) (by omega), fun S4 e4 => h S4 (by rw [e4, e3, e2, e1]; rfl)⟩
end CR
