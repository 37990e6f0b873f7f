/-! does all that was told stand together: the class -/
def Dst (q : Nat) (a j : Nat) : Bool := (Nat.beq a q && (Nat.ble 4 j && Nat.ble j 6)) || Nat.beq a (q + 2)
theorem Dst_f {q a j : Nat} (h1 : ¬ (a = q ∧ 4 ≤ j ∧ j ≤ 6)) (h2 : a ≠ q + 2) : Dst q a j = false := by
  rw [← Bool.not_eq_true]
  intro z
  unfold Dst at z
  rw [Bool.or_eq_true, Bool.and_eq_true, Bool.and_eq_true, Nat.beq_eq, Nat.beq_eq, Nat.ble_eq, Nat.ble_eq] at z
  omega
theorem Dst_t {q j : Nat} (h : 4 ≤ j ∧ j ≤ 6) : Dst q q j = true := by
  unfold Dst
  rw [Bool.or_eq_true, Bool.and_eq_true, Bool.and_eq_true, Nat.beq_eq, Nat.beq_eq, Nat.ble_eq, Nat.ble_eq]
  omega
theorem Dst_t2 {q j : Nat} : Dst q (q + 2) j = true := by
  unfold Dst
  rw [Bool.or_eq_true, Nat.beq_eq]
  exact Or.inr rfl
theorem Dst_8 {q : Nat} {S S' : mj_S} (f : fr (Dst q) S S') : fr (D8 q) S S' := f.wid (fun a j h => by
  unfold D8 at h
  rw [Bool.or_eq_false_iff, Bool.or_eq_false_iff, ← Bool.not_eq_true, ← Bool.not_eq_true, ← Bool.not_eq_true, Bool.and_eq_true, Nat.ble_eq, Nat.ble_eq] at h
  exact Dst_f (by omega) (by omega))
def D56 (q : Nat) (a j : Nat) : Bool := Nat.beq a q && (Nat.beq j 5 || Nat.beq j 6)
theorem D56_f {q a j : Nat} (h1 : ¬ (a = q ∧ (j = 5 ∨ j = 6))) : D56 q a j = false := by
  rw [← Bool.not_eq_true]
  intro z
  unfold D56 at z
  rw [Bool.and_eq_true, Bool.or_eq_true, Nat.beq_eq, Nat.beq_eq, Nat.beq_eq] at z
  exact h1 z
theorem D56_t {q j : Nat} (h : j = 5 ∨ j = 6) : D56 q q j = true := by
  unfold D56
  rw [Bool.and_eq_true, Bool.or_eq_true, Nat.beq_eq, Nat.beq_eq, Nat.beq_eq]
  exact ⟨rfl, h⟩
theorem D56_st {q : Nat} {S S' : mj_S} (f : fr (D56 q) S S') : fr (Dst q) S S' := f.wid (fun a j h => by
  apply D56_f
  intro z
  rw [z.1, Dst_t (by omega)] at h
  cases h)
def pw (w q : Nat) : Bool := decide (q % w + 1 < w)
def pd (w h q : Nat) : Bool := decide (q + w < w * h)
section ST
variable {l : Launch} {G : mj_G} {L : Nat} {q : Nat} {s : ps}
theorem CP.fs {S S' : mj_S} (C : CP S q s) (hq : isQ q) (f : fr (Dst q) S S') : CP S' q s := by
  have hb := hq.b
  refine ⟨⟨(f.p _ _).trans C.1.1, (f.i _ _ (Dst_f (by omega) (by omega))).trans C.1.2⟩, fun i hi => (f.i _ _ (Dst_f (by omega) (by omega))).trans (C.2.1 i hi), ⟨(f.i _ _ (Dst_f (by omega) (by omega))).trans C.2.2.1.1, (f.i _ _ (Dst_f (by omega) (by omega))).trans C.2.2.1.2.1, (f.i _ _ (Dst_f (by omega) (by omega))).trans C.2.2.1.2.2⟩, fun c hc => ?_, fun c hc => ?_⟩
  · have := C.2.2.2.1 c hc
    exact ⟨(f.i _ _ (Dst_f (by omega) (by omega))).trans this.1, (f.i _ _ (Dst_f (by omega) (by omega))).trans this.2.1, (f.i _ _ (Dst_f (by omega) (by omega))).trans this.2.2.1, (f.i _ _ (Dst_f (by omega) (by omega))).trans this.2.2.2.1, (f.i _ _ (Dst_f (by omega) (by omega))).trans this.2.2.2.2⟩
  · have := C.2.2.2.2 c hc
    exact ⟨(f.i _ _ (Dst_f (by omega) (by omega))).trans this.1, (f.i _ _ (Dst_f (by omega) (by omega))).trans this.2⟩
def LSi (S : mj_S) (q w h i : Nat) : Prop := m_gi S q 0 = nI w ∧ m_gi S q 1 = nI h ∧ m_gi S q 5 = bs i (pw w) ∧ m_gi S q 6 = bs i (pd w h)
theorem s_ls35 {w h : Nat} (hq : isQ q) (hw : w ≤ 5) (hw0 : 1 ≤ w) (hh : h ≤ 4) {row : Nat} (hrow : row < h) : ∀ (k col : Nat) (S : mj_S) (Q : mj_S → Prop), k + col = w → Sh L S → LSi S q w h (row * w + col) → (∀ S', fr (D56 q) S S' → LSi S' q w h ((row + 1) * w) → V_X6_laySquares_25 l G q (nI (row + 1)) S' Q) → V_X6_laySquares_35 l G q (nI row) (nI col) S Q
  | 0, col, S, Q, ek, hs, I, h1 => by
    refine b_X6_laySquares_35 (hs.rk hq.rm) ?_
    rw [I.1, nI_1]
    refine ⟨fun _ v1 e1 => ?_, fun z => absurd (nI_le (by omega) (by omega)) z⟩
    rw [e1]
    refine h1 S fr.rf ?_
    rw [show (row + 1) * w = row * w + col by rw [Nat.add_mul, Nat.one_mul]; omega]
    exact I
  | k + 1, col, S, Q, ek, hs, I, h1 => by
    have hi : row * w + col < 20 := by
      have a1 : (row + 1) * w ≤ h * w := Nat.mul_le_mul_right w hrow
      have a2 : h * w ≤ 4 * 5 := Nat.mul_le_mul hh hw
      rw [Nat.add_mul, Nat.one_mul] at a1
      omega
    have emod : (row * w + col) % w = col := by
      rw [Nat.add_comm, Nat.add_mul_mod_self_right, Nat.mod_eq_of_lt (by omega)]
    have epw : pw w (row * w + col) = decide (col + 1 < w) := by unfold pw; rw [emod]
    have epd : pd w h (row * w + col) = decide (row + 1 < h) := by
      unfold pd
      by_cases e : row + 1 < h
      · rw [decide_eq_true e, decide_eq_true]
        have a1 : (row + 2) * w ≤ h * w := Nat.mul_le_mul_right w e
        rw [Nat.add_mul, Nat.mul_comm h w] at a1
        omega
      · rw [decide_eq_false e, decide_eq_false]
        have a1 : h * w ≤ (row + 1) * w := Nat.mul_le_mul_right w (by omega)
        rw [Nat.add_mul, Nat.one_mul, Nat.mul_comm h w] at a1
        omega
    refine b_X6_laySquares_35 (hs.rk hq.rm) ?_
    rw [I.1, I.2.2.1, nI_mul, nI_add, nI_1]
    refine ⟨fun z => absurd z (nI_ge (by omega) (by omega)), fun _ v2 e2 => ?_⟩
    have step : ∀ y : Int32, (bs (row * w + col) (pw w) ||| y = bs (row * w + col + 1) (pw w)) → V_X6_laySquares_74 l G q (nI row) (nI col) v2 q (bs (row * w + col) (pw w)) y S Q := by
      intro y ey
      refine b_X6_laySquares_74 (hs.rk hq.rm) (hs.rk hq.rm) (fun S1 e1 => ?_)
      have f1 : fr (D56 q) S S1 := by rw [e1]; exact fr.si (D56_t (Or.inl rfl))
      have g0 : m_gi S1 q 0 = nI w := by rw [e1, m_gi_si, if_neg (by omega)]; exact I.1
      have g1 : m_gi S1 q 1 = nI h := by rw [e1, m_gi_si, if_neg (by omega)]; exact I.2.1
      have g5 : m_gi S1 q 5 = bs (row * w + col + 1) (pw w) := by rw [e1, m_gi_si, if_pos ⟨rfl, rfl⟩]; exact ey
      have g6 : m_gi S1 q 6 = bs (row * w + col) (pd w h) := by rw [e1, m_gi_si, if_neg (by omega)]; exact I.2.2.2
      have fin : ∀ z : Int32, (bs (row * w + col) (pd w h) ||| z = bs (row * w + col + 1) (pd w h)) → ∀ S2 : mj_S, S2 = m_si S1 q 6 (m_gi S1 q 6 ||| z) → ∀ v3 : Int32, v3 = nI col + 1 → V_X6_laySquares_35 l G q (nI row) v3 S2 Q := by
        intro z ez S2 e2 v3 e3
        have f2 : fr (D56 q) S S2 := f1.tr (by rw [e2]; exact fr.si (D56_t (Or.inr rfl)))
        rw [e3, nI_1]
        refine s_ls35 hq hw hw0 hh hrow k (col + 1) S2 Q (by omega) (hs.fr f2) ⟨?_, ?_, ?_, ?_⟩ (fun S' f' => h1 S' (f2.tr f'))
        · rw [e2, m_gi_si, if_neg (by omega)]; exact g0
        · rw [e2, m_gi_si, if_neg (by omega)]; exact g1
        · rw [e2, m_gi_si, if_neg (by omega)]; exact g5
        · rw [e2, m_gi_si, if_pos ⟨rfl, rfl⟩, g6]; exact ez
      rw [g1]
      refine ⟨fun z => fin 0 ?_, fun z => fin v2 ?_⟩
      · rw [nI_1, nI_leI (by omega) (by omega)] at z
        exact (bs_s0' (by rw [epd, decide_eq_false (by omega)]; decide)).symm
      · rw [nI_1, nI_leI (by omega) (by omega)] at z
        rw [e2]
        exact (bs_s1 (by rw [epd]; exact decide_eq_true (by omega))).symm
    refine ⟨fun z => step 0 ?_, fun z => step v2 ?_⟩
    · rw [nI_1, nI_leI (by omega) (by omega)] at z
      exact (bs_s0' (by rw [epw, decide_eq_false (by omega)]; decide)).symm
    · rw [nI_1, nI_leI (by omega) (by omega)] at z
      rw [e2]
      exact (bs_s1 (by rw [epw]; exact decide_eq_true (by omega))).symm
theorem s_ls25 {w h : Nat} (hq : isQ q) (hw : w ≤ 5) (hw0 : 1 ≤ w) (hh : h ≤ 4) : ∀ (k row : Nat) (S : mj_S) (Q : mj_S → Prop), k + row = h → Sh L S → LSi S q w h (row * w) → (∀ S', fr (D56 q) S S' → LSi S' q w h (h * w) → Q S') → V_X6_laySquares_25 l G q (nI row) S Q
  | 0, row, S, Q, ek, hs, I, h1 => by
    refine b_X6_laySquares_25 (hs.rk hq.rm) ?_
    rw [I.2.1]
    refine ⟨fun _ => h1 S fr.rf (by rw [show h = row by omega] at I ⊢; exact I), fun z => absurd (nI_le (by omega) (by omega)) z⟩
  | k + 1, row, S, Q, ek, hs, I, h1 => by
    refine b_X6_laySquares_25 (hs.rk hq.rm) ?_
    rw [I.2.1]
    refine ⟨fun z => absurd z (nI_ge (by omega) (by omega)), fun _ => ?_⟩
    exact s_ls35 hq hw hw0 hh (by omega) w 0 S Q (by omega) hs (by rw [Nat.add_zero]; exact I) (fun S' f' I' => s_ls25 hq hw hw0 hh k (row + 1) S' Q (by omega) (hs.fr f') I' (fun S2 f2 => h1 S2 (f'.tr f2)))
theorem s_laySquares {S : mj_S} {Q : mj_S → Prop} (hs : Sh L S) (hq : isQ q) (hw : p_wf s) (C : CP S q s) (h : ∀ S', fr (Dst q) S S' → m_gi S' q 4 = nI (p_n s) → m_gi S' q 5 = wi (p_R s) → m_gi S' q 6 = de (p_R s) → Q S') : M_X6_laySquares l G q S Q := by
  have hr := hw.ru
  refine e_X6_laySquares (b_X6_laySquares_0 (hs.rk hq.rm) (fun S1 e1 S2 e2 S3 e3 => ?_))
  have f3 : fr (Dst q) S S3 := by
    rw [e3, e2, e1]; exact ((fr.si (Dst_t (by omega))).tr (fr.si (Dst_t (by omega)))).tr (fr.si (Dst_t (by omega)))
  have C3 := C.fs hq f3
  have g4 : m_gi S3 q 4 = nI (p_n s) := by
    rw [e3, m_gi_si, if_neg (by omega), e2, m_gi_si, if_neg (by omega), e1, m_gi_si, if_pos ⟨rfl, rfl⟩, C.2.1 0 (by omega), C.2.1 1 (by omega), nI_mul]; rfl
  refine s_ls25 hq hr.1.2 hr.1.1 hr.2.1.2 (p_ru s 1) 0 S3 Q (by omega) (hs.fr f3) ⟨C3.2.1 0 (by omega), C3.2.1 1 (by omega), ?_, ?_⟩ (fun S' f' I' => ?_)
  · rw [Nat.zero_mul, e3, m_gi_si, if_neg (by omega), e2, m_gi_si, if_pos ⟨rfl, rfl⟩]; rfl
  · rw [Nat.zero_mul, e3, m_gi_si, if_pos ⟨rfl, rfl⟩]; rfl
  · rw [Nat.mul_comm] at I'
    refine h S' (f3.tr (D56_st f')) ((f'.i _ _ (D56_f (by omega))).trans g4) ?_ ?_
    · exact I'.2.2.1
    · exact I'.2.2.2
end ST
