/-! the reference takes a room -/
section TK
variable {l : Launch} {G : mj_G} {L : Nat} {n : Nat} {t : Nat → Nat}
theorem s_readRoom {S : mj_S} {Q : mj_S → Int32 → Prop} (hs : Sh L S) (hn : n ≤ 240) (e2 : m_gi S 89 2 = nI n) (ht : ∀ i, i < n → m_gi S 90 i = nI (t i)) (htw : ∀ i, i < n → t i < 256) (h0 : ∀ j, rdr t n 18 p_0 0 = .inl j → ∀ S', fr D100 S S' → Q S' (nI j)) (h1 : ∀ s', rdr t n 18 p_0 0 = .inr s' → p_wf s' → p_ok s' → ∀ S', fr D100 S S' → RP S' s' → Q S' (-1)) : M_X11_readRoom l G 89 S Q := by
  refine e_X11_readRoom (b_X11_readRoom_0 hs.k89 (fun S1 e1 S2 e2' S3 e3 S4 e4 => ?_))
  have f4 : fr D100 S S4 := by rw [e4, e3, e2', e1]; exact (((fr.si (D100_t (by omega))).tr (fr.si (D100_t (by omega)))).tr (fr.si (D100_t (by omega)))).tr (fr.si (D100_t (by omega)))
  have i4 : ∀ a j, ¬ (a = 89 ∧ (j = 3 ∨ j = 4 ∨ j = 20 ∨ j = 21)) → m_gi S4 a j = m_gi S a j := fun a j h => by rw [e4, m_gi_si, if_neg (by omega), e3, m_gi_si, if_neg (by omega), e2', m_gi_si, if_neg (by omega), e1, m_gi_si, if_neg (by omega)]
  have key : ∀ k i (S5 : mj_S), k + i = 4 → fr D100 S S5 → (∀ j, m_gi S5 89 j = m_gi S4 89 j) → (∀ j, m_gi S5 90 j = m_gi S 90 j) → (∀ j, j < i → m_gi S5 100 j = nI (tb US j)) → V_X11_readRoom_24 l G 89 0 (nI i) S5 Q := by
    intro k
    induction k with
    | zero =>
      intro i S5 ek f5 g1 g2 g3
      have hs5 := hs.fr f5
      have e : i = 4 := by omega
      rw [e]
      refine b_X11_readRoom_24 hs5.k89 ⟨fun _ => ?_, fun z => absurd (by decide) z⟩
      refine s_rr49 (t := t) (n := n) 18 p_0 0 S5 Q rfl p_0_wf hs5 ?_ ?_ ?_ (fun j ej S' f' => h0 j ej S' (f5.tr f')) (fun s' es a b S' f' => h1 s' es a b S' (f5.tr f'))
      · refine ⟨⟨?_, ?_⟩, fun k hk => g3 k (by omega), fun c hc => absurd hc (Nat.not_lt_zero c), fun c hc => absurd hc (Nat.not_lt_zero c)⟩
        · rw [g1, e4, m_gi_si, if_neg (by omega), e3, m_gi_si, if_pos ⟨rfl, rfl⟩]; rfl
        · rw [g1, e4, m_gi_si, if_pos ⟨rfl, rfl⟩]; rfl
      · refine ⟨⟨hs5.k89, hs5.l90, hs5.p89_1⟩, ?_, ?_, Nat.zero_le _, hn, fun i hi => (g2 i).trans (ht i hi), htw⟩
        · rw [g1, i4 _ _ (by omega)]; exact e2
        · rw [g1, e4, m_gi_si, if_neg (by omega), e3, m_gi_si, if_neg (by omega), e2', m_gi_si, if_neg (by omega), e1, m_gi_si, if_pos ⟨rfl, rfl⟩]; rfl
      · rw [g1, e4, m_gi_si, if_neg (by omega), e3, m_gi_si, if_neg (by omega), e2', m_gi_si, if_pos ⟨rfl, rfl⟩]
    | succ k ih =>
      intro i S5 ek f5 g1 g2 g3
      have hs5 := hs.fr f5
      refine b_X11_readRoom_24 hs5.k89 ⟨fun z => absurd z (nI_ge (b := 4) (by omega) (by omega)), fun _ => ⟨100, hs5.p89_17, ?_⟩⟩
      refine s_usual (sg := 115) (f := 0) (m := 4) (Or.inl ⟨rfl, rfl, rfl⟩) (by omega) ?_
      rw [hs5.l100, nI_clamp (by omega), Nat.zero_add, nI_1]
      refine ⟨vp_nI (by omega) (by omega), fun S6 e6 v5 e5 => ?_⟩
      rw [e5]
      refine ih (i + 1) S6 (by omega) (f5.tr (by rw [e6]; exact fr.si (D100_t (by omega)))) (fun j => ?_) (fun j => ?_) (fun j hj => ?_)
      · rw [e6, m_gi_si, if_neg (by omega)]; exact g1 j
      · rw [e6, m_gi_si, if_neg (by omega)]; exact g2 j
      · rw [e6, m_gi_si]
        by_cases e : j = i
        · rw [if_pos ⟨rfl, e⟩, e]
        · rw [if_neg (by omega)]; exact g3 j (by omega)
  exact key 4 0 S4 rfl f4 (fun _ => rfl) (fun j => i4 _ _ (by omega)) (fun j hj => by omega)
end TK
/-- what taking a room may change -/
def Dtk (a j : Nat) : Bool := (Nat.beq a 89 && ((Nat.ble 25 j && Nat.ble j 27) || (Nat.beq j 37 || (Nat.beq j 44 || Nat.beq j 46)))) || (Nat.ble 103 a && (Nat.ble a 109 && !Nat.beq a 107))
theorem Dtk_f {a j : Nat} (h1 : ¬ (a = 89 ∧ (25 ≤ j ∧ j ≤ 27 ∨ j = 37 ∨ j = 44 ∨ j = 46))) (h2 : a < 103 ∨ 109 < a ∨ a = 107) : Dtk a j = false := by
  rw [← Bool.not_eq_true]
  intro z
  unfold Dtk at z
  simp only [Bool.or_eq_true, Bool.and_eq_true, Nat.beq_eq, Nat.ble_eq, Bool.not_eq_true', ← Bool.not_eq_true] at z
  omega
theorem Dtk_t {a j : Nat} (h : (a = 89 ∧ (25 ≤ j ∧ j ≤ 27 ∨ j = 37 ∨ j = 44 ∨ j = 46)) ∨ (103 ≤ a ∧ a ≤ 109 ∧ a ≠ 107)) : Dtk a j = true := by
  unfold Dtk
  simp only [Bool.or_eq_true, Bool.and_eq_true, Nat.beq_eq, Nat.ble_eq, Bool.not_eq_true', ← Bool.not_eq_true]
  exact h
section TK2
variable {l : Launch} {G : mj_G} {L : Nat} {s : ps}
/-- a loop that copies b to a -/
theorem s_tk60 {S : mj_S} {Q : mj_S → Int32 → Prop} : ∀ (k i : Nat) (S' : mj_S), k + i = 60 → Sh L S' → fr Dtk S S' → (∀ a j, a ≠ 104 → m_gi S' a j = m_gi S a j) → (∀ j, j < i → m_gi S' 104 j = m_gi S 101 j) → (∀ S2, Sh L S2 → fr Dtk S S2 → (∀ a j, a ≠ 104 → m_gi S2 a j = m_gi S a j) → (∀ j, j < 60 → m_gi S2 104 j = m_gi S 101 j) → V_X11_takeRoom_86 l G 89 0 S2 Q) → V_X11_takeRoom_60 l G 89 (nI i) S' Q
  | 0, i, S', ek, hs, f, g1, g2, h => by
    have e : i = 60 := by omega
    rw [e] at g2 ⊢
    exact b_X11_takeRoom_60 hs.k89 ⟨fun _ => h S' hs f g1 g2, fun z => absurd (by decide) z⟩
  | k + 1, i, S', ek, hs, f, g1, g2, h => by
    refine b_X11_takeRoom_60 hs.k89 ⟨fun z => absurd z (nI_ge (b := 60) (by omega) (by omega)), fun _ => ⟨104, hs.p89_23, 101, hs.p89_18, ?_⟩⟩
    rw [hs.l104, hs.l101, nI_clamp (by omega), nI_1, g1 101 i (by omega)]
    refine ⟨vp_nI (by omega) (by omega), vp_nI (by omega) (by omega), fun S3 e3 v4 e4 => ?_⟩
    have f3 : fr Dtk S' S3 := by rw [e3]; exact fr.si (Dtk_t (by omega))
    rw [e4]
    refine s_tk60 k (i + 1) S3 (by omega) (hs.fr f3) (f.tr f3) (fun a j ha => ?_) (fun j hj => ?_) h
    · rw [e3, m_gi_si, if_neg (by omega)]; exact g1 a j ha
    · rw [e3, m_gi_si]
      by_cases e : j = i
      · rw [if_pos ⟨rfl, e⟩, e]
      · rw [if_neg (by omega)]; exact g2 j (by omega)
theorem s_tk86 {S : mj_S} {Q : mj_S → Int32 → Prop} : ∀ (k i : Nat) (S' : mj_S), k + i = 12 → Sh L S' → fr Dtk S S' → (∀ a j, a ≠ 105 → m_gi S' a j = m_gi S a j) → (∀ j, j < i → m_gi S' 105 j = m_gi S 102 j) → (∀ S2, Sh L S2 → fr Dtk S S2 → (∀ a j, a ≠ 105 → m_gi S2 a j = m_gi S a j) → (∀ j, j < 12 → m_gi S2 105 j = m_gi S 102 j) → V_X11_takeRoom_112 l G 89 0 S2 Q) → V_X11_takeRoom_86 l G 89 (nI i) S' Q
  | 0, i, S', ek, hs, f, g1, g2, h => by
    have e : i = 12 := by omega
    rw [e] at g2 ⊢
    exact b_X11_takeRoom_86 hs.k89 ⟨fun _ => h S' hs f g1 g2, fun z => absurd (by decide) z⟩
  | k + 1, i, S', ek, hs, f, g1, g2, h => by
    refine b_X11_takeRoom_86 hs.k89 ⟨fun z => absurd z (nI_ge (b := 12) (by omega) (by omega)), fun _ => ⟨105, hs.p89_24, 102, hs.p89_19, ?_⟩⟩
    rw [hs.l105, hs.l102, nI_clamp (by omega), nI_1, g1 102 i (by omega)]
    refine ⟨vp_nI (by omega) (by omega), vp_nI (by omega) (by omega), fun S3 e3 v4 e4 => ?_⟩
    have f3 : fr Dtk S' S3 := by rw [e3]; exact fr.si (Dtk_t (by omega))
    rw [e4]
    refine s_tk86 k (i + 1) S3 (by omega) (hs.fr f3) (f.tr f3) (fun a j ha => ?_) (fun j hj => ?_) h
    · rw [e3, m_gi_si, if_neg (by omega)]; exact g1 a j ha
    · rw [e3, m_gi_si]
      by_cases e : j = i
      · rw [if_pos ⟨rfl, e⟩, e]
      · rw [if_neg (by omega)]; exact g2 j (by omega)
theorem s_tk112 {S : mj_S} {Q : mj_S → Int32 → Prop} : ∀ (k i : Nat) (S' : mj_S), k + i = 199 → Sh L S' → fr Dtk S S' → (∀ a j, a ≠ 106 → m_gi S' a j = m_gi S a j) → (∀ j, j < i → m_gi S' 106 j = 0) → (∀ S2, Sh L S2 → fr Dtk S S2 → (∀ a j, a ≠ 106 → m_gi S2 a j = m_gi S a j) → (∀ j, j < 199 → m_gi S2 106 j = 0) → V_X11_takeRoom_134 l G 89 0 S2 Q) → V_X11_takeRoom_112 l G 89 (nI i) S' Q
  | 0, i, S', ek, hs, f, g1, g2, h => by
    have e : i = 199 := by omega
    rw [e] at g2 ⊢
    exact b_X11_takeRoom_112 hs.k89 ⟨fun _ => h S' hs f g1 g2, fun z => absurd (by decide) z⟩
  | k + 1, i, S', ek, hs, f, g1, g2, h => by
    refine b_X11_takeRoom_112 hs.k89 ⟨fun z => absurd z (nI_ge (b := 199) (by omega) (by omega)), fun _ => ⟨106, hs.p89_28, ?_⟩⟩
    rw [hs.l106, nI_clamp (by omega), nI_1]
    refine ⟨vp_nI (by omega) (by omega), fun S3 e3 v4 e4 => ?_⟩
    have f3 : fr Dtk S' S3 := by rw [e3]; exact fr.si (Dtk_t (by omega))
    rw [e4]
    refine s_tk112 k (i + 1) S3 (by omega) (hs.fr f3) (f.tr f3) (fun a j ha => ?_) (fun j hj => ?_) h
    · rw [e3, m_gi_si, if_neg (by omega)]; exact g1 a j ha
    · rw [e3, m_gi_si]
      by_cases e : j = i
      · rw [if_pos ⟨rfl, e⟩]
      · rw [if_neg (by omega)]; exact g2 j (by omega)
end TK2
