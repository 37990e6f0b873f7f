/-! the class enters the room that it has read -/
def E6 (a j : Nat) : Bool := (Nat.beq a 6 && (Nat.beq j 5 || Nat.beq j 6)) || (Nat.beq a 50 && Nat.beq j 0)
def Den (a j : Nat) : Bool := (Nat.beq a 6 && (Nat.ble 16 j && Nat.ble j 18)) || ((Nat.beq a 50 && (Nat.beq j 3 || Nat.beq j 4)) || ((Nat.beq a 60 || Nat.beq a 61) || (Nat.beq a 74 && (Nat.beq j 0 || Nat.beq j 4))))
theorem Den_f {a j : Nat} (h1 : ¬ (a = 6 ∧ 16 ≤ j ∧ j ≤ 18)) (h2 : ¬ (a = 50 ∧ (j = 3 ∨ j = 4))) (h3 : a ≠ 60 ∧ a ≠ 61) (h4 : ¬ (a = 74 ∧ (j = 0 ∨ j = 4))) : Den a j = false := by
  rw [← Bool.not_eq_true]
  intro z
  unfold Den at z
  simp only [Bool.or_eq_true, Bool.and_eq_true, Nat.beq_eq, Nat.ble_eq] at z
  omega
section EN
variable {l : Launch} {G : mj_G} {L : Nat} {s : ps} {Q : mj_S → Int32 → Prop} {S : mj_S} {r q : Nat}
theorem Sh.fq6 {D : Nat → Nat → Bool} {S' : mj_S} (h : Sh L S) (f : fq D E6 S S') : Sh L S' := by
  refine ⟨f.1.trans h.1, fun x hx => (f.2.2.2 _ _ ?_).trans (h.2 x hx)⟩
  have : ∀ x ∈ PT, E6 x.1.1 x.1.2 = false := by decide +kernel
  exact this x hx
theorem s_enterSpare (hs : Sh L S) (hq : isQ q) (hr : isQ r) (hne : q ≠ r) (p5 : m_gp S 6 5 = some r) (p6 : m_gp S 6 6 = some q) (hw : p_wf s) (ok : p_ok s) (C : CRm S q s) (h : ∀ S', fq Den E6 S S' → CI L S' q 50 q (p_R s) (p_s s) → m_gp S' 6 6 = some r → m_gi S' 74 0 = 0 → m_gi S' 74 4 = 0 → m_gi S' 6 16 = 0 → m_gi S' 6 17 = 0 → m_gi S' 6 18 = 0 → Q S' (nI (p_n s))) : M_X10_enterSpare l G 6 S Q := by
  have hb := hq.b
  have hrb := hr.b
  have nc := hw.1.2
  refine e_X10_enterSpare (b_X10_enterSpare_0 hs.k6 ⟨r, p5, q, p6, fun S3 e3 S4 e4 => ?_⟩)
  have f4 : fq Den E6 S S4 := by
    refine ⟨by rw [e4, e3]; rfl, fun a j _ => by rw [e4, e3]; rfl, fun a j => by rw [e4, e3]; rfl, fun a j z => ?_⟩
    have h0 : ¬ (a = 6 ∧ j = 5) := by rintro ⟨y1, y2⟩; rw [y1, y2] at z; revert z; decide
    have h1 : ¬ (a = 6 ∧ j = 6) := by rintro ⟨y1, y2⟩; rw [y1, y2] at z; revert z; decide
    rw [e4, m_gp_sp, if_neg h1, e3, m_gp_sp, if_neg h0]
  have hs4 := hs.fq6 f4
  have g5 : m_gp S4 6 5 = some q := by rw [e4, m_gp_sp, if_neg (by omega), e3, m_gp_sp, if_pos ⟨rfl, rfl⟩]
  have g6 : m_gp S4 6 6 = some r := by rw [e4, m_gp_sp, if_pos ⟨rfl, rfl⟩]
  have i4 : ∀ a j, m_gi S4 a j = m_gi S a j := fun a j => by rw [e4, e3]; rfl
  refine ⟨50, hs4.p6_7, q, g5, e_X8_enter (b_X8_enter_0 hs4.k50 (hs4.rk hq.rm) (fun S5 e5 => ?_))⟩
  have f5 : fq Den E6 S S5 := by
    refine ⟨by rw [e5]; exact f4.1, fun a j z => by rw [e5, m_gi_sp]; exact f4.2.1 a j z, fun a j => by rw [e5]; exact f4.2.2.1 a j, fun a j z => ?_⟩
    have h0 : ¬ (a = 50 ∧ j = 0) := by rintro ⟨y1, y2⟩; rw [y1, y2] at z; revert z; decide
    rw [e5, m_gp_sp, if_neg h0]; exact f4.2.2.2 a j z
  have hs5 := hs.fq6 f5
  have g50 : m_gp S5 50 0 = some q := by rw [e5, m_gp_sp, if_pos ⟨rfl, rfl⟩]
  have i5 : ∀ a j, m_gi S5 a j = m_gi S a j := fun a j => by rw [e5, m_gi_sp]; exact i4 a j
  have c0 : (0 : Int32).toNatClampNeg = 0 := by decide
  have c10 : (10 : Int32).toNatClampNeg = 10 := by decide
  have c6 : (6 : Int32).toNatClampNeg = 6 := by decide
  refine ⟨q, g50, q + 6, hs5.rp13 hq.rm, 60, hs5.p50_1, ⟨by decide, by decide, by decide, by rw [c0, c10, hs5.rl13 hq.rm]; omega, by rw [c0, c10, hs5.l60]; omega⟩, fun S6 e6 => ?_⟩
  rw [c0, c10] at e6
  have sh6 : Sh L S6 := by rw [e6]; exact hs5
  have gp6 : ∀ a j, m_gp S6 a j = m_gp S5 a j := fun a j => by rw [e6]; rfl
  refine ⟨q, by rw [gp6]; exact g50, q + 8, sh6.rp17 hq.rm, 61, sh6.p50_2, ⟨by decide, by decide, by decide, by rw [c0, c6, sh6.rl17 hq.rm]; omega, by rw [c0, c6, sh6.l61]; omega⟩, fun S9 e9 => ?_⟩
  rw [c0, c6] at e9
  have sh9 : Sh L S9 := by rw [e9]; exact sh6
  have gp9 : ∀ a j, m_gp S9 a j = m_gp S5 a j := fun a j => by rw [e9]; exact gp6 a j
  refine ⟨q, by rw [gp9]; exact g50, fun S11 e11 S12 e12 => ?_⟩
  have sh12 : Sh L S12 := by rw [e12, e11]; exact sh9
  have gp12 : ∀ a j, m_gp S12 a j = m_gp S5 a j := fun a j => by rw [e12, e11]; exact gp9 a j
  refine ⟨74, sh12.p6_9, e_X4_forget (b_X4_forget_0 sh12.k74 (fun S13 e13 S14 e14 S15 e15 S16 e16 S17 e17 => ?_))⟩
  have sh17 : Sh L S17 := by rw [e17, e16, e15, e14, e13]; exact sh12
  have gp17 : ∀ a j, m_gp S17 a j = m_gp S5 a j := fun a j => by rw [e17, e16, e15, e14, e13]; exact gp12 a j
  have gi17 : ∀ a j, m_gi S17 a j = if a = 6 ∧ j = 18 then 0 else if a = 6 ∧ j = 17 then 0 else if a = 6 ∧ j = 16 then 0 else if a = 74 ∧ j = 4 then 0 else if a = 74 ∧ j = 0 then 0 else if a = 50 ∧ j = 4 then 0 else if a = 50 ∧ j = 3 then m_gi S9 q 14 else m_gi S9 a j := by
    intro a j
    rw [e17, e16, e15, e14, e13, e12, e11]
    simp only [m_gi_si]
  have gi9 : ∀ a j, m_gi S9 a j = if a = 61 then va_cpy (m_gi S6 (q + 8)) (m_gi S6 61) 0 0 6 j else if a = 60 then va_cpy (m_gi S5 (q + 6)) (m_gi S5 60) 0 0 10 j else m_gi S5 a j := by
    intro a j
    rw [e9, m_gi_row]
    by_cases e : a = 61
    · rw [if_pos e, if_pos e]
    · rw [if_neg e, if_neg e, e6, m_gi_row]
  have gir : ∀ a j, q ≤ a → a ≤ q + 8 → m_gi S17 a j = m_gi S a j := by
    intro a j h1 h2
    rw [gi17, if_neg (by omega), if_neg (by omega), if_neg (by omega), if_neg (by omega), if_neg (by omega), if_neg (by omega), if_neg (by omega), gi9, if_neg (by omega), if_neg (by omega)]
    exact i5 a j
  have RC17 : RC S17 q (p_R s) := C.1.keep gir
  refine ⟨q, by rw [gp17, e5, m_gp_sp, if_neg (by omega)]; exact g5, ?_⟩
  rw [gir q 4 (by omega) (by omega), C.1.n]
  refine h S17 ⟨?_, fun a j z => ?_, fun a j => ?_, fun a j z => ?_⟩ ⟨sh17, p_R_wf hw ok, p_s_wf hw ok, hq, Or.inl rfl, by rw [gp17, e5, m_gp_sp, if_neg (by omega)]; exact g5, RC17, ⟨by rw [gp17]; exact g50, ?_, RC17⟩, fun c hc => ?_, ?_, fun p hp => ?_, ?_⟩ (by rw [gp17, e5, m_gp_sp, if_neg (by omega)]; exact g6) ?_ ?_ ?_ ?_ ?_
  · exact sh17.1.trans hs.1.symm
  · rw [gi17, if_neg, if_neg, if_neg, if_neg, if_neg, if_neg, if_neg, gi9, if_neg, if_neg]
    · exact i5 a j
    all_goals
      intro y
      first
        | (rw [y.1, y.2] at z; revert z; decide)
        | (rw [y] at z; revert z; simp [Den])
  · rw [e17, e16, e15, e14, e13, e12, e11, e9, e6]
    exact f5.2.2.1 a j
  · rw [gp17]; exact f5.2.2.2 a j z
  · rcases hq with e | e
    · exact Or.inl e
    · exact Or.inr (Or.inl e)
  · have hc' : c < p_nc s := hc
    rw [show 50 + 10 = 60 from rfl, gi17, if_neg (by omega), if_neg (by omega), if_neg (by omega), if_neg (by omega), if_neg (by omega), if_neg (by omega), if_neg (by omega), gi9, if_neg (by omega), if_pos rfl]
    show (if 0 ≤ c ∧ c < 0 + 10 then m_gi S5 (q + 6) (0 + (c - 0)) else m_gi S5 60 c) = _
    rw [if_pos (by omega), Nat.zero_add, Nat.sub_zero, i5]
    exact C.2.1 c hc'
  · rw [gi17, if_neg (by omega), if_neg (by omega), if_neg (by omega), if_neg (by omega), if_neg (by omega), if_neg (by omega), if_pos ⟨rfl, rfl⟩, gi9, if_neg (by omega), if_neg (by omega), i5]
    exact C.2.2.1
  · have hp' : p < p_np s := hp
    rw [show 50 + 11 = 61 from rfl, gi17, if_neg (by omega), if_neg (by omega), if_neg (by omega), if_neg (by omega), if_neg (by omega), if_neg (by omega), if_neg (by omega), gi9, if_pos rfl]
    show (if 0 ≤ p ∧ p < 0 + 6 then m_gi S6 (q + 8) (0 + (p - 0)) else m_gi S6 61 p) = _
    rw [if_pos (by omega), Nat.zero_add, Nat.sub_zero, e6, m_gi_row, if_neg (by omega), i5]
    exact C.2.2.2 p hp'
  · rw [gi17, if_neg (by omega), if_neg (by omega), if_neg (by omega), if_neg (by omega), if_neg (by omega), if_pos ⟨rfl, rfl⟩]; rfl
  · rw [gi17, if_neg (by omega), if_neg (by omega), if_neg (by omega), if_neg (by omega), if_pos ⟨rfl, rfl⟩]
  · rw [gi17, if_neg (by omega), if_neg (by omega), if_neg (by omega), if_pos ⟨rfl, rfl⟩]
  · rw [gi17, if_neg (by omega), if_neg (by omega), if_pos ⟨rfl, rfl⟩]
  · rw [gi17, if_neg (by omega), if_pos ⟨rfl, rfl⟩]
  · rw [gi17, if_pos ⟨rfl, rfl⟩]
end EN
