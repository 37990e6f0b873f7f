/-! the mini world's memory: rows to rewrite by -/
theorem m_gi_si (S : mj_S) (a j : Nat) (x : Int32) (b k : Nat) : m_gi (m_si S a j x) b k = if b = a ∧ k = j then x else m_gi S b k := rfl
theorem m_gi_sl (S : mj_S) (a j : Nat) (x : Int64) (b k : Nat) : m_gi (m_sl S a j x) b k = m_gi S b k := rfl
theorem m_gi_sp (S : mj_S) (a j : Nat) (x : Option Nat) (b k : Nat) : m_gi (m_sp S a j x) b k = m_gi S b k := rfl
theorem m_gi_row (S : mj_S) (a : Nat) (f : Nat → Int32) (b k : Nat) : m_gi (m_row S a f) b k = if b = a then f k else m_gi S b k := by
  show (if b = a then f else S.2.1 b) k = _
  by_cases h : b = a
  · rw [if_pos h, if_pos h]
  · rw [if_neg h, if_neg h]; rfl
theorem m_gp_si (S : mj_S) (a j : Nat) (x : Int32) (b k : Nat) : m_gp (m_si S a j x) b k = m_gp S b k := rfl
theorem m_gp_sl (S : mj_S) (a j : Nat) (x : Int64) (b k : Nat) : m_gp (m_sl S a j x) b k = m_gp S b k := rfl
theorem m_gp_row (S : mj_S) (a : Nat) (f : Nat → Int32) (b k : Nat) : m_gp (m_row S a f) b k = m_gp S b k := rfl
theorem m_gp_sp (S : mj_S) (a j : Nat) (x : Option Nat) (b k : Nat) : m_gp (m_sp S a j x) b k = if b = a ∧ k = j then x else m_gp S b k := rfl
theorem m_gl_si (S : mj_S) (a j : Nat) (x : Int32) (b k : Nat) : m_gl (m_si S a j x) b k = m_gl S b k := rfl
theorem m_gl_sp (S : mj_S) (a j : Nat) (x : Option Nat) (b k : Nat) : m_gl (m_sp S a j x) b k = m_gl S b k := rfl
theorem m_gl_row (S : mj_S) (a : Nat) (f : Nat → Int32) (b k : Nat) : m_gl (m_row S a f) b k = m_gl S b k := rfl
theorem m_gl_sl (S : mj_S) (a j : Nat) (x : Int64) (b k : Nat) : m_gl (m_sl S a j x) b k = if b = a ∧ k = j then x else m_gl S b k := rfl
theorem m_ext {S S' : mj_S} (h1 : S'.1 = S.1) (h2 : ∀ a j, m_gi S' a j = m_gi S a j) (h3 : ∀ a j, m_gl S' a j = m_gl S a j) (h4 : ∀ a j, m_gp S' a j = m_gp S a j) : S' = S := by
  obtain ⟨a, b, c, d⟩ := S
  obtain ⟨a', b', c', d'⟩ := S'
  have e2 : b' = b := funext fun x => funext fun y => h2 x y
  have e3 : c' = c := funext fun x => funext fun y => h3 x y
  have e4 : d' = d := funext fun x => funext fun y => h4 x y
  have e1 : a' = a := h1
  rw [e1, e2, e3, e4]
theorem m_si_si (S : mj_S) (a j : Nat) (x y : Int32) : m_si (m_si S a j x) a j y = m_si S a j y := by
  refine m_ext rfl (fun b k => ?_) (fun _ _ => rfl) (fun _ _ => rfl)
  rw [m_gi_si, m_gi_si, m_gi_si]
  by_cases h : b = a ∧ k = j
  · rw [if_pos h, if_pos h]
  · rw [if_neg h, if_neg h, if_neg h]
theorem m_si_self (S : mj_S) (a j : Nat) : m_si S a j (m_gi S a j) = S := by
  refine m_ext rfl (fun b k => ?_) (fun _ _ => rfl) (fun _ _ => rfl)
  rw [m_gi_si]
  by_cases h : b = a ∧ k = j
  · rw [if_pos h, h.1, h.2]
  · rw [if_neg h]
theorem m_si_comm (S : mj_S) {a j b k : Nat} (x y : Int32) (h : ¬ (a = b ∧ j = k)) : m_si (m_si S a j x) b k y = m_si (m_si S b k y) a j x := by
  refine m_ext rfl (fun c i => ?_) (fun _ _ => rfl) (fun _ _ => rfl)
  rw [m_gi_si, m_gi_si, m_gi_si, m_gi_si]
  by_cases h1 : c = a ∧ i = j
  · rw [if_pos h1, if_pos h1, if_neg (fun q => h ⟨h1.1.symm.trans q.1, h1.2.symm.trans q.2⟩)]
  · rw [if_neg h1, if_neg h1]
/-- all but the cells D is as it was -/
def m_fr (D : Nat → Prop) (S S' : mj_S) : Prop := S'.1 = S.1 ∧ (∀ a j, ¬ D a → m_gi S' a j = m_gi S a j) ∧ (∀ a j, m_gl S' a j = m_gl S a j) ∧ ∀ a j, m_gp S' a j = m_gp S a j
theorem m_fr.rf {D : Nat → Prop} {S : mj_S} : m_fr D S S := ⟨rfl, fun _ _ _ => rfl, fun _ _ => rfl, fun _ _ => rfl⟩
theorem m_fr.tr {D : Nat → Prop} {S S' S'' : mj_S} (h1 : m_fr D S S') (h2 : m_fr D S' S'') : m_fr D S S'' := ⟨h2.1.trans h1.1, fun a j h => (h2.2.1 a j h).trans (h1.2.1 a j h), fun a j => (h2.2.2.1 a j).trans (h1.2.2.1 a j), fun a j => (h2.2.2.2 a j).trans (h1.2.2.2 a j)⟩
theorem m_fr.wid {D E : Nat → Prop} {S S' : mj_S} (h : m_fr D S S') (hDE : ∀ a, D a → E a) : m_fr E S S' := ⟨h.1, fun a j q => h.2.1 a j (fun z => q (hDE a z)), h.2.2⟩
theorem m_fr.kd {D : Nat → Prop} {S S' : mj_S} (h : m_fr D S S') (a : Nat) : m_kd S' a = m_kd S a := by unfold m_kd; rw [h.1]
theorem m_fr.ln {D : Nat → Prop} {S S' : mj_S} (h : m_fr D S S') (a : Nat) : m_ln S' a = m_ln S a := by unfold m_ln; rw [h.1]
theorem m_fr.si {D : Nat → Prop} {S : mj_S} {a j : Nat} {x : Int32} (h : D a) : m_fr D S (m_si S a j x) := ⟨rfl, fun b k q => by rw [m_gi_si, if_neg (fun z => q (by rw [z.1]; exact h))], fun _ _ => rfl, fun _ _ => rfl⟩
theorem m_fr.row {D : Nat → Prop} {S : mj_S} {a : Nat} {f : Nat → Int32} (h : D a) : m_fr D S (m_row S a f) := ⟨rfl, fun b k q => by rw [m_gi_row, if_neg (fun z => q (by rw [z]; exact h))], fun _ _ => rfl, fun _ _ => rfl⟩
