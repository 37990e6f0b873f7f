/-! the class reads a law: signs and steps -/
def sgn (c : Nat) : Nat := tb [1, 2, 43, 45, 42, 47, 61, 60, 62, 33, 38, 124] c
def enc (k : tok) : Int32 := nI (sgn k.1 * 65536 + k.2)
theorem en_is {a b : Nat} (ha : a < 256) (hb : b < 65536) : (nI a <<< ((16 : Int32) &&& 31)) ||| nI b = nI (a * 65536 + b) := by
  apply b_ext
  intro i hi
  rw [b_or, b_shl16 _ hi, b_nI _ hi, b_nI _ hi]
  have e : a * 65536 + b = a <<< 16 ||| b := by
    rw [← Nat.shiftLeft_add_eq_or_of_lt (by omega : b < 2 ^ 16) a, Nat.shiftLeft_eq]
  rw [e, Nat.testBit_or, Nat.testBit_shiftLeft]
  by_cases h : 16 ≤ i
  · rw [b_nI _ (by omega)]
  · simp [h]
def D20 (a j : Nat) : Bool := (Nat.beq a 20 && (Nat.beq j 2 || Nat.beq j 4)) || Nat.beq a 22
/-- the class's law reader stands at p and has written ss -/
def LW (S : mj_S) (t : Nat → Nat) (n p : Nat) (ss : List Int32) : Prop := RDR S 20 t n p ∧ m_gi S 20 4 = nI ss.length ∧ ∀ i, (h : i < ss.length) → m_gi S 22 i = ss[i]
section LR
variable {l : Launch} {G : mj_G} {L : Nat} {S : mj_S} {t : Nat → Nat} {n p : Nat} {ss : List Int32}
theorem LW.mv {q : Nat} (h : LW S t n p ss) (hq : q ≤ n) : LW (m_si S 20 2 (nI q)) t n q ss := by
  refine ⟨h.1.mv hq, ?_, fun i hi => ?_⟩
  · rw [m_gi_si, if_neg (by omega)]; exact h.2.1
  · rw [m_gi_si, if_neg (by omega)]; exact h.2.2 i hi
theorem s_take {c : Nat} {Q : mj_S → Int32 → Prop} (hs : Sh L S) (W : LW S t n p ss) (hc : c < 256) (h1 : cr t n (skp t n p) = nI c → skp t n p < n → ∀ S', S' = m_si S 20 2 (nI (skp t n p + 1)) → LW S' t n (skp t n p + 1) ss → Q S' 1) (h0 : ¬ cr t n (skp t n p) = nI c → ∀ S', S' = m_si S 20 2 (nI (skp t n p)) → LW S' t n (skp t n p) ss → Q S' 0) : M_X1_take l G 20 (nI c) S Q := by
  refine e_X1_take (b_X1_take_0 hs.k20 (s_peek W.1 (fun S1 e1 T1 => ?_)))
  have hsk := skp_b (t := t) W.1.pn.1
  refine ⟨fun z S3 e3 => ?_, fun z => h0 z S1 e1 (by rw [e1]; exact W.mv hsk.2)⟩
  have hlt := ((cr_is W.1.tw (by omega)).mp z).1
  have e3' : S3 = m_si S 20 2 (nI (skp t n p + 1)) := by rw [e3, T1.at_, nI_1, e1, m_si_si]
  exact h1 z hlt S3 e3' (by rw [e3']; exact W.mv hlt)
theorem s_write {a b : Nat} {Q : mj_S → Prop} (hs : Sh L S) (W : LW S t n p ss) (hl : ss.length < 240) (ha : a < 256) (hb : b < 65536) (h : ∀ S', fr D20 S S' → LW S' t n p (ss ++ [nI (a * 65536 + b)]) → Q S') : M_X1_write l G 20 (nI a) (nI b) S Q := by
  refine e_X1_write (b_X1_write_0 hs.k20 ?_)
  rw [W.2.1]
  refine ⟨fun z => absurd z (nI_ge (b := 240) hl (by omega)), fun _ => ⟨22, hs.p20_3, by rw [hs.l22]; exact vp_nI hl (by omega), fun S2 e2 S3 e3 => ?_⟩⟩
  rw [nI_clamp (by omega), en_is ha hb] at e2
  have f3 : fr D20 S S3 := by rw [e3, e2]; exact (fr.si rfl).tr (fr.si rfl)
  refine h S3 f3 ⟨W.1.fz (by rw [e3, e2]; rfl) (by rw [e3, e2]; rfl) (fun j hj => by rw [e3, m_gi_si, if_neg (by omega), e2, m_gi_si, if_neg (by omega)]) (fun j => by rw [e3, m_gi_si, if_neg (by omega), e2, m_gi_si, if_neg (by omega)]), ?_, fun i hi => ?_⟩
  · rw [e3, m_gi_si, if_pos ⟨rfl, rfl⟩, e2, m_gi_si, if_neg (by omega), W.2.1, nI_1, List.length_append, List.length_singleton]
  · rw [List.length_append, List.length_singleton] at hi
    rw [e3, m_gi_si, if_neg (by omega), e2, m_gi_si]
    by_cases e : i = ss.length
    · subst e
      rw [if_pos ⟨rfl, rfl⟩]; simp
    · rw [if_neg (by omega), List.getElem_append_left (by omega)]
      exact W.2.2 i (by omega)
end LR
