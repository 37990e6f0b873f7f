/-! what the constructors make -/
def zST (L : Nat) (g : Nat → Nat → Int32) (N : Nat) (P : List ((Nat × Nat) × Nat)) (p : Nat → Nat → Bool) (S : mj_S) : Prop := S.1 = (SH L).take N ∧ (∀ x, x ∈ P → m_gp S x.1.1 x.1.2 = some x.2) ∧ (∀ b j, 6 ≤ b → m_gi S b j = if p b j = true then -1 else 0) ∧ ∀ b j, b < 6 → m_gi S b j = g b j
section ZI
variable {l : Launch} {G : mj_G} {L N : Nat} {g : Nat → Nat → Int32} {P : List ((Nat × Nat) × Nat)} {p : Nat → Nat → Bool} {S S' : mj_S} {Q : mj_S → Prop}
theorem zST.len (h : zST L g N P p S) (hN : N ≤ 120) : S.1.length = N := by
  rw [h.1, List.length_take]
  show min N 120 = N
  omega
theorem zST.kd (h : zST L g N P p S) {b : Nat} (hb : b < N) : m_kd S b = ((SH L).getD b (999, 0)).1 := by
  unfold m_kd
  rw [h.1]
  congr 1
  rw [List.getD_eq_getElem?_getD, List.getD_eq_getElem?_getD, List.getElem?_take, if_pos hb]
theorem zST.nw (h : zST L g N P p S) {k n : Nat} (e : S' = m_nw S k n) (hk : (SH L)[N]? = some (k, n)) : zST L g (N + 1) P p S' := by
  rw [e]
  refine ⟨?_, h.2⟩
  show S.1 ++ [(k, n)] = _
  rw [h.1, List.take_succ, hk]; rfl
theorem zST.sp (h : zST L g N P p S) {b j q : Nat} (e : S' = m_sp S b j (some q)) (hf : ∀ x, x ∈ P → ¬ (x.1.1 = b ∧ x.1.2 = j)) : zST L g N (((b, j), q) :: P) p S' := by
  rw [e]
  refine ⟨h.1, fun x hx => ?_, h.2.2⟩
  rw [m_gp_sp]
  rcases List.mem_cons.mp hx with z | z
  · rw [z]; exact if_pos ⟨rfl, rfl⟩
  · rw [if_neg (hf x z)]; exact h.2.1 x z
theorem zST.s0 (h : zST L g N P p S) {b j : Nat} (e : S' = m_si S b j 0) (hb : 6 ≤ b) (hp : p b j = false) : zST L g N P p S' := by
  rw [e]
  refine ⟨h.1, h.2.1, fun b' j' h6 => ?_, fun b' j' h6 => ?_⟩
  · rw [m_gi_si]
    by_cases z : b' = b ∧ j' = j
    · rw [if_pos z, z.1, z.2, hp]; rfl
    · rw [if_neg z]; exact h.2.2.1 b' j' h6
  · rw [m_gi_si, if_neg (by omega)]; exact h.2.2.2 b' j' h6
theorem zST.s1 (h : zST L g N P p S) {b j : Nat} (e : S' = m_si S b j (-1)) (hb : 6 ≤ b) : zST L g N P (fun c k => p c k || (Nat.beq c b && Nat.beq k j)) S' := by
  rw [e]
  refine ⟨h.1, h.2.1, fun b' j' h6 => ?_, fun b' j' h6 => ?_⟩
  · rw [m_gi_si]
    by_cases z : b' = b ∧ j' = j
    · rw [if_pos z, z.1, z.2]
      show (-1 : Int32) = if (p b j || (Nat.beq b b && Nat.beq j j)) = true then -1 else 0
      rw [show Nat.beq b b = true from Nat.beq_refl b, show Nat.beq j j = true from Nat.beq_refl j, Bool.and_true, Bool.or_true, if_pos rfl]
    · rw [if_neg z, h.2.2.1 b' j' h6]
      have : (Nat.beq b' b && Nat.beq j' j) = false := by
        rw [← Bool.not_eq_true, Bool.and_eq_true, Nat.beq_eq, Nat.beq_eq]; exact z
      show _ = if (p b' j' || (Nat.beq b' b && Nat.beq j' j)) = true then -1 else 0
      rw [this, Bool.or_false]
  · rw [m_gi_si, if_neg (by omega)]; exact h.2.2.2 b' j' h6
theorem zST.sl (h : zST L g N P p S) {b j : Nat} {v : Int64} (e : S' = m_sl S b j v) : zST L g N P p S' := by rw [e]; exact h
theorem zST.cons {x : (Nat × Nat) × Nat} {b j : Nat} (h1 : ¬ (x.1.1 = b ∧ x.1.2 = j)) (h2 : ∀ y, y ∈ P → ¬ (y.1.1 = b ∧ y.1.2 = j)) : ∀ y, y ∈ x :: P → ¬ (y.1.1 = b ∧ y.1.2 = j) := fun y hy => by
  rcases List.mem_cons.mp hy with z | z
  · rw [z]; exact h1
  · exact h2 y z
theorem zST.bc {x : (Nat × Nat) × Nat} {b : Nat} (h1 : x.1.1 < b) (h2 : ∀ y, y ∈ P → y.1.1 < b) : ∀ y, y ∈ x :: P → y.1.1 < b := fun y hy => by
  rcases List.mem_cons.mp hy with z | z
  · rw [z]; exact h1
  · exact h2 y z
theorem zST.pz {b j : Nat} (hb : 24 ≤ b) : (false || (Nat.beq b 23 && Nat.beq j 1)) = false := by
  rw [← Bool.not_eq_true]
  simp only [Bool.or_eq_true, Bool.and_eq_true, Nat.beq_eq, Bool.false_eq_true, false_or]
  omega
theorem z_X5_8 (h : zST L g 9 P p S) (hP : ∀ y, y ∈ P → y.1.1 < 8) (hp : ∀ b j, 8 ≤ b → p b j = false) (k : ∀ S', zST L g 10 (((8, 0), 9) :: P) p S' → Q S') : M_X5_init l G 8 S Q := by
  refine e_X5_init (b_X5_init_0_c6 (h.kd (by decide)) ?_)
  intro q1 eq1
  have eq1' : q1 = 9 := eq1.trans (h.len (by decide))
  subst eq1'
  intro S2 eS2
  have hS2 := h.nw eS2 rfl
  intro S3 eS3
  have hS3 := hS2.sp eS3 (fun y hy => by have := hP y hy; omega)
  intro S4 eS4
  have hS4 := hS3.s0 eS4 (by decide) (hp _ _ (by decide))
  intro S5 eS5
  have hS5 := hS4.s0 eS5 (by decide) (hp _ _ (by decide))
  exact k S5 hS5
theorem z_X6_10 (h : zST L g 11 P p S) (hP : ∀ y, y ∈ P → y.1.1 < 10) (hp : ∀ b j, 10 ≤ b → p b j = false) (k : ∀ S', zST L g 19 (((10, 17), 18) :: ((10, 16), 17) :: ((10, 13), 16) :: ((10, 12), 15) :: ((10, 11), 14) :: ((10, 10), 13) :: ((10, 9), 12) :: ((10, 8), 11) :: P) p S' → Q S') : M_X6_init l G 10 S Q := by
  refine e_X6_init (b_X6_init_0 (h.kd (by decide)) ?_)
  intro S1 eS1
  have hS1 := h.s0 eS1 (by decide) (hp _ _ (by decide))
  intro S2 eS2
  have hS2 := hS1.s0 eS2 (by decide) (hp _ _ (by decide))
  intro S3 eS3
  have hS3 := hS2.s0 eS3 (by decide) (hp _ _ (by decide))
  intro S4 eS4
  have hS4 := hS3.s0 eS4 (by decide) (hp _ _ (by decide))
  intro S5 eS5
  have hS5 := hS4.s0 eS5 (by decide) (hp _ _ (by decide))
  intro S6 eS6
  have hS6 := hS5.s0 eS6 (by decide) (hp _ _ (by decide))
  intro S7 eS7
  have hS7 := hS6.s0 eS7 (by decide) (hp _ _ (by decide))
  intro S8 eS8
  have hS8 := hS7.s0 eS8 (by decide) (hp _ _ (by decide))
  intro q9 eq9
  have eq9' : q9 = 11 := eq9.trans (hS8.len (by decide))
  subst eq9'
  intro S10 eS10
  have hS10 := hS8.nw eS10 rfl
  intro S11 eS11
  have hS11 := hS10.sp eS11 (fun y hy => by have := hP y hy; omega)
  intro q12 eq12
  have eq12' : q12 = 12 := eq12.trans (hS11.len (by decide))
  subst eq12'
  intro S13 eS13
  have hS13 := hS11.nw eS13 rfl
  intro S14 eS14
  have hS14 := hS13.sp eS14 (zST.cons (by decide) (fun y hy => by have := hP y hy; omega))
  intro q15 eq15
  have eq15' : q15 = 13 := eq15.trans (hS14.len (by decide))
  subst eq15'
  intro S16 eS16
  have hS16 := hS14.nw eS16 rfl
  intro S17 eS17
  have hS17 := hS16.sp eS17 (zST.cons (by decide) (zST.cons (by decide) (fun y hy => by have := hP y hy; omega)))
  intro q18 eq18
  have eq18' : q18 = 14 := eq18.trans (hS17.len (by decide))
  subst eq18'
  intro S19 eS19
  have hS19 := hS17.nw eS19 rfl
  intro S20 eS20
  have hS20 := hS19.sp eS20 (zST.cons (by decide) (zST.cons (by decide) (zST.cons (by decide) (fun y hy => by have := hP y hy; omega))))
  intro q21 eq21
  have eq21' : q21 = 15 := eq21.trans (hS20.len (by decide))
  subst eq21'
  intro S22 eS22
  have hS22 := hS20.nw eS22 rfl
  intro S23 eS23
  have hS23 := hS22.sp eS23 (zST.cons (by decide) (zST.cons (by decide) (zST.cons (by decide) (zST.cons (by decide) (fun y hy => by have := hP y hy; omega)))))
  intro q24 eq24
  have eq24' : q24 = 16 := eq24.trans (hS23.len (by decide))
  subst eq24'
  intro S25 eS25
  have hS25 := hS23.nw eS25 rfl
  intro S26 eS26
  have hS26 := hS25.sp eS26 (zST.cons (by decide) (zST.cons (by decide) (zST.cons (by decide) (zST.cons (by decide) (zST.cons (by decide) (fun y hy => by have := hP y hy; omega))))))
  intro S27 eS27
  have hS27 := hS26.s0 eS27 (by decide) (hp _ _ (by decide))
  intro S28 eS28
  have hS28 := hS27.s0 eS28 (by decide) (hp _ _ (by decide))
  intro q29 eq29
  have eq29' : q29 = 17 := eq29.trans (hS28.len (by decide))
  subst eq29'
  intro S30 eS30
  have hS30 := hS28.nw eS30 rfl
  intro S31 eS31
  have hS31 := hS30.sp eS31 (zST.cons (by decide) (zST.cons (by decide) (zST.cons (by decide) (zST.cons (by decide) (zST.cons (by decide) (zST.cons (by decide) (fun y hy => by have := hP y hy; omega)))))))
  intro q32 eq32
  have eq32' : q32 = 18 := eq32.trans (hS31.len (by decide))
  subst eq32'
  intro S33 eS33
  have hS33 := hS31.nw eS33 rfl
  intro S34 eS34
  have hS34 := hS33.sp eS34 (zST.cons (by decide) (zST.cons (by decide) (zST.cons (by decide) (zST.cons (by decide) (zST.cons (by decide) (zST.cons (by decide) (zST.cons (by decide) (fun y hy => by have := hP y hy; omega))))))))
  exact k S34 hS34
theorem z_X7_8 (h : zST L g 9 P p S) (hP : ∀ y, y ∈ P → y.1.1 < 8) (hp : ∀ b j, 8 ≤ b → p b j = false) (k : ∀ S', zST L g 20 (((8, 5), 19) :: ((8, 4), 10) :: ((10, 17), 18) :: ((10, 16), 17) :: ((10, 13), 16) :: ((10, 12), 15) :: ((10, 11), 14) :: ((10, 10), 13) :: ((10, 9), 12) :: ((10, 8), 11) :: ((8, 0), 9) :: P) p S' → Q S') : M_X7_init l G 8 S Q := by
  refine e_X7_init (b_X7_init_0 (h.kd (by decide)) ?_)
  refine z_X5_8 h hP hp (fun S1 hS1 => ?_)
  intro S2 eS2
  have hS2 := hS1.s0 eS2 (by decide) (hp _ _ (by decide))
  intro q3 eq3
  have eq3' : q3 = 10 := eq3.trans (hS2.len (by decide))
  subst eq3'
  intro S4 eS4
  have hS4 := hS2.nw eS4 rfl
  refine z_X6_10 hS4 (zST.bc (by decide) (fun y hy => by have := hP y hy; omega)) (fun b j hb => hp b j (by omega)) (fun S5 hS5 => ?_)
  intro S6 eS6
  have hS6 := hS5.sp eS6 (zST.cons (by decide) (zST.cons (by decide) (zST.cons (by decide) (zST.cons (by decide) (zST.cons (by decide) (zST.cons (by decide) (zST.cons (by decide) (zST.cons (by decide) (zST.cons (by decide) (fun y hy => by have := hP y hy; omega))))))))))
  intro q7 eq7
  have eq7' : q7 = 19 := eq7.trans (hS6.len (by decide))
  subst eq7'
  intro S8 eS8
  have hS8 := hS6.nw eS8 rfl
  intro S9 eS9
  have hS9 := hS8.sp eS9 (zST.cons (by decide) (zST.cons (by decide) (zST.cons (by decide) (zST.cons (by decide) (zST.cons (by decide) (zST.cons (by decide) (zST.cons (by decide) (zST.cons (by decide) (zST.cons (by decide) (zST.cons (by decide) (fun y hy => by have := hP y hy; omega)))))))))))
  exact k S9 hS9
theorem z_X5_20 (h : zST L g 21 P p S) (hP : ∀ y, y ∈ P → y.1.1 < 20) (hp : ∀ b j, 20 ≤ b → p b j = false) (k : ∀ S', zST L g 22 (((20, 0), 21) :: P) p S' → Q S') : M_X5_init l G 20 S Q := by
  refine e_X5_init (b_X5_init_0_c1 (h.kd (by decide)) ?_)
  intro q1 eq1
  have eq1' : q1 = 21 := eq1.trans (h.len (by decide))
  subst eq1'
  intro S2 eS2
  have hS2 := h.nw eS2 rfl
  intro S3 eS3
  have hS3 := hS2.sp eS3 (fun y hy => by have := hP y hy; omega)
  intro S4 eS4
  have hS4 := hS3.s0 eS4 (by decide) (hp _ _ (by decide))
  intro S5 eS5
  have hS5 := hS4.s0 eS5 (by decide) (hp _ _ (by decide))
  exact k S5 hS5
theorem z_X1_20 (h : zST L g 21 P p S) (hP : ∀ y, y ∈ P → y.1.1 < 20) (hp : ∀ b j, 20 ≤ b → p b j = false) (k : ∀ S', zST L g 23 (((20, 3), 22) :: ((20, 0), 21) :: P) p S' → Q S') : M_X1_init l G 20 S Q := by
  refine e_X1_init (b_X1_init_0 (h.kd (by decide)) ?_)
  refine z_X5_20 h hP hp (fun S1 hS1 => ?_)
  intro q2 eq2
  have eq2' : q2 = 22 := eq2.trans (hS1.len (by decide))
  subst eq2'
  intro S3 eS3
  have hS3 := hS1.nw eS3 rfl
  intro S4 eS4
  have hS4 := hS3.sp eS4 (zST.cons (by decide) (fun y hy => by have := hP y hy; omega))
  intro S5 eS5
  have hS5 := hS4.s0 eS5 (by decide) (hp _ _ (by decide))
  exact k S5 hS5
theorem z_X2_23 (h : zST L g 24 P p S) (hP : ∀ y, y ∈ P → y.1.1 < 23) (hp : ∀ b j, 23 ≤ b → p b j = false) (k : ∀ S', zST L g 32 (((23, 5), 31) :: ((23, 4), 30) :: ((23, 3), 29) :: ((23, 2), 24) :: ((24, 3), 28) :: ((24, 2), 27) :: ((24, 1), 26) :: ((24, 0), 25) :: P) (fun c k => p c k || (Nat.beq c 23 && Nat.beq k 1)) S' → Q S') : M_X2_init l G 23 S Q := by
  refine e_X2_init (b_X2_init_0 (h.kd (by decide)) ?_)
  intro S1 eS1
  have hS1 := h.s0 eS1 (by decide) (hp _ _ (by decide))
  intro S2 eS2
  have hS2 := hS1.s1 eS2 (by decide)
  intro q3 eq3
  have eq3' : q3 = 24 := eq3.trans (hS2.len (by decide))
  subst eq3'
  intro S4 eS4
  unfold mj_mT mj_mS at eS4
  rw [hS2.len (by decide)] at eS4
  have g1 := hS2.nw (k := 103) (n := 4) rfl rfl
  have g2 := g1.nw (k := 100) (n := 240) rfl rfl
  have g3 := g2.nw (k := 100) (n := 240) rfl rfl
  have g4 := g3.nw (k := 100) (n := 240) rfl rfl
  have g5 := g4.nw (k := 100) (n := 240) rfl rfl
  have g6 := g5.sp (b := 24) (j := 0) (q := 25) rfl (fun y hy => by have := hP y hy; omega)
  have g7 := g6.sp (b := 24) (j := 1) (q := 26) rfl (zST.cons (by decide) (fun y hy => by have := hP y hy; omega))
  have g8 := g7.sp (b := 24) (j := 2) (q := 27) rfl (zST.cons (by decide) (zST.cons (by decide) (fun y hy => by have := hP y hy; omega)))
  have g9 := g8.sp (b := 24) (j := 3) (q := 28) rfl (zST.cons (by decide) (zST.cons (by decide) (zST.cons (by decide) (fun y hy => by have := hP y hy; omega))))
  rw [← eS4] at g9
  intro S5 eS5
  have hS5 := g9.sp eS5 (zST.cons (by decide) (zST.cons (by decide) (zST.cons (by decide) (zST.cons (by decide) (fun y hy => by have := hP y hy; omega)))))
  intro q6 eq6
  have eq6' : q6 = 29 := eq6.trans (hS5.len (by decide))
  subst eq6'
  intro S7 eS7
  have hS7 := hS5.nw eS7 rfl
  intro S8 eS8
  have hS8 := hS7.sp eS8 (zST.cons (by decide) (zST.cons (by decide) (zST.cons (by decide) (zST.cons (by decide) (zST.cons (by decide) (fun y hy => by have := hP y hy; omega))))))
  intro q9 eq9
  have eq9' : q9 = 30 := eq9.trans (hS8.len (by decide))
  subst eq9'
  intro S10 eS10
  have hS10 := hS8.nw eS10 rfl
  intro S11 eS11
  have hS11 := hS10.sp eS11 (zST.cons (by decide) (zST.cons (by decide) (zST.cons (by decide) (zST.cons (by decide) (zST.cons (by decide) (zST.cons (by decide) (fun y hy => by have := hP y hy; omega)))))))
  intro q12 eq12
  have eq12' : q12 = 31 := eq12.trans (hS11.len (by decide))
  subst eq12'
  intro S13 eS13
  have hS13 := hS11.nw eS13 rfl
  intro S14 eS14
  have hS14 := hS13.sp eS14 (zST.cons (by decide) (zST.cons (by decide) (zST.cons (by decide) (zST.cons (by decide) (zST.cons (by decide) (zST.cons (by decide) (zST.cons (by decide) (fun y hy => by have := hP y hy; omega))))))))
  intro S15 eS15
  have hS15 := hS14.s0 eS15 (by decide) (by rw [hp _ _ (by decide)]; rfl)
  exact k S15 hS15
theorem z_X6_32 (h : zST L g 33 P p S) (hP : ∀ y, y ∈ P → y.1.1 < 32) (hp : ∀ b j, 32 ≤ b → p b j = false) (k : ∀ S', zST L g 41 (((32, 17), 40) :: ((32, 16), 39) :: ((32, 13), 38) :: ((32, 12), 37) :: ((32, 11), 36) :: ((32, 10), 35) :: ((32, 9), 34) :: ((32, 8), 33) :: P) p S' → Q S') : M_X6_init l G 32 S Q := by
  refine e_X6_init (b_X6_init_0 (h.kd (by decide)) ?_)
  intro S1 eS1
  have hS1 := h.s0 eS1 (by decide) (hp _ _ (by decide))
  intro S2 eS2
  have hS2 := hS1.s0 eS2 (by decide) (hp _ _ (by decide))
  intro S3 eS3
  have hS3 := hS2.s0 eS3 (by decide) (hp _ _ (by decide))
  intro S4 eS4
  have hS4 := hS3.s0 eS4 (by decide) (hp _ _ (by decide))
  intro S5 eS5
  have hS5 := hS4.s0 eS5 (by decide) (hp _ _ (by decide))
  intro S6 eS6
  have hS6 := hS5.s0 eS6 (by decide) (hp _ _ (by decide))
  intro S7 eS7
  have hS7 := hS6.s0 eS7 (by decide) (hp _ _ (by decide))
  intro S8 eS8
  have hS8 := hS7.s0 eS8 (by decide) (hp _ _ (by decide))
  intro q9 eq9
  have eq9' : q9 = 33 := eq9.trans (hS8.len (by decide))
  subst eq9'
  intro S10 eS10
  have hS10 := hS8.nw eS10 rfl
  intro S11 eS11
  have hS11 := hS10.sp eS11 (fun y hy => by have := hP y hy; omega)
  intro q12 eq12
  have eq12' : q12 = 34 := eq12.trans (hS11.len (by decide))
  subst eq12'
  intro S13 eS13
  have hS13 := hS11.nw eS13 rfl
  intro S14 eS14
  have hS14 := hS13.sp eS14 (zST.cons (by decide) (fun y hy => by have := hP y hy; omega))
  intro q15 eq15
  have eq15' : q15 = 35 := eq15.trans (hS14.len (by decide))
  subst eq15'
  intro S16 eS16
  have hS16 := hS14.nw eS16 rfl
  intro S17 eS17
  have hS17 := hS16.sp eS17 (zST.cons (by decide) (zST.cons (by decide) (fun y hy => by have := hP y hy; omega)))
  intro q18 eq18
  have eq18' : q18 = 36 := eq18.trans (hS17.len (by decide))
  subst eq18'
  intro S19 eS19
  have hS19 := hS17.nw eS19 rfl
  intro S20 eS20
  have hS20 := hS19.sp eS20 (zST.cons (by decide) (zST.cons (by decide) (zST.cons (by decide) (fun y hy => by have := hP y hy; omega))))
  intro q21 eq21
  have eq21' : q21 = 37 := eq21.trans (hS20.len (by decide))
  subst eq21'
  intro S22 eS22
  have hS22 := hS20.nw eS22 rfl
  intro S23 eS23
  have hS23 := hS22.sp eS23 (zST.cons (by decide) (zST.cons (by decide) (zST.cons (by decide) (zST.cons (by decide) (fun y hy => by have := hP y hy; omega)))))
  intro q24 eq24
  have eq24' : q24 = 38 := eq24.trans (hS23.len (by decide))
  subst eq24'
  intro S25 eS25
  have hS25 := hS23.nw eS25 rfl
  intro S26 eS26
  have hS26 := hS25.sp eS26 (zST.cons (by decide) (zST.cons (by decide) (zST.cons (by decide) (zST.cons (by decide) (zST.cons (by decide) (fun y hy => by have := hP y hy; omega))))))
  intro S27 eS27
  have hS27 := hS26.s0 eS27 (by decide) (hp _ _ (by decide))
  intro S28 eS28
  have hS28 := hS27.s0 eS28 (by decide) (hp _ _ (by decide))
  intro q29 eq29
  have eq29' : q29 = 39 := eq29.trans (hS28.len (by decide))
  subst eq29'
  intro S30 eS30
  have hS30 := hS28.nw eS30 rfl
  intro S31 eS31
  have hS31 := hS30.sp eS31 (zST.cons (by decide) (zST.cons (by decide) (zST.cons (by decide) (zST.cons (by decide) (zST.cons (by decide) (zST.cons (by decide) (fun y hy => by have := hP y hy; omega)))))))
  intro q32 eq32
  have eq32' : q32 = 40 := eq32.trans (hS31.len (by decide))
  subst eq32'
  intro S33 eS33
  have hS33 := hS31.nw eS33 rfl
  intro S34 eS34
  have hS34 := hS33.sp eS34 (zST.cons (by decide) (zST.cons (by decide) (zST.cons (by decide) (zST.cons (by decide) (zST.cons (by decide) (zST.cons (by decide) (zST.cons (by decide) (fun y hy => by have := hP y hy; omega))))))))
  exact k S34 hS34
theorem z_X6_41 (h : zST L g 42 P p S) (hP : ∀ y, y ∈ P → y.1.1 < 41) (hp : ∀ b j, 41 ≤ b → p b j = false) (k : ∀ S', zST L g 50 (((41, 17), 49) :: ((41, 16), 48) :: ((41, 13), 47) :: ((41, 12), 46) :: ((41, 11), 45) :: ((41, 10), 44) :: ((41, 9), 43) :: ((41, 8), 42) :: P) p S' → Q S') : M_X6_init l G 41 S Q := by
  refine e_X6_init (b_X6_init_0 (h.kd (by decide)) ?_)
  intro S1 eS1
  have hS1 := h.s0 eS1 (by decide) (hp _ _ (by decide))
  intro S2 eS2
  have hS2 := hS1.s0 eS2 (by decide) (hp _ _ (by decide))
  intro S3 eS3
  have hS3 := hS2.s0 eS3 (by decide) (hp _ _ (by decide))
  intro S4 eS4
  have hS4 := hS3.s0 eS4 (by decide) (hp _ _ (by decide))
  intro S5 eS5
  have hS5 := hS4.s0 eS5 (by decide) (hp _ _ (by decide))
  intro S6 eS6
  have hS6 := hS5.s0 eS6 (by decide) (hp _ _ (by decide))
  intro S7 eS7
  have hS7 := hS6.s0 eS7 (by decide) (hp _ _ (by decide))
  intro S8 eS8
  have hS8 := hS7.s0 eS8 (by decide) (hp _ _ (by decide))
  intro q9 eq9
  have eq9' : q9 = 42 := eq9.trans (hS8.len (by decide))
  subst eq9'
  intro S10 eS10
  have hS10 := hS8.nw eS10 rfl
  intro S11 eS11
  have hS11 := hS10.sp eS11 (fun y hy => by have := hP y hy; omega)
  intro q12 eq12
  have eq12' : q12 = 43 := eq12.trans (hS11.len (by decide))
  subst eq12'
  intro S13 eS13
  have hS13 := hS11.nw eS13 rfl
  intro S14 eS14
  have hS14 := hS13.sp eS14 (zST.cons (by decide) (fun y hy => by have := hP y hy; omega))
  intro q15 eq15
  have eq15' : q15 = 44 := eq15.trans (hS14.len (by decide))
  subst eq15'
  intro S16 eS16
  have hS16 := hS14.nw eS16 rfl
  intro S17 eS17
  have hS17 := hS16.sp eS17 (zST.cons (by decide) (zST.cons (by decide) (fun y hy => by have := hP y hy; omega)))
  intro q18 eq18
  have eq18' : q18 = 45 := eq18.trans (hS17.len (by decide))
  subst eq18'
  intro S19 eS19
  have hS19 := hS17.nw eS19 rfl
  intro S20 eS20
  have hS20 := hS19.sp eS20 (zST.cons (by decide) (zST.cons (by decide) (zST.cons (by decide) (fun y hy => by have := hP y hy; omega))))
  intro q21 eq21
  have eq21' : q21 = 46 := eq21.trans (hS20.len (by decide))
  subst eq21'
  intro S22 eS22
  have hS22 := hS20.nw eS22 rfl
  intro S23 eS23
  have hS23 := hS22.sp eS23 (zST.cons (by decide) (zST.cons (by decide) (zST.cons (by decide) (zST.cons (by decide) (fun y hy => by have := hP y hy; omega)))))
  intro q24 eq24
  have eq24' : q24 = 47 := eq24.trans (hS23.len (by decide))
  subst eq24'
  intro S25 eS25
  have hS25 := hS23.nw eS25 rfl
  intro S26 eS26
  have hS26 := hS25.sp eS26 (zST.cons (by decide) (zST.cons (by decide) (zST.cons (by decide) (zST.cons (by decide) (zST.cons (by decide) (fun y hy => by have := hP y hy; omega))))))
  intro S27 eS27
  have hS27 := hS26.s0 eS27 (by decide) (hp _ _ (by decide))
  intro S28 eS28
  have hS28 := hS27.s0 eS28 (by decide) (hp _ _ (by decide))
  intro q29 eq29
  have eq29' : q29 = 48 := eq29.trans (hS28.len (by decide))
  subst eq29'
  intro S30 eS30
  have hS30 := hS28.nw eS30 rfl
  intro S31 eS31
  have hS31 := hS30.sp eS31 (zST.cons (by decide) (zST.cons (by decide) (zST.cons (by decide) (zST.cons (by decide) (zST.cons (by decide) (zST.cons (by decide) (fun y hy => by have := hP y hy; omega)))))))
  intro q32 eq32
  have eq32' : q32 = 49 := eq32.trans (hS31.len (by decide))
  subst eq32'
  intro S33 eS33
  have hS33 := hS31.nw eS33 rfl
  intro S34 eS34
  have hS34 := hS33.sp eS34 (zST.cons (by decide) (zST.cons (by decide) (zST.cons (by decide) (zST.cons (by decide) (zST.cons (by decide) (zST.cons (by decide) (zST.cons (by decide) (fun y hy => by have := hP y hy; omega))))))))
  exact k S34 hS34
theorem z_X6_51 (h : zST L g 52 P p S) (hP : ∀ y, y ∈ P → y.1.1 < 51) (hp : ∀ b j, 51 ≤ b → p b j = false) (k : ∀ S', zST L g 60 (((51, 17), 59) :: ((51, 16), 58) :: ((51, 13), 57) :: ((51, 12), 56) :: ((51, 11), 55) :: ((51, 10), 54) :: ((51, 9), 53) :: ((51, 8), 52) :: P) p S' → Q S') : M_X6_init l G 51 S Q := by
  refine e_X6_init (b_X6_init_0 (h.kd (by decide)) ?_)
  intro S1 eS1
  have hS1 := h.s0 eS1 (by decide) (hp _ _ (by decide))
  intro S2 eS2
  have hS2 := hS1.s0 eS2 (by decide) (hp _ _ (by decide))
  intro S3 eS3
  have hS3 := hS2.s0 eS3 (by decide) (hp _ _ (by decide))
  intro S4 eS4
  have hS4 := hS3.s0 eS4 (by decide) (hp _ _ (by decide))
  intro S5 eS5
  have hS5 := hS4.s0 eS5 (by decide) (hp _ _ (by decide))
  intro S6 eS6
  have hS6 := hS5.s0 eS6 (by decide) (hp _ _ (by decide))
  intro S7 eS7
  have hS7 := hS6.s0 eS7 (by decide) (hp _ _ (by decide))
  intro S8 eS8
  have hS8 := hS7.s0 eS8 (by decide) (hp _ _ (by decide))
  intro q9 eq9
  have eq9' : q9 = 52 := eq9.trans (hS8.len (by decide))
  subst eq9'
  intro S10 eS10
  have hS10 := hS8.nw eS10 rfl
  intro S11 eS11
  have hS11 := hS10.sp eS11 (fun y hy => by have := hP y hy; omega)
  intro q12 eq12
  have eq12' : q12 = 53 := eq12.trans (hS11.len (by decide))
  subst eq12'
  intro S13 eS13
  have hS13 := hS11.nw eS13 rfl
  intro S14 eS14
  have hS14 := hS13.sp eS14 (zST.cons (by decide) (fun y hy => by have := hP y hy; omega))
  intro q15 eq15
  have eq15' : q15 = 54 := eq15.trans (hS14.len (by decide))
  subst eq15'
  intro S16 eS16
  have hS16 := hS14.nw eS16 rfl
  intro S17 eS17
  have hS17 := hS16.sp eS17 (zST.cons (by decide) (zST.cons (by decide) (fun y hy => by have := hP y hy; omega)))
  intro q18 eq18
  have eq18' : q18 = 55 := eq18.trans (hS17.len (by decide))
  subst eq18'
  intro S19 eS19
  have hS19 := hS17.nw eS19 rfl
  intro S20 eS20
  have hS20 := hS19.sp eS20 (zST.cons (by decide) (zST.cons (by decide) (zST.cons (by decide) (fun y hy => by have := hP y hy; omega))))
  intro q21 eq21
  have eq21' : q21 = 56 := eq21.trans (hS20.len (by decide))
  subst eq21'
  intro S22 eS22
  have hS22 := hS20.nw eS22 rfl
  intro S23 eS23
  have hS23 := hS22.sp eS23 (zST.cons (by decide) (zST.cons (by decide) (zST.cons (by decide) (zST.cons (by decide) (fun y hy => by have := hP y hy; omega)))))
  intro q24 eq24
  have eq24' : q24 = 57 := eq24.trans (hS23.len (by decide))
  subst eq24'
  intro S25 eS25
  have hS25 := hS23.nw eS25 rfl
  intro S26 eS26
  have hS26 := hS25.sp eS26 (zST.cons (by decide) (zST.cons (by decide) (zST.cons (by decide) (zST.cons (by decide) (zST.cons (by decide) (fun y hy => by have := hP y hy; omega))))))
  intro S27 eS27
  have hS27 := hS26.s0 eS27 (by decide) (hp _ _ (by decide))
  intro S28 eS28
  have hS28 := hS27.s0 eS28 (by decide) (hp _ _ (by decide))
  intro q29 eq29
  have eq29' : q29 = 58 := eq29.trans (hS28.len (by decide))
  subst eq29'
  intro S30 eS30
  have hS30 := hS28.nw eS30 rfl
  intro S31 eS31
  have hS31 := hS30.sp eS31 (zST.cons (by decide) (zST.cons (by decide) (zST.cons (by decide) (zST.cons (by decide) (zST.cons (by decide) (zST.cons (by decide) (fun y hy => by have := hP y hy; omega)))))))
  intro q32 eq32
  have eq32' : q32 = 59 := eq32.trans (hS31.len (by decide))
  subst eq32'
  intro S33 eS33
  have hS33 := hS31.nw eS33 rfl
  intro S34 eS34
  have hS34 := hS33.sp eS34 (zST.cons (by decide) (zST.cons (by decide) (zST.cons (by decide) (zST.cons (by decide) (zST.cons (by decide) (zST.cons (by decide) (zST.cons (by decide) (fun y hy => by have := hP y hy; omega))))))))
  exact k S34 hS34
theorem z_X8_50 (h : zST L g 51 P p S) (hP : ∀ y, y ∈ P → y.1.1 < 50) (hp : ∀ b j, 50 ≤ b → p b j = false) (k : ∀ S', zST L g 62 (((50, 2), 61) :: ((50, 1), 60) :: ((50, 0), 51) :: ((51, 17), 59) :: ((51, 16), 58) :: ((51, 13), 57) :: ((51, 12), 56) :: ((51, 11), 55) :: ((51, 10), 54) :: ((51, 9), 53) :: ((51, 8), 52) :: P) p S' → Q S') : M_X8_init l G 50 S Q := by
  refine e_X8_init (b_X8_init_0 (h.kd (by decide)) ?_)
  intro q1 eq1
  have eq1' : q1 = 51 := eq1.trans (h.len (by decide))
  subst eq1'
  intro S2 eS2
  have hS2 := h.nw eS2 rfl
  refine z_X6_51 hS2 (fun y hy => by have := hP y hy; omega) (fun b j hb => hp b j (by omega)) (fun S3 hS3 => ?_)
  intro S4 eS4
  have hS4 := hS3.sp eS4 (zST.cons (by decide) (zST.cons (by decide) (zST.cons (by decide) (zST.cons (by decide) (zST.cons (by decide) (zST.cons (by decide) (zST.cons (by decide) (zST.cons (by decide) (fun y hy => by have := hP y hy; omega)))))))))
  intro q5 eq5
  have eq5' : q5 = 60 := eq5.trans (hS4.len (by decide))
  subst eq5'
  intro S6 eS6
  have hS6 := hS4.nw eS6 rfl
  intro S7 eS7
  have hS7 := hS6.sp eS7 (zST.cons (by decide) (zST.cons (by decide) (zST.cons (by decide) (zST.cons (by decide) (zST.cons (by decide) (zST.cons (by decide) (zST.cons (by decide) (zST.cons (by decide) (zST.cons (by decide) (fun y hy => by have := hP y hy; omega))))))))))
  intro q8 eq8
  have eq8' : q8 = 61 := eq8.trans (hS7.len (by decide))
  subst eq8'
  intro S9 eS9
  have hS9 := hS7.nw eS9 rfl
  intro S10 eS10
  have hS10 := hS9.sp eS10 (zST.cons (by decide) (zST.cons (by decide) (zST.cons (by decide) (zST.cons (by decide) (zST.cons (by decide) (zST.cons (by decide) (zST.cons (by decide) (zST.cons (by decide) (zST.cons (by decide) (zST.cons (by decide) (fun y hy => by have := hP y hy; omega)))))))))))
  intro S11 eS11
  have hS11 := hS10.s0 eS11 (by decide) (hp _ _ (by decide))
  intro S12 eS12
  have hS12 := hS11.s0 eS12 (by decide) (hp _ _ (by decide))
  exact k S12 hS12
theorem z_X6_63 (h : zST L g 64 P p S) (hP : ∀ y, y ∈ P → y.1.1 < 63) (hp : ∀ b j, 63 ≤ b → p b j = false) (k : ∀ S', zST L g 72 (((63, 17), 71) :: ((63, 16), 70) :: ((63, 13), 69) :: ((63, 12), 68) :: ((63, 11), 67) :: ((63, 10), 66) :: ((63, 9), 65) :: ((63, 8), 64) :: P) p S' → Q S') : M_X6_init l G 63 S Q := by
  refine e_X6_init (b_X6_init_0 (h.kd (by decide)) ?_)
  intro S1 eS1
  have hS1 := h.s0 eS1 (by decide) (hp _ _ (by decide))
  intro S2 eS2
  have hS2 := hS1.s0 eS2 (by decide) (hp _ _ (by decide))
  intro S3 eS3
  have hS3 := hS2.s0 eS3 (by decide) (hp _ _ (by decide))
  intro S4 eS4
  have hS4 := hS3.s0 eS4 (by decide) (hp _ _ (by decide))
  intro S5 eS5
  have hS5 := hS4.s0 eS5 (by decide) (hp _ _ (by decide))
  intro S6 eS6
  have hS6 := hS5.s0 eS6 (by decide) (hp _ _ (by decide))
  intro S7 eS7
  have hS7 := hS6.s0 eS7 (by decide) (hp _ _ (by decide))
  intro S8 eS8
  have hS8 := hS7.s0 eS8 (by decide) (hp _ _ (by decide))
  intro q9 eq9
  have eq9' : q9 = 64 := eq9.trans (hS8.len (by decide))
  subst eq9'
  intro S10 eS10
  have hS10 := hS8.nw eS10 rfl
  intro S11 eS11
  have hS11 := hS10.sp eS11 (fun y hy => by have := hP y hy; omega)
  intro q12 eq12
  have eq12' : q12 = 65 := eq12.trans (hS11.len (by decide))
  subst eq12'
  intro S13 eS13
  have hS13 := hS11.nw eS13 rfl
  intro S14 eS14
  have hS14 := hS13.sp eS14 (zST.cons (by decide) (fun y hy => by have := hP y hy; omega))
  intro q15 eq15
  have eq15' : q15 = 66 := eq15.trans (hS14.len (by decide))
  subst eq15'
  intro S16 eS16
  have hS16 := hS14.nw eS16 rfl
  intro S17 eS17
  have hS17 := hS16.sp eS17 (zST.cons (by decide) (zST.cons (by decide) (fun y hy => by have := hP y hy; omega)))
  intro q18 eq18
  have eq18' : q18 = 67 := eq18.trans (hS17.len (by decide))
  subst eq18'
  intro S19 eS19
  have hS19 := hS17.nw eS19 rfl
  intro S20 eS20
  have hS20 := hS19.sp eS20 (zST.cons (by decide) (zST.cons (by decide) (zST.cons (by decide) (fun y hy => by have := hP y hy; omega))))
  intro q21 eq21
  have eq21' : q21 = 68 := eq21.trans (hS20.len (by decide))
  subst eq21'
  intro S22 eS22
  have hS22 := hS20.nw eS22 rfl
  intro S23 eS23
  have hS23 := hS22.sp eS23 (zST.cons (by decide) (zST.cons (by decide) (zST.cons (by decide) (zST.cons (by decide) (fun y hy => by have := hP y hy; omega)))))
  intro q24 eq24
  have eq24' : q24 = 69 := eq24.trans (hS23.len (by decide))
  subst eq24'
  intro S25 eS25
  have hS25 := hS23.nw eS25 rfl
  intro S26 eS26
  have hS26 := hS25.sp eS26 (zST.cons (by decide) (zST.cons (by decide) (zST.cons (by decide) (zST.cons (by decide) (zST.cons (by decide) (fun y hy => by have := hP y hy; omega))))))
  intro S27 eS27
  have hS27 := hS26.s0 eS27 (by decide) (hp _ _ (by decide))
  intro S28 eS28
  have hS28 := hS27.s0 eS28 (by decide) (hp _ _ (by decide))
  intro q29 eq29
  have eq29' : q29 = 70 := eq29.trans (hS28.len (by decide))
  subst eq29'
  intro S30 eS30
  have hS30 := hS28.nw eS30 rfl
  intro S31 eS31
  have hS31 := hS30.sp eS31 (zST.cons (by decide) (zST.cons (by decide) (zST.cons (by decide) (zST.cons (by decide) (zST.cons (by decide) (zST.cons (by decide) (fun y hy => by have := hP y hy; omega)))))))
  intro q32 eq32
  have eq32' : q32 = 71 := eq32.trans (hS31.len (by decide))
  subst eq32'
  intro S33 eS33
  have hS33 := hS31.nw eS33 rfl
  intro S34 eS34
  have hS34 := hS33.sp eS34 (zST.cons (by decide) (zST.cons (by decide) (zST.cons (by decide) (zST.cons (by decide) (zST.cons (by decide) (zST.cons (by decide) (zST.cons (by decide) (fun y hy => by have := hP y hy; omega))))))))
  exact k S34 hS34
theorem z_X8_62 (h : zST L g 63 P p S) (hP : ∀ y, y ∈ P → y.1.1 < 62) (hp : ∀ b j, 62 ≤ b → p b j = false) (k : ∀ S', zST L g 74 (((62, 2), 73) :: ((62, 1), 72) :: ((62, 0), 63) :: ((63, 17), 71) :: ((63, 16), 70) :: ((63, 13), 69) :: ((63, 12), 68) :: ((63, 11), 67) :: ((63, 10), 66) :: ((63, 9), 65) :: ((63, 8), 64) :: P) p S' → Q S') : M_X8_init l G 62 S Q := by
  refine e_X8_init (b_X8_init_0 (h.kd (by decide)) ?_)
  intro q1 eq1
  have eq1' : q1 = 63 := eq1.trans (h.len (by decide))
  subst eq1'
  intro S2 eS2
  have hS2 := h.nw eS2 rfl
  refine z_X6_63 hS2 (fun y hy => by have := hP y hy; omega) (fun b j hb => hp b j (by omega)) (fun S3 hS3 => ?_)
  intro S4 eS4
  have hS4 := hS3.sp eS4 (zST.cons (by decide) (zST.cons (by decide) (zST.cons (by decide) (zST.cons (by decide) (zST.cons (by decide) (zST.cons (by decide) (zST.cons (by decide) (zST.cons (by decide) (fun y hy => by have := hP y hy; omega)))))))))
  intro q5 eq5
  have eq5' : q5 = 72 := eq5.trans (hS4.len (by decide))
  subst eq5'
  intro S6 eS6
  have hS6 := hS4.nw eS6 rfl
  intro S7 eS7
  have hS7 := hS6.sp eS7 (zST.cons (by decide) (zST.cons (by decide) (zST.cons (by decide) (zST.cons (by decide) (zST.cons (by decide) (zST.cons (by decide) (zST.cons (by decide) (zST.cons (by decide) (zST.cons (by decide) (fun y hy => by have := hP y hy; omega))))))))))
  intro q8 eq8
  have eq8' : q8 = 73 := eq8.trans (hS7.len (by decide))
  subst eq8'
  intro S9 eS9
  have hS9 := hS7.nw eS9 rfl
  intro S10 eS10
  have hS10 := hS9.sp eS10 (zST.cons (by decide) (zST.cons (by decide) (zST.cons (by decide) (zST.cons (by decide) (zST.cons (by decide) (zST.cons (by decide) (zST.cons (by decide) (zST.cons (by decide) (zST.cons (by decide) (zST.cons (by decide) (fun y hy => by have := hP y hy; omega)))))))))))
  intro S11 eS11
  have hS11 := hS10.s0 eS11 (by decide) (hp _ _ (by decide))
  intro S12 eS12
  have hS12 := hS11.s0 eS12 (by decide) (hp _ _ (by decide))
  exact k S12 hS12
theorem z_X4_74 (h : zST L g 75 P p S) (hP : ∀ y, y ∈ P → y.1.1 < 74) (hp : ∀ b j, 74 ≤ b → p b j = false) (k : ∀ S', zST L g 79 (((74, 6), 78) :: ((74, 5), 77) :: ((74, 3), 76) :: ((74, 2), 75) :: P) p S' → Q S') : M_X4_init l G 74 S Q := by
  refine e_X4_init (b_X4_init_0 (h.kd (by decide)) ?_)
  intro S1 eS1
  have hS1 := h.s0 eS1 (by decide) (hp _ _ (by decide))
  intro S2 eS2
  have hS2 := hS1.s0 eS2 (by decide) (hp _ _ (by decide))
  intro q3 eq3
  have eq3' : q3 = 75 := eq3.trans (hS2.len (by decide))
  subst eq3'
  intro S4 eS4
  have hS4 := hS2.nw eS4 rfl
  intro S5 eS5
  have hS5 := hS4.sp eS5 (fun y hy => by have := hP y hy; omega)
  intro q6 eq6
  have eq6' : q6 = 76 := eq6.trans (hS5.len (by decide))
  subst eq6'
  intro S7 eS7
  have hS7 := hS5.nw eS7 rfl
  intro S8 eS8
  have hS8 := hS7.sp eS8 (zST.cons (by decide) (fun y hy => by have := hP y hy; omega))
  intro S9 eS9
  have hS9 := hS8.s0 eS9 (by decide) (hp _ _ (by decide))
  intro q10 eq10
  have eq10' : q10 = 77 := eq10.trans (hS9.len (by decide))
  subst eq10'
  intro S11 eS11
  have hS11 := hS9.nw eS11 rfl
  intro S12 eS12
  have hS12 := hS11.sp eS12 (zST.cons (by decide) (zST.cons (by decide) (fun y hy => by have := hP y hy; omega)))
  intro q13 eq13
  have eq13' : q13 = 78 := eq13.trans (hS12.len (by decide))
  subst eq13'
  intro S14 eS14
  have hS14 := hS12.nw eS14 rfl
  intro S15 eS15
  have hS15 := hS14.sp eS15 (zST.cons (by decide) (zST.cons (by decide) (zST.cons (by decide) (fun y hy => by have := hP y hy; omega))))
  exact k S15 hS15
theorem z_X0_79 (h : zST L g 80 P p S) (hP : ∀ y, y ∈ P → y.1.1 < 79) (hp : ∀ b j, 79 ≤ b → p b j = false) (k : ∀ S', zST L g 80 (P) p S' → Q S') : M_X0_init l G 79 S Q := by
  refine e_X0_init (b_X0_init_0 (h.kd (by decide)) ?_)
  intro S1 eS1
  have hS1 := h.s0 eS1 (by decide) (hp _ _ (by decide))
  intro S2 eS2
  have hS2 := hS1.s0 eS2 (by decide) (hp _ _ (by decide))
  intro S3 eS3
  have hS3 := hS2.s0 eS3 (by decide) (hp _ _ (by decide))
  exact k S3 hS3
theorem z_X3_80 (h : zST L g 81 P p S) (hP : ∀ y, y ∈ P → y.1.1 < 80) (hp : ∀ b j, 80 ≤ b → p b j = false) (k : ∀ S', zST L g 85 (((80, 3), 84) :: ((80, 2), 83) :: ((80, 1), 82) :: ((80, 0), 81) :: P) p S' → Q S') : M_X3_init l G 80 S Q := by
  refine e_X3_init (b_X3_init_0 (h.kd (by decide)) ?_)
  intro q1 eq1
  have eq1' : q1 = 81 := eq1.trans (h.len (by decide))
  subst eq1'
  intro S2 eS2
  have hS2 := h.nw eS2 rfl
  intro S3 eS3
  have hS3 := hS2.sp eS3 (fun y hy => by have := hP y hy; omega)
  intro q4 eq4
  have eq4' : q4 = 82 := eq4.trans (hS3.len (by decide))
  subst eq4'
  intro S5 eS5
  have hS5 := hS3.nw eS5 rfl
  intro S6 eS6
  have hS6 := hS5.sp eS6 (zST.cons (by decide) (fun y hy => by have := hP y hy; omega))
  intro q7 eq7
  have eq7' : q7 = 83 := eq7.trans (hS6.len (by decide))
  subst eq7'
  intro S8 eS8
  have hS8 := hS6.nw eS8 rfl
  intro S9 eS9
  have hS9 := hS8.sp eS9 (zST.cons (by decide) (zST.cons (by decide) (fun y hy => by have := hP y hy; omega)))
  intro q10 eq10
  have eq10' : q10 = 84 := eq10.trans (hS9.len (by decide))
  subst eq10'
  intro S11 eS11
  have hS11 := hS9.nw eS11 rfl
  intro S12 eS12
  have hS12 := hS11.sp eS12 (zST.cons (by decide) (zST.cons (by decide) (zST.cons (by decide) (fun y hy => by have := hP y hy; omega))))
  exact k S12 hS12
theorem z_X9_85 (h : zST L g 86 P p S) (hP : ∀ y, y ∈ P → y.1.1 < 85) (hp : ∀ b j, 85 ≤ b → p b j = false) (k : ∀ S', zST L g 88 (((85, 2), 87) :: ((85, 1), 86) :: P) p S' → Q S') : M_X9_init l G 85 S Q := by
  refine e_X9_init (b_X9_init_0 (h.kd (by decide)) ?_)
  intro S1 eS1
  have hS1 := h.s0 eS1 (by decide) (hp _ _ (by decide))
  intro q2 eq2
  have eq2' : q2 = 86 := eq2.trans (hS1.len (by decide))
  subst eq2'
  intro S3 eS3
  have hS3 := hS1.nw eS3 rfl
  intro S4 eS4
  have hS4 := hS3.sp eS4 (fun y hy => by have := hP y hy; omega)
  intro q5 eq5
  have eq5' : q5 = 87 := eq5.trans (hS4.len (by decide))
  subst eq5'
  intro S6 eS6
  have hS6 := hS4.nw eS6 rfl
  intro S7 eS7
  have hS7 := hS6.sp eS7 (zST.cons (by decide) (fun y hy => by have := hP y hy; omega))
  exact k S7 hS7
theorem z_X10_6 (h : zST L g 7 P p S) (hP : ∀ y, y ∈ P → y.1.1 < 6) (hp : ∀ b j, 6 ≤ b → p b j = false) (k : ∀ S', zST L g 89 (((6, 13), 88) :: ((6, 12), 85) :: ((85, 2), 87) :: ((85, 1), 86) :: ((6, 11), 80) :: ((80, 3), 84) :: ((80, 2), 83) :: ((80, 1), 82) :: ((80, 0), 81) :: ((6, 10), 79) :: ((6, 9), 74) :: ((74, 6), 78) :: ((74, 5), 77) :: ((74, 3), 76) :: ((74, 2), 75) :: ((6, 8), 62) :: ((62, 2), 73) :: ((62, 1), 72) :: ((62, 0), 63) :: ((63, 17), 71) :: ((63, 16), 70) :: ((63, 13), 69) :: ((63, 12), 68) :: ((63, 11), 67) :: ((63, 10), 66) :: ((63, 9), 65) :: ((63, 8), 64) :: ((6, 7), 50) :: ((50, 2), 61) :: ((50, 1), 60) :: ((50, 0), 51) :: ((51, 17), 59) :: ((51, 16), 58) :: ((51, 13), 57) :: ((51, 12), 56) :: ((51, 11), 55) :: ((51, 10), 54) :: ((51, 9), 53) :: ((51, 8), 52) :: ((6, 6), 41) :: ((41, 17), 49) :: ((41, 16), 48) :: ((41, 13), 47) :: ((41, 12), 46) :: ((41, 11), 45) :: ((41, 10), 44) :: ((41, 9), 43) :: ((41, 8), 42) :: ((6, 5), 32) :: ((32, 17), 40) :: ((32, 16), 39) :: ((32, 13), 38) :: ((32, 12), 37) :: ((32, 11), 36) :: ((32, 10), 35) :: ((32, 9), 34) :: ((32, 8), 33) :: ((6, 4), 23) :: ((23, 5), 31) :: ((23, 4), 30) :: ((23, 3), 29) :: ((23, 2), 24) :: ((24, 3), 28) :: ((24, 2), 27) :: ((24, 1), 26) :: ((24, 0), 25) :: ((6, 3), 20) :: ((20, 3), 22) :: ((20, 0), 21) :: ((6, 2), 8) :: ((8, 5), 19) :: ((8, 4), 10) :: ((10, 17), 18) :: ((10, 16), 17) :: ((10, 13), 16) :: ((10, 12), 15) :: ((10, 11), 14) :: ((10, 10), 13) :: ((10, 9), 12) :: ((10, 8), 11) :: ((8, 0), 9) :: ((6, 0), 7) :: P) (fun c k => p c k || (Nat.beq c 23 && Nat.beq k 1)) S' → Q S') : M_X10_init l G 6 S Q := by
  refine e_X10_init (b_X10_init_0 (h.kd (by decide)) ?_)
  intro q1 eq1
  have eq1' : q1 = 7 := eq1.trans (h.len (by decide))
  subst eq1'
  intro S2 eS2
  have hS2 := h.nw eS2 rfl
  intro S3 eS3
  have hS3 := hS2.sp eS3 (fun y hy => by have := hP y hy; omega)
  intro S4 eS4
  have hS4 := hS3.s0 eS4 (by decide) (hp _ _ (by decide))
  intro q5 eq5
  have eq5' : q5 = 8 := eq5.trans (hS4.len (by decide))
  subst eq5'
  intro S6 eS6
  have hS6 := hS4.nw eS6 rfl
  refine z_X7_8 hS6 (zST.bc (by decide) (fun y hy => by have := hP y hy; omega)) (fun b j hb => hp b j (by omega)) (fun S7 hS7 => ?_)
  intro S8 eS8
  have hS8 := hS7.sp eS8 (zST.cons (by decide) (zST.cons (by decide) (zST.cons (by decide) (zST.cons (by decide) (zST.cons (by decide) (zST.cons (by decide) (zST.cons (by decide) (zST.cons (by decide) (zST.cons (by decide) (zST.cons (by decide) (zST.cons (by decide) (zST.cons (by decide) (fun y hy => by have := hP y hy; omega)))))))))))))
  intro q9 eq9
  have eq9' : q9 = 20 := eq9.trans (hS8.len (by decide))
  subst eq9'
  intro S10 eS10
  have hS10 := hS8.nw eS10 rfl
  refine z_X1_20 hS10 (zST.bc (by decide) (zST.bc (by decide) (zST.bc (by decide) (zST.bc (by decide) (zST.bc (by decide) (zST.bc (by decide) (zST.bc (by decide) (zST.bc (by decide) (zST.bc (by decide) (zST.bc (by decide) (zST.bc (by decide) (zST.bc (by decide) (zST.bc (by decide) (fun y hy => by have := hP y hy; omega)))))))))))))) (fun b j hb => hp b j (by omega)) (fun S11 hS11 => ?_)
  intro S12 eS12
  have hS12 := hS11.sp eS12 (zST.cons (by decide) (zST.cons (by decide) (zST.cons (by decide) (zST.cons (by decide) (zST.cons (by decide) (zST.cons (by decide) (zST.cons (by decide) (zST.cons (by decide) (zST.cons (by decide) (zST.cons (by decide) (zST.cons (by decide) (zST.cons (by decide) (zST.cons (by decide) (zST.cons (by decide) (zST.cons (by decide) (fun y hy => by have := hP y hy; omega))))))))))))))))
  intro q13 eq13
  have eq13' : q13 = 23 := eq13.trans (hS12.len (by decide))
  subst eq13'
  intro S14 eS14
  have hS14 := hS12.nw eS14 rfl
  refine z_X2_23 hS14 (zST.bc (by decide) (zST.bc (by decide) (zST.bc (by decide) (zST.bc (by decide) (zST.bc (by decide) (zST.bc (by decide) (zST.bc (by decide) (zST.bc (by decide) (zST.bc (by decide) (zST.bc (by decide) (zST.bc (by decide) (zST.bc (by decide) (zST.bc (by decide) (zST.bc (by decide) (zST.bc (by decide) (zST.bc (by decide) (fun y hy => by have := hP y hy; omega))))))))))))))))) (fun b j hb => hp b j (by omega)) (fun S15 hS15 => ?_)
  intro S16 eS16
  have hS16 := hS15.sp eS16 (zST.cons (by decide) (zST.cons (by decide) (zST.cons (by decide) (zST.cons (by decide) (zST.cons (by decide) (zST.cons (by decide) (zST.cons (by decide) (zST.cons (by decide) (zST.cons (by decide) (zST.cons (by decide) (zST.cons (by decide) (zST.cons (by decide) (zST.cons (by decide) (zST.cons (by decide) (zST.cons (by decide) (zST.cons (by decide) (zST.cons (by decide) (zST.cons (by decide) (zST.cons (by decide) (zST.cons (by decide) (zST.cons (by decide) (zST.cons (by decide) (zST.cons (by decide) (zST.cons (by decide) (fun y hy => by have := hP y hy; omega)))))))))))))))))))))))))
  intro q17 eq17
  have eq17' : q17 = 32 := eq17.trans (hS16.len (by decide))
  subst eq17'
  intro S18 eS18
  have hS18 := hS16.nw eS18 rfl
  refine z_X6_32 hS18 (zST.bc (by decide) (zST.bc (by decide) (zST.bc (by decide) (zST.bc (by decide) (zST.bc (by decide) (zST.bc (by decide) (zST.bc (by decide) (zST.bc (by decide) (zST.bc (by decide) (zST.bc (by decide) (zST.bc (by decide) (zST.bc (by decide) (zST.bc (by decide) (zST.bc (by decide) (zST.bc (by decide) (zST.bc (by decide) (zST.bc (by decide) (zST.bc (by decide) (zST.bc (by decide) (zST.bc (by decide) (zST.bc (by decide) (zST.bc (by decide) (zST.bc (by decide) (zST.bc (by decide) (zST.bc (by decide) (fun y hy => by have := hP y hy; omega)))))))))))))))))))))))))) (fun b j hb => by rw [hp b j (by omega)]; exact zST.pz (Nat.le_trans (by decide) hb)) (fun S19 hS19 => ?_)
  intro S20 eS20
  have hS20 := hS19.sp eS20 (zST.cons (by decide) (zST.cons (by decide) (zST.cons (by decide) (zST.cons (by decide) (zST.cons (by decide) (zST.cons (by decide) (zST.cons (by decide) (zST.cons (by decide) (zST.cons (by decide) (zST.cons (by decide) (zST.cons (by decide) (zST.cons (by decide) (zST.cons (by decide) (zST.cons (by decide) (zST.cons (by decide) (zST.cons (by decide) (zST.cons (by decide) (zST.cons (by decide) (zST.cons (by decide) (zST.cons (by decide) (zST.cons (by decide) (zST.cons (by decide) (zST.cons (by decide) (zST.cons (by decide) (zST.cons (by decide) (zST.cons (by decide) (zST.cons (by decide) (zST.cons (by decide) (zST.cons (by decide) (zST.cons (by decide) (zST.cons (by decide) (zST.cons (by decide) (zST.cons (by decide) (fun y hy => by have := hP y hy; omega))))))))))))))))))))))))))))))))))
  intro q21 eq21
  have eq21' : q21 = 41 := eq21.trans (hS20.len (by decide))
  subst eq21'
  intro S22 eS22
  have hS22 := hS20.nw eS22 rfl
  refine z_X6_41 hS22 (zST.bc (by decide) (zST.bc (by decide) (zST.bc (by decide) (zST.bc (by decide) (zST.bc (by decide) (zST.bc (by decide) (zST.bc (by decide) (zST.bc (by decide) (zST.bc (by decide) (zST.bc (by decide) (zST.bc (by decide) (zST.bc (by decide) (zST.bc (by decide) (zST.bc (by decide) (zST.bc (by decide) (zST.bc (by decide) (zST.bc (by decide) (zST.bc (by decide) (zST.bc (by decide) (zST.bc (by decide) (zST.bc (by decide) (zST.bc (by decide) (zST.bc (by decide) (zST.bc (by decide) (zST.bc (by decide) (zST.bc (by decide) (zST.bc (by decide) (zST.bc (by decide) (zST.bc (by decide) (zST.bc (by decide) (zST.bc (by decide) (zST.bc (by decide) (zST.bc (by decide) (zST.bc (by decide) (fun y hy => by have := hP y hy; omega))))))))))))))))))))))))))))))))))) (fun b j hb => by rw [hp b j (by omega)]; exact zST.pz (Nat.le_trans (by decide) hb)) (fun S23 hS23 => ?_)
  intro S24 eS24
  have hS24 := hS23.sp eS24 (zST.cons (by decide) (zST.cons (by decide) (zST.cons (by decide) (zST.cons (by decide) (zST.cons (by decide) (zST.cons (by decide) (zST.cons (by decide) (zST.cons (by decide) (zST.cons (by decide) (zST.cons (by decide) (zST.cons (by decide) (zST.cons (by decide) (zST.cons (by decide) (zST.cons (by decide) (zST.cons (by decide) (zST.cons (by decide) (zST.cons (by decide) (zST.cons (by decide) (zST.cons (by decide) (zST.cons (by decide) (zST.cons (by decide) (zST.cons (by decide) (zST.cons (by decide) (zST.cons (by decide) (zST.cons (by decide) (zST.cons (by decide) (zST.cons (by decide) (zST.cons (by decide) (zST.cons (by decide) (zST.cons (by decide) (zST.cons (by decide) (zST.cons (by decide) (zST.cons (by decide) (zST.cons (by decide) (zST.cons (by decide) (zST.cons (by decide) (zST.cons (by decide) (zST.cons (by decide) (zST.cons (by decide) (zST.cons (by decide) (zST.cons (by decide) (zST.cons (by decide) (fun y hy => by have := hP y hy; omega)))))))))))))))))))))))))))))))))))))))))))
  intro q25 eq25
  have eq25' : q25 = 50 := eq25.trans (hS24.len (by decide))
  subst eq25'
  intro S26 eS26
  have hS26 := hS24.nw eS26 rfl
  refine z_X8_50 hS26 (zST.bc (by decide) (zST.bc (by decide) (zST.bc (by decide) (zST.bc (by decide) (zST.bc (by decide) (zST.bc (by decide) (zST.bc (by decide) (zST.bc (by decide) (zST.bc (by decide) (zST.bc (by decide) (zST.bc (by decide) (zST.bc (by decide) (zST.bc (by decide) (zST.bc (by decide) (zST.bc (by decide) (zST.bc (by decide) (zST.bc (by decide) (zST.bc (by decide) (zST.bc (by decide) (zST.bc (by decide) (zST.bc (by decide) (zST.bc (by decide) (zST.bc (by decide) (zST.bc (by decide) (zST.bc (by decide) (zST.bc (by decide) (zST.bc (by decide) (zST.bc (by decide) (zST.bc (by decide) (zST.bc (by decide) (zST.bc (by decide) (zST.bc (by decide) (zST.bc (by decide) (zST.bc (by decide) (zST.bc (by decide) (zST.bc (by decide) (zST.bc (by decide) (zST.bc (by decide) (zST.bc (by decide) (zST.bc (by decide) (zST.bc (by decide) (zST.bc (by decide) (zST.bc (by decide) (fun y hy => by have := hP y hy; omega)))))))))))))))))))))))))))))))))))))))))))) (fun b j hb => by rw [hp b j (by omega)]; exact zST.pz (Nat.le_trans (by decide) hb)) (fun S27 hS27 => ?_)
  intro S28 eS28
  have hS28 := hS27.sp eS28 (zST.cons (by decide) (zST.cons (by decide) (zST.cons (by decide) (zST.cons (by decide) (zST.cons (by decide) (zST.cons (by decide) (zST.cons (by decide) (zST.cons (by decide) (zST.cons (by decide) (zST.cons (by decide) (zST.cons (by decide) (zST.cons (by decide) (zST.cons (by decide) (zST.cons (by decide) (zST.cons (by decide) (zST.cons (by decide) (zST.cons (by decide) (zST.cons (by decide) (zST.cons (by decide) (zST.cons (by decide) (zST.cons (by decide) (zST.cons (by decide) (zST.cons (by decide) (zST.cons (by decide) (zST.cons (by decide) (zST.cons (by decide) (zST.cons (by decide) (zST.cons (by decide) (zST.cons (by decide) (zST.cons (by decide) (zST.cons (by decide) (zST.cons (by decide) (zST.cons (by decide) (zST.cons (by decide) (zST.cons (by decide) (zST.cons (by decide) (zST.cons (by decide) (zST.cons (by decide) (zST.cons (by decide) (zST.cons (by decide) (zST.cons (by decide) (zST.cons (by decide) (zST.cons (by decide) (zST.cons (by decide) (zST.cons (by decide) (zST.cons (by decide) (zST.cons (by decide) (zST.cons (by decide) (zST.cons (by decide) (zST.cons (by decide) (zST.cons (by decide) (zST.cons (by decide) (zST.cons (by decide) (zST.cons (by decide) (fun y hy => by have := hP y hy; omega)))))))))))))))))))))))))))))))))))))))))))))))))))))))
  intro q29 eq29
  have eq29' : q29 = 62 := eq29.trans (hS28.len (by decide))
  subst eq29'
  intro S30 eS30
  have hS30 := hS28.nw eS30 rfl
  refine z_X8_62 hS30 (zST.bc (by decide) (zST.bc (by decide) (zST.bc (by decide) (zST.bc (by decide) (zST.bc (by decide) (zST.bc (by decide) (zST.bc (by decide) (zST.bc (by decide) (zST.bc (by decide) (zST.bc (by decide) (zST.bc (by decide) (zST.bc (by decide) (zST.bc (by decide) (zST.bc (by decide) (zST.bc (by decide) (zST.bc (by decide) (zST.bc (by decide) (zST.bc (by decide) (zST.bc (by decide) (zST.bc (by decide) (zST.bc (by decide) (zST.bc (by decide) (zST.bc (by decide) (zST.bc (by decide) (zST.bc (by decide) (zST.bc (by decide) (zST.bc (by decide) (zST.bc (by decide) (zST.bc (by decide) (zST.bc (by decide) (zST.bc (by decide) (zST.bc (by decide) (zST.bc (by decide) (zST.bc (by decide) (zST.bc (by decide) (zST.bc (by decide) (zST.bc (by decide) (zST.bc (by decide) (zST.bc (by decide) (zST.bc (by decide) (zST.bc (by decide) (zST.bc (by decide) (zST.bc (by decide) (zST.bc (by decide) (zST.bc (by decide) (zST.bc (by decide) (zST.bc (by decide) (zST.bc (by decide) (zST.bc (by decide) (zST.bc (by decide) (zST.bc (by decide) (zST.bc (by decide) (zST.bc (by decide) (zST.bc (by decide) (zST.bc (by decide) (fun y hy => by have := hP y hy; omega)))))))))))))))))))))))))))))))))))))))))))))))))))))))) (fun b j hb => by rw [hp b j (by omega)]; exact zST.pz (Nat.le_trans (by decide) hb)) (fun S31 hS31 => ?_)
  intro S32 eS32
  have hS32 := hS31.sp eS32 (zST.cons (by decide) (zST.cons (by decide) (zST.cons (by decide) (zST.cons (by decide) (zST.cons (by decide) (zST.cons (by decide) (zST.cons (by decide) (zST.cons (by decide) (zST.cons (by decide) (zST.cons (by decide) (zST.cons (by decide) (zST.cons (by decide) (zST.cons (by decide) (zST.cons (by decide) (zST.cons (by decide) (zST.cons (by decide) (zST.cons (by decide) (zST.cons (by decide) (zST.cons (by decide) (zST.cons (by decide) (zST.cons (by decide) (zST.cons (by decide) (zST.cons (by decide) (zST.cons (by decide) (zST.cons (by decide) (zST.cons (by decide) (zST.cons (by decide) (zST.cons (by decide) (zST.cons (by decide) (zST.cons (by decide) (zST.cons (by decide) (zST.cons (by decide) (zST.cons (by decide) (zST.cons (by decide) (zST.cons (by decide) (zST.cons (by decide) (zST.cons (by decide) (zST.cons (by decide) (zST.cons (by decide) (zST.cons (by decide) (zST.cons (by decide) (zST.cons (by decide) (zST.cons (by decide) (zST.cons (by decide) (zST.cons (by decide) (zST.cons (by decide) (zST.cons (by decide) (zST.cons (by decide) (zST.cons (by decide) (zST.cons (by decide) (zST.cons (by decide) (zST.cons (by decide) (zST.cons (by decide) (zST.cons (by decide) (zST.cons (by decide) (zST.cons (by decide) (zST.cons (by decide) (zST.cons (by decide) (zST.cons (by decide) (zST.cons (by decide) (zST.cons (by decide) (zST.cons (by decide) (zST.cons (by decide) (zST.cons (by decide) (zST.cons (by decide) (zST.cons (by decide) (fun y hy => by have := hP y hy; omega)))))))))))))))))))))))))))))))))))))))))))))))))))))))))))))))))))
  intro q33 eq33
  have eq33' : q33 = 74 := eq33.trans (hS32.len (by decide))
  subst eq33'
  intro S34 eS34
  have hS34 := hS32.nw eS34 rfl
  refine z_X4_74 hS34 (zST.bc (by decide) (zST.bc (by decide) (zST.bc (by decide) (zST.bc (by decide) (zST.bc (by decide) (zST.bc (by decide) (zST.bc (by decide) (zST.bc (by decide) (zST.bc (by decide) (zST.bc (by decide) (zST.bc (by decide) (zST.bc (by decide) (zST.bc (by decide) (zST.bc (by decide) (zST.bc (by decide) (zST.bc (by decide) (zST.bc (by decide) (zST.bc (by decide) (zST.bc (by decide) (zST.bc (by decide) (zST.bc (by decide) (zST.bc (by decide) (zST.bc (by decide) (zST.bc (by decide) (zST.bc (by decide) (zST.bc (by decide) (zST.bc (by decide) (zST.bc (by decide) (zST.bc (by decide) (zST.bc (by decide) (zST.bc (by decide) (zST.bc (by decide) (zST.bc (by decide) (zST.bc (by decide) (zST.bc (by decide) (zST.bc (by decide) (zST.bc (by decide) (zST.bc (by decide) (zST.bc (by decide) (zST.bc (by decide) (zST.bc (by decide) (zST.bc (by decide) (zST.bc (by decide) (zST.bc (by decide) (zST.bc (by decide) (zST.bc (by decide) (zST.bc (by decide) (zST.bc (by decide) (zST.bc (by decide) (zST.bc (by decide) (zST.bc (by decide) (zST.bc (by decide) (zST.bc (by decide) (zST.bc (by decide) (zST.bc (by decide) (zST.bc (by decide) (zST.bc (by decide) (zST.bc (by decide) (zST.bc (by decide) (zST.bc (by decide) (zST.bc (by decide) (zST.bc (by decide) (zST.bc (by decide) (zST.bc (by decide) (zST.bc (by decide) (zST.bc (by decide) (zST.bc (by decide) (fun y hy => by have := hP y hy; omega)))))))))))))))))))))))))))))))))))))))))))))))))))))))))))))))))))) (fun b j hb => by rw [hp b j (by omega)]; exact zST.pz (Nat.le_trans (by decide) hb)) (fun S35 hS35 => ?_)
  intro S36 eS36
  have hS36 := hS35.sp eS36 (zST.cons (by decide) (zST.cons (by decide) (zST.cons (by decide) (zST.cons (by decide) (zST.cons (by decide) (zST.cons (by decide) (zST.cons (by decide) (zST.cons (by decide) (zST.cons (by decide) (zST.cons (by decide) (zST.cons (by decide) (zST.cons (by decide) (zST.cons (by decide) (zST.cons (by decide) (zST.cons (by decide) (zST.cons (by decide) (zST.cons (by decide) (zST.cons (by decide) (zST.cons (by decide) (zST.cons (by decide) (zST.cons (by decide) (zST.cons (by decide) (zST.cons (by decide) (zST.cons (by decide) (zST.cons (by decide) (zST.cons (by decide) (zST.cons (by decide) (zST.cons (by decide) (zST.cons (by decide) (zST.cons (by decide) (zST.cons (by decide) (zST.cons (by decide) (zST.cons (by decide) (zST.cons (by decide) (zST.cons (by decide) (zST.cons (by decide) (zST.cons (by decide) (zST.cons (by decide) (zST.cons (by decide) (zST.cons (by decide) (zST.cons (by decide) (zST.cons (by decide) (zST.cons (by decide) (zST.cons (by decide) (zST.cons (by decide) (zST.cons (by decide) (zST.cons (by decide) (zST.cons (by decide) (zST.cons (by decide) (zST.cons (by decide) (zST.cons (by decide) (zST.cons (by decide) (zST.cons (by decide) (zST.cons (by decide) (zST.cons (by decide) (zST.cons (by decide) (zST.cons (by decide) (zST.cons (by decide) (zST.cons (by decide) (zST.cons (by decide) (zST.cons (by decide) (zST.cons (by decide) (zST.cons (by decide) (zST.cons (by decide) (zST.cons (by decide) (zST.cons (by decide) (zST.cons (by decide) (zST.cons (by decide) (zST.cons (by decide) (zST.cons (by decide) (zST.cons (by decide) (fun y hy => by have := hP y hy; omega))))))))))))))))))))))))))))))))))))))))))))))))))))))))))))))))))))))))
  intro q37 eq37
  have eq37' : q37 = 79 := eq37.trans (hS36.len (by decide))
  subst eq37'
  intro S38 eS38
  have hS38 := hS36.nw eS38 rfl
  refine z_X0_79 hS38 (zST.bc (by decide) (zST.bc (by decide) (zST.bc (by decide) (zST.bc (by decide) (zST.bc (by decide) (zST.bc (by decide) (zST.bc (by decide) (zST.bc (by decide) (zST.bc (by decide) (zST.bc (by decide) (zST.bc (by decide) (zST.bc (by decide) (zST.bc (by decide) (zST.bc (by decide) (zST.bc (by decide) (zST.bc (by decide) (zST.bc (by decide) (zST.bc (by decide) (zST.bc (by decide) (zST.bc (by decide) (zST.bc (by decide) (zST.bc (by decide) (zST.bc (by decide) (zST.bc (by decide) (zST.bc (by decide) (zST.bc (by decide) (zST.bc (by decide) (zST.bc (by decide) (zST.bc (by decide) (zST.bc (by decide) (zST.bc (by decide) (zST.bc (by decide) (zST.bc (by decide) (zST.bc (by decide) (zST.bc (by decide) (zST.bc (by decide) (zST.bc (by decide) (zST.bc (by decide) (zST.bc (by decide) (zST.bc (by decide) (zST.bc (by decide) (zST.bc (by decide) (zST.bc (by decide) (zST.bc (by decide) (zST.bc (by decide) (zST.bc (by decide) (zST.bc (by decide) (zST.bc (by decide) (zST.bc (by decide) (zST.bc (by decide) (zST.bc (by decide) (zST.bc (by decide) (zST.bc (by decide) (zST.bc (by decide) (zST.bc (by decide) (zST.bc (by decide) (zST.bc (by decide) (zST.bc (by decide) (zST.bc (by decide) (zST.bc (by decide) (zST.bc (by decide) (zST.bc (by decide) (zST.bc (by decide) (zST.bc (by decide) (zST.bc (by decide) (zST.bc (by decide) (zST.bc (by decide) (zST.bc (by decide) (zST.bc (by decide) (zST.bc (by decide) (zST.bc (by decide) (zST.bc (by decide) (fun y hy => by have := hP y hy; omega))))))))))))))))))))))))))))))))))))))))))))))))))))))))))))))))))))))))) (fun b j hb => by rw [hp b j (by omega)]; exact zST.pz (Nat.le_trans (by decide) hb)) (fun S39 hS39 => ?_)
  intro S40 eS40
  have hS40 := hS39.sp eS40 (zST.cons (by decide) (zST.cons (by decide) (zST.cons (by decide) (zST.cons (by decide) (zST.cons (by decide) (zST.cons (by decide) (zST.cons (by decide) (zST.cons (by decide) (zST.cons (by decide) (zST.cons (by decide) (zST.cons (by decide) (zST.cons (by decide) (zST.cons (by decide) (zST.cons (by decide) (zST.cons (by decide) (zST.cons (by decide) (zST.cons (by decide) (zST.cons (by decide) (zST.cons (by decide) (zST.cons (by decide) (zST.cons (by decide) (zST.cons (by decide) (zST.cons (by decide) (zST.cons (by decide) (zST.cons (by decide) (zST.cons (by decide) (zST.cons (by decide) (zST.cons (by decide) (zST.cons (by decide) (zST.cons (by decide) (zST.cons (by decide) (zST.cons (by decide) (zST.cons (by decide) (zST.cons (by decide) (zST.cons (by decide) (zST.cons (by decide) (zST.cons (by decide) (zST.cons (by decide) (zST.cons (by decide) (zST.cons (by decide) (zST.cons (by decide) (zST.cons (by decide) (zST.cons (by decide) (zST.cons (by decide) (zST.cons (by decide) (zST.cons (by decide) (zST.cons (by decide) (zST.cons (by decide) (zST.cons (by decide) (zST.cons (by decide) (zST.cons (by decide) (zST.cons (by decide) (zST.cons (by decide) (zST.cons (by decide) (zST.cons (by decide) (zST.cons (by decide) (zST.cons (by decide) (zST.cons (by decide) (zST.cons (by decide) (zST.cons (by decide) (zST.cons (by decide) (zST.cons (by decide) (zST.cons (by decide) (zST.cons (by decide) (zST.cons (by decide) (zST.cons (by decide) (zST.cons (by decide) (zST.cons (by decide) (zST.cons (by decide) (zST.cons (by decide) (zST.cons (by decide) (zST.cons (by decide) (fun y hy => by have := hP y hy; omega)))))))))))))))))))))))))))))))))))))))))))))))))))))))))))))))))))))))))
  intro q41 eq41
  have eq41' : q41 = 80 := eq41.trans (hS40.len (by decide))
  subst eq41'
  intro S42 eS42
  have hS42 := hS40.nw eS42 rfl
  refine z_X3_80 hS42 (zST.bc (by decide) (zST.bc (by decide) (zST.bc (by decide) (zST.bc (by decide) (zST.bc (by decide) (zST.bc (by decide) (zST.bc (by decide) (zST.bc (by decide) (zST.bc (by decide) (zST.bc (by decide) (zST.bc (by decide) (zST.bc (by decide) (zST.bc (by decide) (zST.bc (by decide) (zST.bc (by decide) (zST.bc (by decide) (zST.bc (by decide) (zST.bc (by decide) (zST.bc (by decide) (zST.bc (by decide) (zST.bc (by decide) (zST.bc (by decide) (zST.bc (by decide) (zST.bc (by decide) (zST.bc (by decide) (zST.bc (by decide) (zST.bc (by decide) (zST.bc (by decide) (zST.bc (by decide) (zST.bc (by decide) (zST.bc (by decide) (zST.bc (by decide) (zST.bc (by decide) (zST.bc (by decide) (zST.bc (by decide) (zST.bc (by decide) (zST.bc (by decide) (zST.bc (by decide) (zST.bc (by decide) (zST.bc (by decide) (zST.bc (by decide) (zST.bc (by decide) (zST.bc (by decide) (zST.bc (by decide) (zST.bc (by decide) (zST.bc (by decide) (zST.bc (by decide) (zST.bc (by decide) (zST.bc (by decide) (zST.bc (by decide) (zST.bc (by decide) (zST.bc (by decide) (zST.bc (by decide) (zST.bc (by decide) (zST.bc (by decide) (zST.bc (by decide) (zST.bc (by decide) (zST.bc (by decide) (zST.bc (by decide) (zST.bc (by decide) (zST.bc (by decide) (zST.bc (by decide) (zST.bc (by decide) (zST.bc (by decide) (zST.bc (by decide) (zST.bc (by decide) (zST.bc (by decide) (zST.bc (by decide) (zST.bc (by decide) (zST.bc (by decide) (zST.bc (by decide) (zST.bc (by decide) (zST.bc (by decide) (fun y hy => by have := hP y hy; omega)))))))))))))))))))))))))))))))))))))))))))))))))))))))))))))))))))))))))) (fun b j hb => by rw [hp b j (by omega)]; exact zST.pz (Nat.le_trans (by decide) hb)) (fun S43 hS43 => ?_)
  intro S44 eS44
  have hS44 := hS43.sp eS44 (zST.cons (by decide) (zST.cons (by decide) (zST.cons (by decide) (zST.cons (by decide) (zST.cons (by decide) (zST.cons (by decide) (zST.cons (by decide) (zST.cons (by decide) (zST.cons (by decide) (zST.cons (by decide) (zST.cons (by decide) (zST.cons (by decide) (zST.cons (by decide) (zST.cons (by decide) (zST.cons (by decide) (zST.cons (by decide) (zST.cons (by decide) (zST.cons (by decide) (zST.cons (by decide) (zST.cons (by decide) (zST.cons (by decide) (zST.cons (by decide) (zST.cons (by decide) (zST.cons (by decide) (zST.cons (by decide) (zST.cons (by decide) (zST.cons (by decide) (zST.cons (by decide) (zST.cons (by decide) (zST.cons (by decide) (zST.cons (by decide) (zST.cons (by decide) (zST.cons (by decide) (zST.cons (by decide) (zST.cons (by decide) (zST.cons (by decide) (zST.cons (by decide) (zST.cons (by decide) (zST.cons (by decide) (zST.cons (by decide) (zST.cons (by decide) (zST.cons (by decide) (zST.cons (by decide) (zST.cons (by decide) (zST.cons (by decide) (zST.cons (by decide) (zST.cons (by decide) (zST.cons (by decide) (zST.cons (by decide) (zST.cons (by decide) (zST.cons (by decide) (zST.cons (by decide) (zST.cons (by decide) (zST.cons (by decide) (zST.cons (by decide) (zST.cons (by decide) (zST.cons (by decide) (zST.cons (by decide) (zST.cons (by decide) (zST.cons (by decide) (zST.cons (by decide) (zST.cons (by decide) (zST.cons (by decide) (zST.cons (by decide) (zST.cons (by decide) (zST.cons (by decide) (zST.cons (by decide) (zST.cons (by decide) (zST.cons (by decide) (zST.cons (by decide) (zST.cons (by decide) (zST.cons (by decide) (zST.cons (by decide) (zST.cons (by decide) (zST.cons (by decide) (zST.cons (by decide) (zST.cons (by decide) (fun y hy => by have := hP y hy; omega))))))))))))))))))))))))))))))))))))))))))))))))))))))))))))))))))))))))))))))
  intro q45 eq45
  have eq45' : q45 = 85 := eq45.trans (hS44.len (by decide))
  subst eq45'
  intro S46 eS46
  have hS46 := hS44.nw eS46 rfl
  refine z_X9_85 hS46 (zST.bc (by decide) (zST.bc (by decide) (zST.bc (by decide) (zST.bc (by decide) (zST.bc (by decide) (zST.bc (by decide) (zST.bc (by decide) (zST.bc (by decide) (zST.bc (by decide) (zST.bc (by decide) (zST.bc (by decide) (zST.bc (by decide) (zST.bc (by decide) (zST.bc (by decide) (zST.bc (by decide) (zST.bc (by decide) (zST.bc (by decide) (zST.bc (by decide) (zST.bc (by decide) (zST.bc (by decide) (zST.bc (by decide) (zST.bc (by decide) (zST.bc (by decide) (zST.bc (by decide) (zST.bc (by decide) (zST.bc (by decide) (zST.bc (by decide) (zST.bc (by decide) (zST.bc (by decide) (zST.bc (by decide) (zST.bc (by decide) (zST.bc (by decide) (zST.bc (by decide) (zST.bc (by decide) (zST.bc (by decide) (zST.bc (by decide) (zST.bc (by decide) (zST.bc (by decide) (zST.bc (by decide) (zST.bc (by decide) (zST.bc (by decide) (zST.bc (by decide) (zST.bc (by decide) (zST.bc (by decide) (zST.bc (by decide) (zST.bc (by decide) (zST.bc (by decide) (zST.bc (by decide) (zST.bc (by decide) (zST.bc (by decide) (zST.bc (by decide) (zST.bc (by decide) (zST.bc (by decide) (zST.bc (by decide) (zST.bc (by decide) (zST.bc (by decide) (zST.bc (by decide) (zST.bc (by decide) (zST.bc (by decide) (zST.bc (by decide) (zST.bc (by decide) (zST.bc (by decide) (zST.bc (by decide) (zST.bc (by decide) (zST.bc (by decide) (zST.bc (by decide) (zST.bc (by decide) (zST.bc (by decide) (zST.bc (by decide) (zST.bc (by decide) (zST.bc (by decide) (zST.bc (by decide) (zST.bc (by decide) (zST.bc (by decide) (zST.bc (by decide) (zST.bc (by decide) (zST.bc (by decide) (zST.bc (by decide) (fun y hy => by have := hP y hy; omega))))))))))))))))))))))))))))))))))))))))))))))))))))))))))))))))))))))))))))))) (fun b j hb => by rw [hp b j (by omega)]; exact zST.pz (Nat.le_trans (by decide) hb)) (fun S47 hS47 => ?_)
  intro S48 eS48
  have hS48 := hS47.sp eS48 (zST.cons (by decide) (zST.cons (by decide) (zST.cons (by decide) (zST.cons (by decide) (zST.cons (by decide) (zST.cons (by decide) (zST.cons (by decide) (zST.cons (by decide) (zST.cons (by decide) (zST.cons (by decide) (zST.cons (by decide) (zST.cons (by decide) (zST.cons (by decide) (zST.cons (by decide) (zST.cons (by decide) (zST.cons (by decide) (zST.cons (by decide) (zST.cons (by decide) (zST.cons (by decide) (zST.cons (by decide) (zST.cons (by decide) (zST.cons (by decide) (zST.cons (by decide) (zST.cons (by decide) (zST.cons (by decide) (zST.cons (by decide) (zST.cons (by decide) (zST.cons (by decide) (zST.cons (by decide) (zST.cons (by decide) (zST.cons (by decide) (zST.cons (by decide) (zST.cons (by decide) (zST.cons (by decide) (zST.cons (by decide) (zST.cons (by decide) (zST.cons (by decide) (zST.cons (by decide) (zST.cons (by decide) (zST.cons (by decide) (zST.cons (by decide) (zST.cons (by decide) (zST.cons (by decide) (zST.cons (by decide) (zST.cons (by decide) (zST.cons (by decide) (zST.cons (by decide) (zST.cons (by decide) (zST.cons (by decide) (zST.cons (by decide) (zST.cons (by decide) (zST.cons (by decide) (zST.cons (by decide) (zST.cons (by decide) (zST.cons (by decide) (zST.cons (by decide) (zST.cons (by decide) (zST.cons (by decide) (zST.cons (by decide) (zST.cons (by decide) (zST.cons (by decide) (zST.cons (by decide) (zST.cons (by decide) (zST.cons (by decide) (zST.cons (by decide) (zST.cons (by decide) (zST.cons (by decide) (zST.cons (by decide) (zST.cons (by decide) (zST.cons (by decide) (zST.cons (by decide) (zST.cons (by decide) (zST.cons (by decide) (zST.cons (by decide) (zST.cons (by decide) (zST.cons (by decide) (zST.cons (by decide) (zST.cons (by decide) (zST.cons (by decide) (zST.cons (by decide) (fun y hy => by have := hP y hy; omega)))))))))))))))))))))))))))))))))))))))))))))))))))))))))))))))))))))))))))))))))
  intro q49 eq49
  have eq49' : q49 = 88 := eq49.trans (hS48.len (by decide))
  subst eq49'
  intro S50 eS50
  have hS50 := hS48.nw eS50 rfl
  intro S51 eS51
  have hS51 := hS50.sp eS51 (zST.cons (by decide) (zST.cons (by decide) (zST.cons (by decide) (zST.cons (by decide) (zST.cons (by decide) (zST.cons (by decide) (zST.cons (by decide) (zST.cons (by decide) (zST.cons (by decide) (zST.cons (by decide) (zST.cons (by decide) (zST.cons (by decide) (zST.cons (by decide) (zST.cons (by decide) (zST.cons (by decide) (zST.cons (by decide) (zST.cons (by decide) (zST.cons (by decide) (zST.cons (by decide) (zST.cons (by decide) (zST.cons (by decide) (zST.cons (by decide) (zST.cons (by decide) (zST.cons (by decide) (zST.cons (by decide) (zST.cons (by decide) (zST.cons (by decide) (zST.cons (by decide) (zST.cons (by decide) (zST.cons (by decide) (zST.cons (by decide) (zST.cons (by decide) (zST.cons (by decide) (zST.cons (by decide) (zST.cons (by decide) (zST.cons (by decide) (zST.cons (by decide) (zST.cons (by decide) (zST.cons (by decide) (zST.cons (by decide) (zST.cons (by decide) (zST.cons (by decide) (zST.cons (by decide) (zST.cons (by decide) (zST.cons (by decide) (zST.cons (by decide) (zST.cons (by decide) (zST.cons (by decide) (zST.cons (by decide) (zST.cons (by decide) (zST.cons (by decide) (zST.cons (by decide) (zST.cons (by decide) (zST.cons (by decide) (zST.cons (by decide) (zST.cons (by decide) (zST.cons (by decide) (zST.cons (by decide) (zST.cons (by decide) (zST.cons (by decide) (zST.cons (by decide) (zST.cons (by decide) (zST.cons (by decide) (zST.cons (by decide) (zST.cons (by decide) (zST.cons (by decide) (zST.cons (by decide) (zST.cons (by decide) (zST.cons (by decide) (zST.cons (by decide) (zST.cons (by decide) (zST.cons (by decide) (zST.cons (by decide) (zST.cons (by decide) (zST.cons (by decide) (zST.cons (by decide) (zST.cons (by decide) (zST.cons (by decide) (zST.cons (by decide) (zST.cons (by decide) (zST.cons (by decide) (fun y hy => by have := hP y hy; omega))))))))))))))))))))))))))))))))))))))))))))))))))))))))))))))))))))))))))))))))))
  intro S52 eS52
  have hS52 := hS51.s0 eS52 (by decide) (by rw [hp _ _ (by decide)]; rfl)
  intro S53 eS53
  have hS53 := hS52.sl eS53
  intro S54 eS54
  have hS54 := hS53.s0 eS54 (by decide) (by rw [hp _ _ (by decide)]; rfl)
  intro S55 eS55
  have hS55 := hS54.s0 eS55 (by decide) (by rw [hp _ _ (by decide)]; rfl)
  intro S56 eS56
  have hS56 := hS55.s0 eS56 (by decide) (by rw [hp _ _ (by decide)]; rfl)
  exact k S56 hS56
theorem z_X11_89 (h : zST L g 90 P p S) (hP : ∀ y, y ∈ P → y.1.1 < 89) (hp : ∀ b j, 89 ≤ b → p b j = false) (k : ∀ S', zST L g 119 (((89, 45), 118) :: ((89, 43), 117) :: ((89, 42), 116) :: ((89, 41), 115) :: ((89, 40), 114) :: ((89, 39), 113) :: ((89, 36), 112) :: ((89, 35), 111) :: ((89, 34), 110) :: ((89, 33), 109) :: ((89, 32), 108) :: ((89, 29), 107) :: ((89, 28), 106) :: ((89, 24), 105) :: ((89, 23), 104) :: ((89, 22), 103) :: ((89, 19), 102) :: ((89, 18), 101) :: ((89, 17), 100) :: ((89, 16), 99) :: ((89, 15), 98) :: ((89, 12), 97) :: ((89, 11), 96) :: ((89, 10), 95) :: ((89, 9), 94) :: ((89, 8), 93) :: ((89, 7), 92) :: ((89, 6), 91) :: ((89, 1), 90) :: P) (fun c k => p c k || (Nat.beq c 89 && Nat.beq k 30)) S' → Q S') : M_X11_init l G 89 S Q := by
  refine e_X11_init (b_X11_init_0 (h.kd (by decide)) ?_)
  intro q1 eq1
  have eq1' : q1 = 90 := eq1.trans (h.len (by decide))
  subst eq1'
  intro S2 eS2
  have hS2 := h.nw eS2 rfl
  intro S3 eS3
  have hS3 := hS2.sp eS3 (fun y hy => by have := hP y hy; omega)
  intro q4 eq4
  have eq4' : q4 = 91 := eq4.trans (hS3.len (by decide))
  subst eq4'
  intro S5 eS5
  have hS5 := hS3.nw eS5 rfl
  intro S6 eS6
  have hS6 := hS5.sp eS6 (zST.cons (by decide) (fun y hy => by have := hP y hy; omega))
  intro q7 eq7
  have eq7' : q7 = 92 := eq7.trans (hS6.len (by decide))
  subst eq7'
  intro S8 eS8
  have hS8 := hS6.nw eS8 rfl
  intro S9 eS9
  have hS9 := hS8.sp eS9 (zST.cons (by decide) (zST.cons (by decide) (fun y hy => by have := hP y hy; omega)))
  intro q10 eq10
  have eq10' : q10 = 93 := eq10.trans (hS9.len (by decide))
  subst eq10'
  intro S11 eS11
  have hS11 := hS9.nw eS11 rfl
  intro S12 eS12
  have hS12 := hS11.sp eS12 (zST.cons (by decide) (zST.cons (by decide) (zST.cons (by decide) (fun y hy => by have := hP y hy; omega))))
  intro q13 eq13
  have eq13' : q13 = 94 := eq13.trans (hS12.len (by decide))
  subst eq13'
  intro S14 eS14
  have hS14 := hS12.nw eS14 rfl
  intro S15 eS15
  have hS15 := hS14.sp eS15 (zST.cons (by decide) (zST.cons (by decide) (zST.cons (by decide) (zST.cons (by decide) (fun y hy => by have := hP y hy; omega)))))
  intro q16 eq16
  have eq16' : q16 = 95 := eq16.trans (hS15.len (by decide))
  subst eq16'
  intro S17 eS17
  have hS17 := hS15.nw eS17 rfl
  intro S18 eS18
  have hS18 := hS17.sp eS18 (zST.cons (by decide) (zST.cons (by decide) (zST.cons (by decide) (zST.cons (by decide) (zST.cons (by decide) (fun y hy => by have := hP y hy; omega))))))
  intro q19 eq19
  have eq19' : q19 = 96 := eq19.trans (hS18.len (by decide))
  subst eq19'
  intro S20 eS20
  have hS20 := hS18.nw eS20 rfl
  intro S21 eS21
  have hS21 := hS20.sp eS21 (zST.cons (by decide) (zST.cons (by decide) (zST.cons (by decide) (zST.cons (by decide) (zST.cons (by decide) (zST.cons (by decide) (fun y hy => by have := hP y hy; omega)))))))
  intro q22 eq22
  have eq22' : q22 = 97 := eq22.trans (hS21.len (by decide))
  subst eq22'
  intro S23 eS23
  have hS23 := hS21.nw eS23 rfl
  intro S24 eS24
  have hS24 := hS23.sp eS24 (zST.cons (by decide) (zST.cons (by decide) (zST.cons (by decide) (zST.cons (by decide) (zST.cons (by decide) (zST.cons (by decide) (zST.cons (by decide) (fun y hy => by have := hP y hy; omega))))))))
  intro q25 eq25
  have eq25' : q25 = 98 := eq25.trans (hS24.len (by decide))
  subst eq25'
  intro S26 eS26
  have hS26 := hS24.nw eS26 rfl
  intro S27 eS27
  have hS27 := hS26.sp eS27 (zST.cons (by decide) (zST.cons (by decide) (zST.cons (by decide) (zST.cons (by decide) (zST.cons (by decide) (zST.cons (by decide) (zST.cons (by decide) (zST.cons (by decide) (fun y hy => by have := hP y hy; omega)))))))))
  intro q28 eq28
  have eq28' : q28 = 99 := eq28.trans (hS27.len (by decide))
  subst eq28'
  intro S29 eS29
  have hS29 := hS27.nw eS29 rfl
  intro S30 eS30
  have hS30 := hS29.sp eS30 (zST.cons (by decide) (zST.cons (by decide) (zST.cons (by decide) (zST.cons (by decide) (zST.cons (by decide) (zST.cons (by decide) (zST.cons (by decide) (zST.cons (by decide) (zST.cons (by decide) (fun y hy => by have := hP y hy; omega))))))))))
  intro q31 eq31
  have eq31' : q31 = 100 := eq31.trans (hS30.len (by decide))
  subst eq31'
  intro S32 eS32
  have hS32 := hS30.nw eS32 rfl
  intro S33 eS33
  have hS33 := hS32.sp eS33 (zST.cons (by decide) (zST.cons (by decide) (zST.cons (by decide) (zST.cons (by decide) (zST.cons (by decide) (zST.cons (by decide) (zST.cons (by decide) (zST.cons (by decide) (zST.cons (by decide) (zST.cons (by decide) (fun y hy => by have := hP y hy; omega)))))))))))
  intro q34 eq34
  have eq34' : q34 = 101 := eq34.trans (hS33.len (by decide))
  subst eq34'
  intro S35 eS35
  have hS35 := hS33.nw eS35 rfl
  intro S36 eS36
  have hS36 := hS35.sp eS36 (zST.cons (by decide) (zST.cons (by decide) (zST.cons (by decide) (zST.cons (by decide) (zST.cons (by decide) (zST.cons (by decide) (zST.cons (by decide) (zST.cons (by decide) (zST.cons (by decide) (zST.cons (by decide) (zST.cons (by decide) (fun y hy => by have := hP y hy; omega))))))))))))
  intro q37 eq37
  have eq37' : q37 = 102 := eq37.trans (hS36.len (by decide))
  subst eq37'
  intro S38 eS38
  have hS38 := hS36.nw eS38 rfl
  intro S39 eS39
  have hS39 := hS38.sp eS39 (zST.cons (by decide) (zST.cons (by decide) (zST.cons (by decide) (zST.cons (by decide) (zST.cons (by decide) (zST.cons (by decide) (zST.cons (by decide) (zST.cons (by decide) (zST.cons (by decide) (zST.cons (by decide) (zST.cons (by decide) (zST.cons (by decide) (fun y hy => by have := hP y hy; omega)))))))))))))
  intro q40 eq40
  have eq40' : q40 = 103 := eq40.trans (hS39.len (by decide))
  subst eq40'
  intro S41 eS41
  have hS41 := hS39.nw eS41 rfl
  intro S42 eS42
  have hS42 := hS41.sp eS42 (zST.cons (by decide) (zST.cons (by decide) (zST.cons (by decide) (zST.cons (by decide) (zST.cons (by decide) (zST.cons (by decide) (zST.cons (by decide) (zST.cons (by decide) (zST.cons (by decide) (zST.cons (by decide) (zST.cons (by decide) (zST.cons (by decide) (zST.cons (by decide) (fun y hy => by have := hP y hy; omega))))))))))))))
  intro q43 eq43
  have eq43' : q43 = 104 := eq43.trans (hS42.len (by decide))
  subst eq43'
  intro S44 eS44
  have hS44 := hS42.nw eS44 rfl
  intro S45 eS45
  have hS45 := hS44.sp eS45 (zST.cons (by decide) (zST.cons (by decide) (zST.cons (by decide) (zST.cons (by decide) (zST.cons (by decide) (zST.cons (by decide) (zST.cons (by decide) (zST.cons (by decide) (zST.cons (by decide) (zST.cons (by decide) (zST.cons (by decide) (zST.cons (by decide) (zST.cons (by decide) (zST.cons (by decide) (fun y hy => by have := hP y hy; omega)))))))))))))))
  intro q46 eq46
  have eq46' : q46 = 105 := eq46.trans (hS45.len (by decide))
  subst eq46'
  intro S47 eS47
  have hS47 := hS45.nw eS47 rfl
  intro S48 eS48
  have hS48 := hS47.sp eS48 (zST.cons (by decide) (zST.cons (by decide) (zST.cons (by decide) (zST.cons (by decide) (zST.cons (by decide) (zST.cons (by decide) (zST.cons (by decide) (zST.cons (by decide) (zST.cons (by decide) (zST.cons (by decide) (zST.cons (by decide) (zST.cons (by decide) (zST.cons (by decide) (zST.cons (by decide) (zST.cons (by decide) (fun y hy => by have := hP y hy; omega))))))))))))))))
  intro q49 eq49
  have eq49' : q49 = 106 := eq49.trans (hS48.len (by decide))
  subst eq49'
  intro S50 eS50
  have hS50 := hS48.nw eS50 rfl
  intro S51 eS51
  have hS51 := hS50.sp eS51 (zST.cons (by decide) (zST.cons (by decide) (zST.cons (by decide) (zST.cons (by decide) (zST.cons (by decide) (zST.cons (by decide) (zST.cons (by decide) (zST.cons (by decide) (zST.cons (by decide) (zST.cons (by decide) (zST.cons (by decide) (zST.cons (by decide) (zST.cons (by decide) (zST.cons (by decide) (zST.cons (by decide) (zST.cons (by decide) (fun y hy => by have := hP y hy; omega)))))))))))))))))
  intro q52 eq52
  have eq52' : q52 = 107 := eq52.trans (hS51.len (by decide))
  subst eq52'
  intro S53 eS53
  have hS53 := hS51.nw eS53 rfl
  intro S54 eS54
  have hS54 := hS53.sp eS54 (zST.cons (by decide) (zST.cons (by decide) (zST.cons (by decide) (zST.cons (by decide) (zST.cons (by decide) (zST.cons (by decide) (zST.cons (by decide) (zST.cons (by decide) (zST.cons (by decide) (zST.cons (by decide) (zST.cons (by decide) (zST.cons (by decide) (zST.cons (by decide) (zST.cons (by decide) (zST.cons (by decide) (zST.cons (by decide) (zST.cons (by decide) (fun y hy => by have := hP y hy; omega))))))))))))))))))
  intro S55 eS55
  have hS55 := hS54.s1 eS55 (by decide)
  intro q56 eq56
  have eq56' : q56 = 108 := eq56.trans (hS55.len (by decide))
  subst eq56'
  intro S57 eS57
  have hS57 := hS55.nw eS57 rfl
  intro S58 eS58
  have hS58 := hS57.sp eS58 (zST.cons (by decide) (zST.cons (by decide) (zST.cons (by decide) (zST.cons (by decide) (zST.cons (by decide) (zST.cons (by decide) (zST.cons (by decide) (zST.cons (by decide) (zST.cons (by decide) (zST.cons (by decide) (zST.cons (by decide) (zST.cons (by decide) (zST.cons (by decide) (zST.cons (by decide) (zST.cons (by decide) (zST.cons (by decide) (zST.cons (by decide) (zST.cons (by decide) (fun y hy => by have := hP y hy; omega)))))))))))))))))))
  intro q59 eq59
  have eq59' : q59 = 109 := eq59.trans (hS58.len (by decide))
  subst eq59'
  intro S60 eS60
  have hS60 := hS58.nw eS60 rfl
  intro S61 eS61
  have hS61 := hS60.sp eS61 (zST.cons (by decide) (zST.cons (by decide) (zST.cons (by decide) (zST.cons (by decide) (zST.cons (by decide) (zST.cons (by decide) (zST.cons (by decide) (zST.cons (by decide) (zST.cons (by decide) (zST.cons (by decide) (zST.cons (by decide) (zST.cons (by decide) (zST.cons (by decide) (zST.cons (by decide) (zST.cons (by decide) (zST.cons (by decide) (zST.cons (by decide) (zST.cons (by decide) (zST.cons (by decide) (fun y hy => by have := hP y hy; omega))))))))))))))))))))
  intro q62 eq62
  have eq62' : q62 = 110 := eq62.trans (hS61.len (by decide))
  subst eq62'
  intro S63 eS63
  have hS63 := hS61.nw eS63 rfl
  intro S64 eS64
  have hS64 := hS63.sp eS64 (zST.cons (by decide) (zST.cons (by decide) (zST.cons (by decide) (zST.cons (by decide) (zST.cons (by decide) (zST.cons (by decide) (zST.cons (by decide) (zST.cons (by decide) (zST.cons (by decide) (zST.cons (by decide) (zST.cons (by decide) (zST.cons (by decide) (zST.cons (by decide) (zST.cons (by decide) (zST.cons (by decide) (zST.cons (by decide) (zST.cons (by decide) (zST.cons (by decide) (zST.cons (by decide) (zST.cons (by decide) (fun y hy => by have := hP y hy; omega)))))))))))))))))))))
  intro q65 eq65
  have eq65' : q65 = 111 := eq65.trans (hS64.len (by decide))
  subst eq65'
  intro S66 eS66
  have hS66 := hS64.nw eS66 rfl
  intro S67 eS67
  have hS67 := hS66.sp eS67 (zST.cons (by decide) (zST.cons (by decide) (zST.cons (by decide) (zST.cons (by decide) (zST.cons (by decide) (zST.cons (by decide) (zST.cons (by decide) (zST.cons (by decide) (zST.cons (by decide) (zST.cons (by decide) (zST.cons (by decide) (zST.cons (by decide) (zST.cons (by decide) (zST.cons (by decide) (zST.cons (by decide) (zST.cons (by decide) (zST.cons (by decide) (zST.cons (by decide) (zST.cons (by decide) (zST.cons (by decide) (zST.cons (by decide) (fun y hy => by have := hP y hy; omega))))))))))))))))))))))
  intro q68 eq68
  have eq68' : q68 = 112 := eq68.trans (hS67.len (by decide))
  subst eq68'
  intro S69 eS69
  have hS69 := hS67.nw eS69 rfl
  intro S70 eS70
  have hS70 := hS69.sp eS70 (zST.cons (by decide) (zST.cons (by decide) (zST.cons (by decide) (zST.cons (by decide) (zST.cons (by decide) (zST.cons (by decide) (zST.cons (by decide) (zST.cons (by decide) (zST.cons (by decide) (zST.cons (by decide) (zST.cons (by decide) (zST.cons (by decide) (zST.cons (by decide) (zST.cons (by decide) (zST.cons (by decide) (zST.cons (by decide) (zST.cons (by decide) (zST.cons (by decide) (zST.cons (by decide) (zST.cons (by decide) (zST.cons (by decide) (zST.cons (by decide) (fun y hy => by have := hP y hy; omega)))))))))))))))))))))))
  intro q71 eq71
  have eq71' : q71 = 113 := eq71.trans (hS70.len (by decide))
  subst eq71'
  intro S72 eS72
  have hS72 := hS70.nw eS72 rfl
  intro S73 eS73
  have hS73 := hS72.sp eS73 (zST.cons (by decide) (zST.cons (by decide) (zST.cons (by decide) (zST.cons (by decide) (zST.cons (by decide) (zST.cons (by decide) (zST.cons (by decide) (zST.cons (by decide) (zST.cons (by decide) (zST.cons (by decide) (zST.cons (by decide) (zST.cons (by decide) (zST.cons (by decide) (zST.cons (by decide) (zST.cons (by decide) (zST.cons (by decide) (zST.cons (by decide) (zST.cons (by decide) (zST.cons (by decide) (zST.cons (by decide) (zST.cons (by decide) (zST.cons (by decide) (zST.cons (by decide) (fun y hy => by have := hP y hy; omega))))))))))))))))))))))))
  intro q74 eq74
  have eq74' : q74 = 114 := eq74.trans (hS73.len (by decide))
  subst eq74'
  intro S75 eS75
  have hS75 := hS73.nw eS75 rfl
  intro S76 eS76
  have hS76 := hS75.sp eS76 (zST.cons (by decide) (zST.cons (by decide) (zST.cons (by decide) (zST.cons (by decide) (zST.cons (by decide) (zST.cons (by decide) (zST.cons (by decide) (zST.cons (by decide) (zST.cons (by decide) (zST.cons (by decide) (zST.cons (by decide) (zST.cons (by decide) (zST.cons (by decide) (zST.cons (by decide) (zST.cons (by decide) (zST.cons (by decide) (zST.cons (by decide) (zST.cons (by decide) (zST.cons (by decide) (zST.cons (by decide) (zST.cons (by decide) (zST.cons (by decide) (zST.cons (by decide) (zST.cons (by decide) (fun y hy => by have := hP y hy; omega)))))))))))))))))))))))))
  intro q77 eq77
  have eq77' : q77 = 115 := eq77.trans (hS76.len (by decide))
  subst eq77'
  intro S78 eS78
  have hS78 := hS76.nw eS78 rfl
  intro S79 eS79
  have hS79 := hS78.sp eS79 (zST.cons (by decide) (zST.cons (by decide) (zST.cons (by decide) (zST.cons (by decide) (zST.cons (by decide) (zST.cons (by decide) (zST.cons (by decide) (zST.cons (by decide) (zST.cons (by decide) (zST.cons (by decide) (zST.cons (by decide) (zST.cons (by decide) (zST.cons (by decide) (zST.cons (by decide) (zST.cons (by decide) (zST.cons (by decide) (zST.cons (by decide) (zST.cons (by decide) (zST.cons (by decide) (zST.cons (by decide) (zST.cons (by decide) (zST.cons (by decide) (zST.cons (by decide) (zST.cons (by decide) (zST.cons (by decide) (fun y hy => by have := hP y hy; omega))))))))))))))))))))))))))
  intro q80 eq80
  have eq80' : q80 = 116 := eq80.trans (hS79.len (by decide))
  subst eq80'
  intro S81 eS81
  have hS81 := hS79.nw eS81 rfl
  intro S82 eS82
  have hS82 := hS81.sp eS82 (zST.cons (by decide) (zST.cons (by decide) (zST.cons (by decide) (zST.cons (by decide) (zST.cons (by decide) (zST.cons (by decide) (zST.cons (by decide) (zST.cons (by decide) (zST.cons (by decide) (zST.cons (by decide) (zST.cons (by decide) (zST.cons (by decide) (zST.cons (by decide) (zST.cons (by decide) (zST.cons (by decide) (zST.cons (by decide) (zST.cons (by decide) (zST.cons (by decide) (zST.cons (by decide) (zST.cons (by decide) (zST.cons (by decide) (zST.cons (by decide) (zST.cons (by decide) (zST.cons (by decide) (zST.cons (by decide) (zST.cons (by decide) (fun y hy => by have := hP y hy; omega)))))))))))))))))))))))))))
  intro q83 eq83
  have eq83' : q83 = 117 := eq83.trans (hS82.len (by decide))
  subst eq83'
  intro S84 eS84
  have hS84 := hS82.nw eS84 rfl
  intro S85 eS85
  have hS85 := hS84.sp eS85 (zST.cons (by decide) (zST.cons (by decide) (zST.cons (by decide) (zST.cons (by decide) (zST.cons (by decide) (zST.cons (by decide) (zST.cons (by decide) (zST.cons (by decide) (zST.cons (by decide) (zST.cons (by decide) (zST.cons (by decide) (zST.cons (by decide) (zST.cons (by decide) (zST.cons (by decide) (zST.cons (by decide) (zST.cons (by decide) (zST.cons (by decide) (zST.cons (by decide) (zST.cons (by decide) (zST.cons (by decide) (zST.cons (by decide) (zST.cons (by decide) (zST.cons (by decide) (zST.cons (by decide) (zST.cons (by decide) (zST.cons (by decide) (zST.cons (by decide) (fun y hy => by have := hP y hy; omega))))))))))))))))))))))))))))
  intro q86 eq86
  have eq86' : q86 = 118 := eq86.trans (hS85.len (by decide))
  subst eq86'
  intro S87 eS87
  have hS87 := hS85.nw eS87 rfl
  intro S88 eS88
  have hS88 := hS87.sp eS88 (zST.cons (by decide) (zST.cons (by decide) (zST.cons (by decide) (zST.cons (by decide) (zST.cons (by decide) (zST.cons (by decide) (zST.cons (by decide) (zST.cons (by decide) (zST.cons (by decide) (zST.cons (by decide) (zST.cons (by decide) (zST.cons (by decide) (zST.cons (by decide) (zST.cons (by decide) (zST.cons (by decide) (zST.cons (by decide) (zST.cons (by decide) (zST.cons (by decide) (zST.cons (by decide) (zST.cons (by decide) (zST.cons (by decide) (zST.cons (by decide) (zST.cons (by decide) (zST.cons (by decide) (zST.cons (by decide) (zST.cons (by decide) (zST.cons (by decide) (zST.cons (by decide) (fun y hy => by have := hP y hy; omega)))))))))))))))))))))))))))))
  exact k S88 hS88
end ZI
