/-! the law begins -/
def R_0 : rm := (fun _ => 0, fun _ _ => 0)
def s_0 : sc := (fun _ => 0, 0, fun _ => 0, 0)
def a_0 : ast := (R_0, s_0, (0, fun _ => s_0, fun _ _ => 0, 0), (false, s_0, fun _ _ => 0, 0), (0, fun _ => 0, fun _ => false), (fun _ => 0, 0), [], -1, 0, fun _ => 0)
theorem AW_0 : AW a_0 := by
  refine ⟨⟨⟨Nat.zero_le _, Nat.zero_le _, Nat.le_refl 0, Nat.zero_le _⟩, fun z => absurd z (Nat.lt_irrefl 0), fun i hi => absurd hi (Nat.not_lt_zero _), fun i hi => absurd hi (Nat.not_lt_zero i)⟩, (fun z => by cases z), ⟨Nat.zero_le _, fun j hj => absurd hj (Nat.not_lt_zero j)⟩, ⟨Nat.zero_le _, fun i hi => absurd hi (Nat.not_lt_zero i)⟩, ⟨Nat.zero_le _, fun cs hm => by cases hm⟩, ?_, Nat.zero_le _⟩
  unfold lw_ok
  decide
theorem R_0_wf : r_wf R_0 := ⟨⟨Nat.zero_le _, Nat.zero_le _, Nat.zero_le _, Nat.zero_le _, Nat.zero_le _, Nat.zero_le _⟩, fun c hc => absurd hc (Nat.not_lt_zero c), fun c d hc => absurd hc (Nat.not_lt_zero c), fun p hp => absurd hp (Nat.not_lt_zero p), fun h => absurd h (Nat.lt_irrefl 0)⟩
theorem s_0_wf : s_wf R_0 s_0 := ⟨fun c hc => absurd hc (Nat.not_lt_zero c), (fun i hi => by
  rw [show s_bk s_0 = 0 from rfl, b_0] at hi; cases hi), fun p hp => absurd hp (Nat.not_lt_zero p)⟩
section ZW
variable {l : Launch} {G : mj_G} {L N : Nat} {g : Nat → Nat → Int32} {P : List ((Nat × Nat) × Nat)} {p : Nat → Nat → Bool} {S S' : mj_S}
theorem inv_0 (h : zST L g 120 P p S) (hT : TBL S) (hPT : ∀ x, x ∈ PT → x ∈ P) (h65 : ((6, 5), 32) ∈ P) (h66 : ((6, 6), 41) ∈ P) (h50 : ((50, 0), 51) ∈ P) (hp : ∀ b j, p b j = true ↔ (b = 23 ∧ j = 1) ∨ (b = 89 ∧ j = 30)) : INV L S := by
  have z0 : ∀ b j, 6 ≤ b → ¬ (b = 23 ∧ j = 1) → ¬ (b = 89 ∧ j = 30) → m_gi S b j = 0 := by
    intro b j h6 h1 h2
    rw [h.2.2.1 b j h6, if_neg (fun z => ((hp b j).mp z).elim h1 h2)]
  have zm : ∀ b j, 6 ≤ b → (b = 23 ∧ j = 1) ∨ (b = 89 ∧ j = 30) → m_gi S b j = -1 := by
    intro b j h6 h1
    rw [h.2.2.1 b j h6, if_pos ((hp b j).mpr h1)]
  have hs : Sh L S := ⟨by rw [h.1]; exact List.take_of_length_le (Nat.le_refl 120), fun x hx => h.2.1 x (hPT x hx)⟩
  have rc : ∀ r, r = 32 ∨ r = 51 → RC S r R_0 := fun r hr => ⟨⟨z0 _ _ (by omega) (by omega) (by omega), z0 _ _ (by omega) (by omega) (by omega), z0 _ _ (by omega) (by omega) (by omega), z0 _ _ (by omega) (by omega) (by omega)⟩, ⟨z0 _ _ (by omega) (by omega) (by omega), z0 _ _ (by omega) (by omega) (by omega), z0 _ _ (by omega) (by omega) (by omega), z0 _ _ (by omega) (by omega) (by omega), z0 _ _ (by omega) (by omega) (by omega)⟩, fun c hc => absurd hc (Nat.not_lt_zero c), fun c hc => absurd hc (Nat.not_lt_zero c)⟩
  refine ⟨a_0, AW_0, ⟨32, 51, 0, ?_, ?_, ?_⟩, ?_, ?_, ?_⟩
  · exact ⟨hs, R_0_wf, s_0_wf, Or.inl rfl, Or.inl rfl, h.2.1 _ h65, rc 32 (Or.inl rfl), ⟨h.2.1 _ h50, Or.inr (Or.inr rfl), rc 51 (Or.inr rfl)⟩, fun c hc => absurd hc (Nat.not_lt_zero c), z0 _ _ (by omega) (by omega) (by omega), fun c hc => absurd hc (Nat.not_lt_zero c), z0 _ _ (by omega) (by omega) (by omega)⟩
  · refine ⟨⟨⟨z0 _ _ (by omega) (by omega) (by omega), z0 _ _ (by omega) (by omega) (by omega), by omega, Nat.zero_le _⟩, fun i hi => absurd hi (Nat.not_lt_zero i)⟩, fun y w y1 y2 y3 y4 => ?_, z0 _ _ (by omega) (by omega) (by omega), (fun z => by cases z)⟩
    have y3' : y ≤ 0 := y3
    omega
  · exact ⟨⟨41, Or.inr rfl, Or.inl rfl, by omega, h.2.1 _ h66, Or.inr (h.2.1 _ h50)⟩, ⟨z0 _ _ (by omega) (by omega) (by omega), z0 _ _ (by omega) (by omega) (by omega), z0 _ _ (by omega) (by omega) (by omega)⟩, ⟨z0 _ _ (by omega) (by omega) (by omega), fun i hi => absurd hi (Nat.not_lt_zero i)⟩, ⟨z0 _ _ (by omega) (by omega) (by omega), fun i hi => absurd hi (Nat.not_lt_zero i)⟩, zm _ _ (by omega) (Or.inl ⟨rfl, rfl⟩), z0 _ _ (by omega) (by omega) (by omega), fun i hi => z0 _ _ (by omega) (by omega) (by omega), hT⟩
  · exact ⟨hs, R_0_wf, s_0_wf, ⟨⟨z0 _ _ (by omega) (by omega) (by omega), z0 _ _ (by omega) (by omega) (by omega), z0 _ _ (by omega) (by omega) (by omega)⟩, ⟨z0 _ _ (by omega) (by omega) (by omega), z0 _ _ (by omega) (by omega) (by omega), z0 _ _ (by omega) (by omega) (by omega), z0 _ _ (by omega) (by omega) (by omega)⟩, fun c hc => absurd hc (Nat.not_lt_zero c), fun c hc => absurd hc (Nat.not_lt_zero c), fun q way hq => absurd hq (Nat.not_lt_zero q)⟩, fun c hc => absurd hc (Nat.not_lt_zero c), z0 _ _ (by omega) (by omega) (by omega), fun c hc => absurd hc (Nat.not_lt_zero c), z0 _ _ (by omega) (by omega) (by omega)⟩
  · refine ⟨⟨⟨z0 _ _ (by omega) (by omega) (by omega), Nat.zero_le _⟩, fun i hi => absurd hi (Nat.not_lt_zero i)⟩, ⟨⟨fun c hc => absurd hc (Nat.not_lt_zero c), z0 _ _ (by omega) (by omega) (by omega), fun c hc => absurd hc (Nat.not_lt_zero c), z0 _ _ (by omega) (by omega) (by omega)⟩, z0 _ _ (by omega) (by omega) (by omega), fun j w h1 h2 => ?_⟩, z0 _ _ (by omega) (by omega) (by omega), (fun z => by cases z)⟩
    have h1' : j < min 0 60 := h1
    omega
  · exact ⟨⟨z0 _ _ (by omega) (by omega) (by omega), fun j hj => absurd hj (Nat.not_lt_zero j)⟩, ⟨z0 _ _ (by omega) (by omega) (by omega), fun j hj => absurd hj (Nat.not_lt_zero j)⟩, ⟨z0 _ _ (by omega) (by omega) (by omega), fun j hj => absurd hj (Nat.not_lt_zero j)⟩, zm _ _ (by omega) (Or.inr ⟨rfl, rfl⟩), z0 _ _ (by omega) (by omega) (by omega), fun i hi => z0 _ _ (by omega) (by omega) (by omega)⟩
theorem law_start (hl : l.stackTraces = false) (hL : L ≤ 3072) (h : zST L g 6 [] (fun _ _ => false) S) (hT : TBL S) : V_L_law_0 l G 5 S := by
  refine b_L_law_0 (h.kd (by decide)) (fun q1 e1 S2 e2 => ?_)
  have e1' : q1 = 6 := e1.trans (h.len (by decide))
  subst e1'
  have h2 := h.nw e2 rfl
  refine z_X10_6 h2 (fun y hy => by cases hy) (fun b j hb => rfl) (fun S3 h3 => ?_)
  intro q4 e4 S5 e5
  have e4' : q4 = 89 := e4.trans (h3.len (by decide))
  subst e4'
  have h5 := h3.nw e5 rfl
  refine z_X11_89 h5 (by decide +kernel) (fun b j hb => zST.pz (Nat.le_trans (by decide) hb)) (fun S6 h6 => ?_)
  intro q7 e7 S8 e8
  have e7' : q7 = 119 := e7.trans (h6.len (by decide))
  subst e7'
  have h8 := h6.nw e8 rfl
  have hT8 : TBL S8 := hT.keep (fun b j hb => (h8.2.2.2 b j (by omega)).trans (h.2.2.2 b j (by omega)).symm)
  refine law_loop hl hL 512 0 200 25000 S8 (by omega) (by omega) (by omega) (by omega) (inv_0 h8 hT8 (by decide +kernel) (by decide +kernel) (by decide +kernel) (by decide +kernel) (fun b j => ?_))
  simp only [Bool.or_eq_true, Bool.and_eq_true, Nat.beq_eq, Bool.false_eq_true, false_or]
end ZW
