/-! the tape, and how both sides look at it -/
def cr (t : Nat → Nat) (n p : Nat) : Int32 := if p < n then nI (t p) else -1
def skf (t : Nat → Nat) (n : Nat) : Nat → Nat → Nat
  | 0, p => p
  | f + 1, p => if p < n ∧ t p = 32 then skf t n f (p + 1) else p
def skp (t : Nat → Nat) (n p : Nat) : Nat := skf t n (n - p) p
theorem skp_go {t : Nat → Nat} {n p : Nat} (h1 : p < n) (h2 : t p = 32) : skp t n p = skp t n (p + 1) := by
  unfold skp
  obtain ⟨f, e⟩ : ∃ f, n - p = f + 1 := ⟨n - p - 1, by omega⟩
  rw [e, show n - (p + 1) = f by omega]
  show (if p < n ∧ t p = 32 then skf t n f (p + 1) else p) = _
  rw [if_pos ⟨h1, h2⟩]
theorem skp_no {t : Nat → Nat} {n p : Nat} (h : ¬ (p < n ∧ t p = 32)) : skp t n p = p := by
  unfold skp
  cases e : n - p with
  | zero => rfl
  | succ f =>
    show (if p < n ∧ t p = 32 then skf t n f (p + 1) else p) = _
    rw [if_neg h]
theorem skf_b {t : Nat → Nat} {n : Nat} : ∀ (f p : Nat), p ≤ n → p ≤ skf t n f p ∧ skf t n f p ≤ n
  | 0, p, h => ⟨Nat.le_refl p, h⟩
  | f + 1, p, h => by
    show p ≤ (if p < n ∧ t p = 32 then skf t n f (p + 1) else p) ∧ (if p < n ∧ t p = 32 then skf t n f (p + 1) else p) ≤ n
    by_cases e : p < n ∧ t p = 32
    · rw [if_pos e]
      have := skf_b (t := t) (n := n) f (p + 1) (by omega)
      omega
    · rw [if_neg e]; omega
theorem skp_b {t : Nat → Nat} {n p : Nat} (h : p ≤ n) : p ≤ skp t n p ∧ skp t n p ≤ n := skf_b _ p h
theorem skp_st {t : Nat → Nat} {n : Nat} : ∀ (f p : Nat), p ≤ n → n - p = f → ¬ (skp t n p < n ∧ t (skp t n p) = 32)
  | 0, p, h, e => by
    have h1 := (skp_b (t := t) h).1
    intro z
    omega
  | f + 1, p, h, e => by
    by_cases q : p < n ∧ t p = 32
    · rw [skp_go q.1 q.2]; exact skp_st f (p + 1) (by omega) (by omega)
    · rw [skp_no q]; exact q
theorem skp_id {t : Nat → Nat} {n p : Nat} (h : p ≤ n) : skp t n (skp t n p) = skp t n p := skp_no (skp_st _ p h rfl)
theorem cr_in {t : Nat → Nat} {n p : Nat} (h : p < n) : cr t n p = nI (t p) := if_pos h
theorem cr_out {t : Nat → Nat} {n p : Nat} (h : n ≤ p) : cr t n p = -1 := if_neg (by omega)
theorem cr_is {t : Nat → Nat} {n p k : Nat} (ht : ∀ i, i < n → t i < 256) (hk : k < 2 ^ 31) : cr t n p = nI k ↔ p < n ∧ t p = k := by
  by_cases h : p < n
  · rw [cr_in h, nI_eq (by have := ht p h; omega) hk]
    exact ⟨fun e => ⟨h, e⟩, fun e => e.2⟩
  · rw [cr_out (by omega)]
    exact ⟨fun e => absurd e.symm (nI_m1 hk), fun e => absurd e.1 h⟩
theorem cr_m1 {t : Nat → Nat} {n p : Nat} (ht : ∀ i, i < n → t i < 256) : cr t n p = -1 ↔ n ≤ p := by
  by_cases h : p < n
  · rw [cr_in h]
    exact ⟨fun e => absurd e (nI_m1 (by have := ht p h; omega)), fun e => by omega⟩
  · rw [cr_out (by omega)]
    exact ⟨fun _ => by omega, fun _ => rfl⟩
/-- is the sign at p a digit -/
def dg (t : Nat → Nat) (n p : Nat) : Bool := decide (p < n ∧ 48 ≤ t p ∧ t p ≤ 57)
theorem dg_lt {t : Nat → Nat} {n p : Nat} (ht : ∀ i, i < n → t i < 256) : dg t n p = true ↔ ¬ cr t n p < 48 ∧ ¬ 57 < cr t n p := by
  unfold dg
  rw [decide_eq_true_iff]
  by_cases h : p < n
  · have := ht p h
    rw [cr_in h, show (48 : Int32) = nI 48 from rfl, show (57 : Int32) = nI 57 from rfl, nI_ltI (by omega) (by omega), nI_ltI (by omega) (by omega)]
    constructor
    · intro e; omega
    · intro e; omega
  · rw [cr_out (by omega)]
    exact ⟨fun e => absurd e.1 h, fun e => absurd (by decide) e.1⟩
/-- the class's reader a stands at p -/
def RDR (S : mj_S) (a : Nat) (t : Nat → Nat) (n p : Nat) : Prop := ((m_kd S a = 1 ∨ m_kd S a = 6) ∧ a ≠ 7 ∧ m_ln S 7 = 240 ∧ m_gp S a 0 = some 7) ∧ m_gi S a 1 = nI n ∧ m_gi S a 2 = nI p ∧ p ≤ n ∧ n ≤ 240 ∧ (∀ i, i < n → m_gi S 7 i = nI (t i)) ∧ ∀ i, i < n → t i < 256
/-- the reference stands at p -/
def RRD (S : mj_S) (t : Nat → Nat) (n p : Nat) : Prop := (m_kd S 89 = 10 ∧ m_ln S 90 = 240 ∧ m_gp S 89 1 = some 90) ∧ m_gi S 89 2 = nI n ∧ m_gi S 89 3 = nI p ∧ p ≤ n ∧ n ≤ 240 ∧ (∀ i, i < n → m_gi S 90 i = nI (t i)) ∧ ∀ i, i < n → t i < 256
section TP
variable {l : Launch} {G : mj_G} {S : mj_S} {a n p : Nat} {t : Nat → Nat}
theorem RDR.mv (h : RDR S a t n p) {q : Nat} (hq : q ≤ n) : RDR (m_si S a 2 (nI q)) a t n q := by
  refine ⟨⟨h.1.1, h.1.2.1, h.1.2.2.1, h.1.2.2.2⟩, ?_, ?_, hq, h.2.2.2.2.1, fun i hi => ?_, h.2.2.2.2.2.2⟩
  · rw [m_gi_si, if_neg (by omega)]; exact h.2.1
  · rw [m_gi_si, if_pos ⟨rfl, rfl⟩]
  · rw [m_gi_si, if_neg (fun z => h.1.2.1 z.1.symm)]; exact h.2.2.2.2.2.1 i hi
theorem RRD.mv (h : RRD S t n p) {q : Nat} (hq : q ≤ n) : RRD (m_si S 89 3 (nI q)) t n q := by
  refine ⟨⟨h.1.1, h.1.2.1, h.1.2.2⟩, ?_, ?_, hq, h.2.2.2.2.1, fun i hi => ?_, h.2.2.2.2.2.2⟩
  · rw [m_gi_si, if_neg (by omega)]; exact h.2.1
  · rw [m_gi_si, if_pos ⟨rfl, rfl⟩]
  · rw [m_gi_si, if_neg (by omega)]; exact h.2.2.2.2.2.1 i hi
theorem RDR.tw (h : RDR S a t n p) : ∀ i, i < n → t i < 256 := h.2.2.2.2.2.2
theorem RRD.tw (h : RRD S t n p) : ∀ i, i < n → t i < 256 := h.2.2.2.2.2.2
theorem RDR.pn (h : RDR S a t n p) : p ≤ n ∧ n ≤ 240 := ⟨h.2.2.2.1, h.2.2.2.2.1⟩
theorem RRD.pn (h : RRD S t n p) : p ≤ n ∧ n ≤ 240 := ⟨h.2.2.2.1, h.2.2.2.2.1⟩
theorem RDR.at_ (h : RDR S a t n p) : m_gi S a 2 = nI p := h.2.2.1
theorem RRD.at_ (h : RRD S t n p) : m_gi S 89 3 = nI p := h.2.2.1
theorem s_peek38 {Q : mj_S → Int32 → Prop} (T : RDR S a t n p) (h : Q S (cr t n p)) : V_X5_peek_38 l G a S Q := by
  obtain ⟨⟨hk, ha, hl, hp⟩, h1, h2, hpn, hn, hv, ht⟩ := T
  have key : (((m_gi S a 1) ≤ (m_gi S a 2)) → Q S (-1 : Int32)) ∧ ((¬ ((m_gi S a 1) ≤ (m_gi S a 2))) → ∃ b1, m_gp S a 0 = some b1 ∧ (vp_in (m_gi S a 2) (m_ln S b1) ∧ (Q S (m_gi S b1 ((m_gi S a 2)).toNatClampNeg)))) := by
    rw [h1, h2]
    constructor
    · intro e
      by_cases q : p < n
      · exact absurd e (nI_ge q (by omega))
      · rw [cr_out (by omega)] at h; exact h
    · intro e
      by_cases q : p < n
      · refine ⟨7, hp, ?_, ?_⟩
        · rw [hl]; exact vp_nI (by omega) (by omega)
        · rw [nI_clamp (by omega), hv p q]; rw [cr_in q] at h; exact h
      · exact absurd (nI_le (by omega) (by omega)) e
  rcases hk with hk | hk
  · exact b_X5_peek_38_c1 hk key
  · exact b_X5_peek_38_c6 hk key
theorem s_peekV {t : Nat → Nat} {n a : Nat} : ∀ (f p : Nat) (S : mj_S) (Q : mj_S → Int32 → Prop), n - p = f → RDR S a t n p → (∀ S', S' = m_si S a 2 (nI (skp t n p)) → Q S' (cr t n (skp t n p))) → V_X5_peek_0 l G a S Q
  | f, p, S, Q, ef, T, h => by
    have T0 := T
    obtain ⟨⟨hk, ha, hl, hp⟩, h1, h2, hpn, hn, hv, ht⟩ := T
    have stop : ¬ (p < n ∧ t p = 32) → V_X5_peek_38 l G a S Q := by
      intro q
      rw [skp_no q] at h
      exact s_peek38 T0 (h S (by rw [← h2, m_si_self]))
    have key : (((m_gi S a 1) ≤ (m_gi S a 2)) → V_X5_peek_38 l G a S Q) ∧ ((¬ ((m_gi S a 1) ≤ (m_gi S a 2))) → ∃ b1, m_gp S a 0 = some b1 ∧ (vp_in (m_gi S a 2) (m_ln S b1) ∧ (((¬ (m_gi S b1 ((m_gi S a 2)).toNatClampNeg) = (32 : Int32)) → V_X5_peek_38 l G a S Q) ∧ (((m_gi S b1 ((m_gi S a 2)).toNatClampNeg) = (32 : Int32)) → ∀ S2 : mj_S, S2 = m_si S a 2 ((m_gi S a 2) + (1 : Int32)) → V_X5_peek_0 l G a S2 Q)))) := by
      rw [h1, h2]
      constructor
      · intro e
        apply stop
        intro q
        exact nI_ge q.1 (by omega) e
      · intro e
        have q : p < n := by
          by_cases q : p < n
          · exact q
          · exact absurd (nI_le (by omega) (by omega)) e
        refine ⟨7, hp, by rw [hl]; exact vp_nI (by omega) (by omega), ?_⟩
        rw [nI_clamp (by omega), hv p q, show (32 : Int32) = nI 32 from rfl, nI_eqI (by have := ht p q; omega) (by omega)]
        constructor
        · intro z; exact stop (fun y => z y.2)
        · intro z S2 e2
          rw [nI_1] at e2
          match f, ef with
          | 0, ef => omega
          | f + 1, ef =>
            rw [e2]
            refine s_peekV f (p + 1) _ Q (by omega) (T0.mv (by omega)) (fun S' e' => ?_)
            rw [← skp_go q z]
            exact h S' (by rw [e', m_si_si, ← skp_go q z])
    rcases hk with hk | hk
    · exact b_X5_peek_0_c1 hk key
    · exact b_X5_peek_0_c6 hk key
theorem s_peek {Q : mj_S → Int32 → Prop} (T : RDR S a t n p) (h : ∀ S', S' = m_si S a 2 (nI (skp t n p)) → RDR S' a t n (skp t n p) → Q S' (cr t n (skp t n p))) : M_X5_peek l G a S Q :=
  e_X5_peek (s_peekV _ p S Q rfl T (fun S' e => h S' e (by rw [e]; exact T.mv (skp_b T.pn.1).2)))
theorem s_isDigit {Q : mj_S → Int32 → Prop} (ht : ∀ i, i < n → t i < 256) (h1 : dg t n p = true → Q S 1) (h0 : dg t n p = false → Q S 0) : M_X5_isDigit l G (cr t n p) S Q := by
  refine e_X5_isDigit (b_X5_isDigit_0 ⟨fun e => ?_, fun e => ⟨fun e2 => ?_, fun e2 => ?_⟩⟩)
  · exact h0 (by rw [← Bool.not_eq_true, dg_lt ht]; exact fun z => z.1 e)
  · exact h0 (by rw [← Bool.not_eq_true, dg_lt ht]; exact fun z => z.2 e2)
  · exact h1 ((dg_lt ht).mpr ⟨e, e2⟩)
theorem s_risDigit {Q : mj_S → Int32 → Prop} (ht : ∀ i, i < n → t i < 256) (h1 : dg t n p = true → Q S 1) (h0 : dg t n p = false → Q S 0) : M_X11_isDigit l G (cr t n p) S Q := by
  refine e_X11_isDigit (b_X11_isDigit_0 ⟨fun e => ?_, fun e => ⟨fun e2 => ?_, fun e2 => ?_⟩⟩)
  · exact h0 (by rw [← Bool.not_eq_true, dg_lt ht]; exact fun z => z.1 e)
  · exact h0 (by rw [← Bool.not_eq_true, dg_lt ht]; exact fun z => z.2 e2)
  · exact h1 ((dg_lt ht).mpr ⟨e, e2⟩)
theorem s_here {Q : mj_S → Int32 → Prop} (T : RRD S t n p) (h : Q S (cr t n p)) : M_X11_here l G 89 S Q := by
  obtain ⟨⟨hk, hl, hp⟩, h1, h2, hpn, hn, hv, ht⟩ := T
  refine e_X11_here (b_X11_here_0 hk ?_)
  rw [h1, h2]
  constructor
  · intro e
    by_cases q : p < n
    · exact absurd e (nI_ge q (by omega))
    · rw [cr_out (by omega)] at h; exact h
  · intro e
    by_cases q : p < n
    · refine ⟨90, hp, ?_, ?_⟩
      · rw [hl]; exact vp_nI (by omega) (by omega)
      · rw [nI_clamp (by omega), hv p q]; rw [cr_in q] at h; exact h
    · exact absurd (nI_le (by omega) (by omega)) e
theorem s_lookV {t : Nat → Nat} {n : Nat} : ∀ (f p : Nat) (S : mj_S) (Q : mj_S → Int32 → Prop), n - p = f → RRD S t n p → (∀ S', S' = m_si S 89 3 (nI (skp t n p)) → Q S' (cr t n (skp t n p))) → V_X11_look_0 l G 89 S Q
  | f, p, S, Q, ef, T, h => by
    refine b_X11_look_0 T.1.1 (s_here T ?_)
    rw [show (32 : Int32) = nI 32 from rfl, cr_is T.tw (by omega)]
    constructor
    · intro z
      rw [skp_no z] at h
      exact s_here T (h S (by rw [← T.at_, m_si_self]))
    · intro z S5 e5
      rw [T.at_, nI_1] at e5
      have hpn := T.pn
      match f, ef with
      | 0, ef => omega
      | f + 1, ef =>
        rw [e5]
        refine s_lookV f (p + 1) _ Q (by omega) (T.mv (by omega)) (fun S' e' => ?_)
        rw [← skp_go z.1 z.2]
        exact h S' (by rw [e', m_si_si, ← skp_go z.1 z.2])
theorem s_look {Q : mj_S → Int32 → Prop} (T : RRD S t n p) (h : ∀ S', S' = m_si S 89 3 (nI (skp t n p)) → RRD S' t n (skp t n p) → Q S' (cr t n (skp t n p))) : M_X11_look l G 89 S Q :=
  e_X11_look (s_lookV _ p S Q rfl T (fun S' e => h S' e (by rw [e]; exact T.mv (skp_b T.pn.1).2)))
end TP
