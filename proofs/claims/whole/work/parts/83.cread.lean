/-! a room's text: what it tells, and the class's reading -/
abbrev ps : Type := Bool × (Nat → Nat) × (Nat × (Nat → Nat → Nat)) × (Nat × (Nat → Nat → Nat))
def p_rd (s : ps) : Bool := s.1
def p_ru (s : ps) (k : Nat) : Nat := s.2.1 k
def p_nc (s : ps) : Nat := s.2.2.1.1
def p_cu (s : ps) (c k : Nat) : Nat := s.2.2.1.2 c k
def p_np (s : ps) : Nat := s.2.2.2.1
def p_pe (s : ps) (p k : Nat) : Nat := s.2.2.2.2 p k
def p_S (s : ps) (v : Nat → Nat) : ps := (true, v, s.2.2.1, s.2.2.2)
def p_C (s : ps) (v : Nat → Nat) : ps := (s.1, s.2.1, (p_nc s + 1, fun c k => if c = p_nc s then v k else p_cu s c k), s.2.2.2)
def p_P (s : ps) (v : Nat → Nat) : ps := (s.1, s.2.1, s.2.2.1, (p_np s + 1, fun c k => if c = p_np s then v k else p_pe s c k))
def p_0 : ps := (false, fun k => tb US k, (0, fun _ _ => 0), (0, fun _ _ => 0))
def cl1 (r : Nat ⊕ ((Nat → Nat) × Nat)) (g : (Nat → Nat) → ps) : Nat ⊕ (ps × Nat) := match r with
  | .inl j => .inl j
  | .inr r => .inr (g r.1, r.2)
def itz (t : Nat → Nat) (n f m p : Nat) : Nat ⊕ ((Nat → Nat) × Nat) := its t n f m (m + 1) (fun _ => false) (fun k => tb US (f + k)) p
def cla (t : Nat → Nat) (n : Nat) (s : ps) (p : Nat) : Nat ⊕ (ps × Nat) := if cr t n (skp t n p) = 115 ∧ p_rd s = false then cl1 (itz t n 0 4 (skp t n p + 1)) (p_S s) else if cr t n (skp t n p) = 99 ∧ p_nc s < 10 then cl1 (itz t n 4 6 (skp t n p + 1)) (p_C s) else if cr t n (skp t n p) = 112 ∧ p_np s < 6 then cl1 (itz t n 10 2 (skp t n p + 1)) (p_P s) else .inl (skp t n p)
def p_n (s : ps) : Nat := p_ru s 0 * p_ru s 1
def p_ok (s : ps) : Prop := 0 < p_np s ∧ (∀ p, p < p_np s → p_pe s p 0 < p_n s) ∧ ∀ c, c < p_nc s → p_cu s c 0 < p_n s ∧ (if p_cu s c 1 = 0 then p_cu s c 0 % p_ru s 0 + 1 < p_ru s 0 else p_cu s c 0 + p_ru s 0 < p_n s) ∧ ∀ o, o < c → ¬ (p_cu s o 0 = p_cu s c 0 ∧ p_cu s o 1 = p_cu s c 1)
def p_okd (s : ps) : Decidable (p_ok s) := by unfold p_ok; infer_instance
def whl (s : ps) : Bool := @decide (p_ok s) (p_okd s)
theorem whl_t {s : ps} : whl s = true ↔ p_ok s := @decide_eq_true_iff _ (p_okd s)
def rdr (t : Nat → Nat) (n : Nat) : Nat → ps → Nat → Nat ⊕ ps
  | 0, _, _ => .inl 0
  | g + 1, s, p => match cla t n s p with
    | .inl j => .inl j
    | .inr r => if n ≤ skp t n r.2 then (if whl r.1 = true then .inr r.1 else .inl n) else if t (skp t n r.2) = 59 then rdr t n g r.1 (skp t n r.2 + 1) else .inl (skp t n r.2)
def p_wf (s : ps) : Prop := ((∀ k, k < 4 → tb LO k ≤ p_ru s k ∧ p_ru s k ≤ tb HI k) ∧ p_nc s ≤ 10 ∧ p_np s ≤ 6) ∧ (∀ c, c < p_nc s → ∀ k, k < 6 → tb LO (4 + k) ≤ p_cu s c k ∧ p_cu s c k ≤ tb HI (4 + k)) ∧ ∀ p, p < p_np s → ∀ k, k < 2 → tb LO (10 + k) ≤ p_pe s p k ∧ p_pe s p k ≤ tb HI (10 + k)
theorem nmb_ok {t : Nat → Nat} {n lo hi p : Nat} {r : Nat × Nat} (e : nmb t n lo hi p = .inr r) (hp : p ≤ n) : lo ≤ r.1 ∧ r.1 ≤ hi ∧ r.2 ≤ n := by
  have hq := skp_b (t := t) hp
  unfold nmb nmf at e
  split at e
  · rename_i d1
    have hd1 : skp t n p < n := by unfold dg at d1; rw [decide_eq_true_iff] at d1; exact d1.1
    split at e
    · rename_i d2
      have hd2 : skp t n p + 1 < n := by unfold dg at d2; rw [decide_eq_true_iff] at d2; exact d2.1
      split at e
      · cases e
      · split at e
        · rename_i g; cases e; exact ⟨g.1, g.2, hd2⟩
        · cases e
    · split at e
      · rename_i g; cases e; exact ⟨g.1, g.2, hd1⟩
      · cases e
  · cases e
theorem its_ok {t : Nat → Nat} {n f m : Nat} (hf : f + m ≤ 12) : ∀ {g : Nat} {had : Nat → Bool} {v : Nat → Nat} {p : Nat} {r : (Nat → Nat) × Nat}, its t n f m g had v p = .inr r → p ≤ n → (∀ i, i < n → t i < 256) → (∀ k, k < m → tb LO (f + k) ≤ v k ∧ v k ≤ tb HI (f + k)) → (∀ k, k < m → tb LO (f + k) ≤ r.1 k ∧ r.1 k ≤ tb HI (f + k)) ∧ r.2 ≤ n
  | 0, had, v, p, r, e, hp, ht, hv => by cases e
  | g + 1, had, v, p, r, e, hp, ht, hv => by
    have hq := skp_b (t := t) hp
    have e' : (match itn f (cr t n (skp t n p)) m 0 with
      | none => (.inr (v, skp t n p) : Nat ⊕ ((Nat → Nat) × Nat))
      | some k => if had k = true then .inl (skp t n p) else match nmb t n (tb LO (f + k)) (tb HI (f + k)) (skp t n p + 1) with
        | .inl j => .inl j
        | .inr r => its t n f m g (fun i => had i || decide (i = k)) (fun i => if i = k then r.1 else v i) r.2) = .inr r := e
    clear e
    cases ek : itn f (cr t n (skp t n p)) m 0 with
    | none => rw [ek] at e'; cases e'; exact ⟨hv, hq.2⟩
    | some k =>
      rw [ek] at e'
      have hk := itn_lt ek
      have htb := tb_b (f + k) (by omega)
      have hlt := (cr_is (p := skp t n p) ht (show tb LT (f + k) < 2 ^ 31 by omega)).mp hk.2.2.symm
      by_cases hh : had k = true
      · simp only [hh, if_true] at e'; cases e'
      · simp only [hh, if_false, Bool.false_eq_true] at e'
        cases en : nmb t n (tb LO (f + k)) (tb HI (f + k)) (skp t n p + 1) with
        | inl j => rw [en] at e'; cases e'
        | inr w =>
          rw [en] at e'
          have hw := nmb_ok en hlt.1
          refine its_ok hf e' hw.2.2 ht (fun j hj => ?_)
          show tb LO (f + j) ≤ (if j = k then w.1 else v j) ∧ (if j = k then w.1 else v j) ≤ tb HI (f + j)
          by_cases e : j = k
          · rw [if_pos e, e]; exact ⟨hw.1, hw.2.1⟩
          · rw [if_neg e]; exact hv j hj
theorem its_lt {t : Nat → Nat} {n f m : Nat} (hf : f + m ≤ 12) (hn : n ≤ 240) : ∀ {g : Nat} {had : Nat → Bool} {v : Nat → Nat} {p j : Nat}, its t n f m g had v p = .inl j → p ≤ n → (∀ i, i < n → t i < 256) → j < 1000
  | 0, had, v, p, j, e, hp, ht => by cases e; omega
  | g + 1, had, v, p, j, e, hp, ht => by
    have hq := skp_b (t := t) hp
    have e' : (match itn f (cr t n (skp t n p)) m 0 with
      | none => (.inr (v, skp t n p) : Nat ⊕ ((Nat → Nat) × Nat))
      | some k => if had k = true then .inl (skp t n p) else match nmb t n (tb LO (f + k)) (tb HI (f + k)) (skp t n p + 1) with
        | .inl j => .inl j
        | .inr r => its t n f m g (fun i => had i || decide (i = k)) (fun i => if i = k then r.1 else v i) r.2) = .inl j := e
    clear e
    cases ek : itn f (cr t n (skp t n p)) m 0 with
    | none => rw [ek] at e'; cases e'
    | some k =>
      rw [ek] at e'
      have hk := itn_lt ek
      have htb := tb_b (f + k) (by omega)
      have hlt := (cr_is (p := skp t n p) ht (show tb LT (f + k) < 2 ^ 31 by omega)).mp hk.2.2.symm
      by_cases hh : had k = true
      · simp only [hh, if_true] at e'; cases e'; omega
      · simp only [hh, if_false, Bool.false_eq_true] at e'
        cases en : nmb t n (tb LO (f + k)) (tb HI (f + k)) (skp t n p + 1) with
        | inl i => rw [en] at e'; cases e'; exact nmb_lt hlt.1 hn en
        | inr w =>
          rw [en] at e'
          exact its_lt hf hn e' (nmb_ok en hlt.1).2.2 ht
theorem itz_ok {t : Nat → Nat} {n f m p : Nat} {r : (Nat → Nat) × Nat} (hf : f + m ≤ 12) (e : itz t n f m p = .inr r) (hp : p ≤ n) (ht : ∀ i, i < n → t i < 256) : (∀ k, k < m → tb LO (f + k) ≤ r.1 k ∧ r.1 k ≤ tb HI (f + k)) ∧ r.2 ≤ n := its_ok hf e hp ht (fun k hk => by have := tb_b (f + k) (by omega); exact ⟨this.1, this.2.1⟩)
theorem p_wf.S {s : ps} {v : Nat → Nat} (h : p_wf s) (hv : ∀ k, k < 4 → tb LO (0 + k) ≤ v k ∧ v k ≤ tb HI (0 + k)) : p_wf (p_S s v) := ⟨⟨fun k hk => by have := hv k hk; rw [Nat.zero_add] at this; exact this, h.1.2⟩, h.2⟩
theorem p_wf.C {s : ps} {v : Nat → Nat} (h : p_wf s) (hc : p_nc s < 10) (hv : ∀ k, k < 6 → tb LO (4 + k) ≤ v k ∧ v k ≤ tb HI (4 + k)) : p_wf (p_C s v) := by
  refine ⟨⟨h.1.1, hc, h.1.2.2⟩, fun c q k hk => ?_, h.2.2⟩
  show tb LO (4 + k) ≤ (if c = p_nc s then v k else p_cu s c k) ∧ (if c = p_nc s then v k else p_cu s c k) ≤ tb HI (4 + k)
  have q' : c < p_nc s + 1 := q
  by_cases e : c = p_nc s
  · rw [if_pos e]; exact hv k hk
  · rw [if_neg e]; exact h.2.1 c (by omega) k hk
theorem p_wf.P {s : ps} {v : Nat → Nat} (h : p_wf s) (hc : p_np s < 6) (hv : ∀ k, k < 2 → tb LO (10 + k) ≤ v k ∧ v k ≤ tb HI (10 + k)) : p_wf (p_P s v) := by
  refine ⟨⟨h.1.1, h.1.2.1, hc⟩, h.2.1, fun c q k hk => ?_⟩
  show tb LO (10 + k) ≤ (if c = p_np s then v k else p_pe s c k) ∧ (if c = p_np s then v k else p_pe s c k) ≤ tb HI (10 + k)
  have q' : c < p_np s + 1 := q
  by_cases e : c = p_np s
  · rw [if_pos e]; exact hv k hk
  · rw [if_neg e]; exact h.2.2 c (by omega) k hk
theorem p_0_wf : p_wf p_0 := ⟨⟨fun k hk => by have := tb_b k (by omega); exact ⟨this.1, this.2.1⟩, Nat.zero_le _, Nat.zero_le _⟩, fun c hc => absurd hc (Nat.not_lt_zero c), fun c hc => absurd hc (Nat.not_lt_zero c)⟩
/-- how many clauses have been told -/
def p_k (s : ps) : Nat := (if p_rd s = true then 1 else 0) + p_nc s + p_np s
theorem cla_ok {t : Nat → Nat} {n p : Nat} {s : ps} {r : ps × Nat} (h : p_wf s) (e : cla t n s p = .inr r) (hp : p ≤ n) (ht : ∀ i, i < n → t i < 256) : p_wf r.1 ∧ r.2 ≤ n ∧ p_k r.1 = p_k s + 1 := by
  unfold cla at e
  split at e
  · rename_i g
    have hlt := (cr_is (p := skp t n p) ht (show 115 < 2 ^ 31 by omega)).mp g.1
    cases ei : itz t n 0 4 (skp t n p + 1) with
    | inl j => rw [ei] at e; cases e
    | inr w =>
      rw [ei] at e; cases e
      have hw := itz_ok (by omega) ei hlt.1 ht
      refine ⟨h.S hw.1, hw.2, ?_⟩
      unfold p_k
      rw [g.2]
      show 1 + p_nc s + p_np s = 0 + p_nc s + p_np s + 1
      omega
  · split at e
    · rename_i g
      have hlt := (cr_is (p := skp t n p) ht (show 99 < 2 ^ 31 by omega)).mp g.1
      cases ei : itz t n 4 6 (skp t n p + 1) with
      | inl j => rw [ei] at e; cases e
      | inr w =>
        rw [ei] at e; cases e
        have hw := itz_ok (by omega) ei hlt.1 ht
        refine ⟨h.C g.2 hw.1, hw.2, ?_⟩
        show (if p_rd s = true then 1 else 0) + (p_nc s + 1) + p_np s = (if p_rd s = true then 1 else 0) + p_nc s + p_np s + 1
        omega
    · split at e
      · rename_i g
        have hlt := (cr_is (p := skp t n p) ht (show 112 < 2 ^ 31 by omega)).mp g.1
        cases ei : itz t n 10 2 (skp t n p + 1) with
        | inl j => rw [ei] at e; cases e
        | inr w =>
          rw [ei] at e; cases e
          have hw := itz_ok (by omega) ei hlt.1 ht
          refine ⟨h.P g.2 hw.1, hw.2, ?_⟩
          show (if p_rd s = true then 1 else 0) + p_nc s + (p_np s + 1) = (if p_rd s = true then 1 else 0) + p_nc s + p_np s + 1
          omega
      · cases e
theorem cla_lt {t : Nat → Nat} {n p j : Nat} {s : ps} (e : cla t n s p = .inl j) (hp : p ≤ n) (hn : n ≤ 240) (ht : ∀ i, i < n → t i < 256) : j < 1000 := by
  have hq := skp_b (t := t) hp
  unfold cla at e
  split at e
  · rename_i g
    have hlt := (cr_is (p := skp t n p) ht (show 115 < 2 ^ 31 by omega)).mp g.1
    cases ei : itz t n 0 4 (skp t n p + 1) with
    | inl j => rw [ei] at e; cases e; exact its_lt (by omega) hn ei hlt.1 ht
    | inr w => rw [ei] at e; cases e
  · split at e
    · rename_i g
      have hlt := (cr_is (p := skp t n p) ht (show 99 < 2 ^ 31 by omega)).mp g.1
      cases ei : itz t n 4 6 (skp t n p + 1) with
      | inl j => rw [ei] at e; cases e; exact its_lt (by omega) hn ei hlt.1 ht
      | inr w => rw [ei] at e; cases e
    · split at e
      · rename_i g
        have hlt := (cr_is (p := skp t n p) ht (show 112 < 2 ^ 31 by omega)).mp g.1
        cases ei : itz t n 10 2 (skp t n p + 1) with
        | inl j => rw [ei] at e; cases e; exact its_lt (by omega) hn ei hlt.1 ht
        | inr w => rw [ei] at e; cases e
      · cases e; omega
theorem p_k_le {s : ps} (h : p_wf s) : p_k s ≤ 17 := by
  have := h.1.2
  unfold p_k
  split <;> omega
