/-! a law's text: places and lengths -/
section LRK
variable {t : Nat → Nat} {n : Nat}
theorem rok.fst {p : Nat} {r : lrs} {k : List tok → Nat → lrs} (h : rok n p r) (hk : ∀ ts e, p < e → e ≤ n → rok2 n e ts (k ts e)) : rok n p (fst_ r k) := by
  unfold fst_
  cases r with
  | inl j => exact h
  | inr w =>
    have h' : p < w.2 ∧ w.2 ≤ n ∧ w.1.length + p ≤ w.2 := h
    have := hk w.1 w.2 h'.1 h'.2.1
    show rok n p (k w.1 w.2)
    cases e : k w.1 w.2 with
    | inl j => rw [e] at this; exact this
    | inr v =>
      rw [e] at this
      have q : w.2 ≤ v.2 ∧ v.2 ≤ n ∧ v.1.length + w.2 ≤ v.2 + w.1.length := this
      exact ⟨by omega, q.2.1, show v.1.length + p ≤ v.2 by omega⟩
theorem rok2.fst {p : Nat} {ts0 : List tok} {r : lrs} {k : List tok → Nat → lrs} (h : rok2 n p ts0 r) (hk : ∀ ts e, p ≤ e → e ≤ n → rok2 n e ts (k ts e)) : rok2 n p ts0 (fst_ r k) := by
  unfold fst_
  cases r with
  | inl j => exact h
  | inr w =>
    have h' : p ≤ w.2 ∧ w.2 ≤ n ∧ w.1.length + p ≤ w.2 + ts0.length := h
    have := hk w.1 w.2 h'.1 h'.2.1
    show rok2 n p ts0 (k w.1 w.2)
    cases e : k w.1 w.2 with
    | inl j => rw [e] at this; exact this
    | inr v =>
      rw [e] at this
      have q : w.2 ≤ v.2 ∧ v.2 ≤ n ∧ v.1.length + w.2 ≤ v.2 + w.1.length := this
      exact ⟨by omega, q.2.1, show v.1.length + p ≤ v.2 + ts0.length by omega⟩
theorem cr_pos {p : Nat} {kd : Int32 → Option Nat} {c : Nat} (hkd : kd (-1) = none) (h : kd (cr t n p) = some c) : p < n := by
  by_cases e : p < n
  · exact e
  · rw [cr_out (by omega), hkd] at h; cases h
theorem lpp_ok {kd : Int32 → Option Nat} {body : Nat → lrs} (hn : n ≤ 240) (hkd : kd (-1) = none) (hb : ∀ q, q ≤ n → rok n q (body q)) : ∀ (g : Nat) (ts : List tok) (p : Nat), p ≤ n → rok2 n p ts (lpp t n kd body g ts p)
  | 0, ts, p, hp => by
    have := skp_b (t := t) hp
    exact ⟨this.1, this.2, show ts.length + p ≤ skp t n p + ts.length by omega⟩
  | g + 1, ts, p, hp => by
    have hs := skp_b (t := t) hp
    show rok2 n p ts (match kd (cr t n (skp t n p)) with
      | none => .inr (ts, skp t n p)
      | some c => match body (skp t n p + 1) with
        | .inl j => .inl j
        | .inr w => lpp t n kd body g (ts ++ w.1 ++ [(c, 0)]) w.2)
    cases ek : kd (cr t n (skp t n p)) with
    | none => exact ⟨hs.1, hs.2, show ts.length + p ≤ skp t n p + ts.length by omega⟩
    | some c =>
      have hlt := cr_pos hkd ek
      have hbo := hb (skp t n p + 1) hlt
      show rok2 n p ts (match body (skp t n p + 1) with
        | .inl j => .inl j
        | .inr w => lpp t n kd body g (ts ++ w.1 ++ [(c, 0)]) w.2)
      cases eb : body (skp t n p + 1) with
      | inl j => rw [eb] at hbo; exact hbo
      | inr w =>
        rw [eb] at hbo
        have h' : skp t n p + 1 < w.2 ∧ w.2 ≤ n ∧ w.1.length + (skp t n p + 1) ≤ w.2 := hbo
        have ih := lpp_ok hn hkd hb g (ts ++ w.1 ++ [(c, 0)]) w.2 h'.2.1
        show rok2 n p ts (lpp t n kd body g (ts ++ w.1 ++ [(c, 0)]) w.2)
        cases el : lpp t n kd body g (ts ++ w.1 ++ [(c, 0)]) w.2 with
        | inl j => rw [el] at ih; exact ih
        | inr v =>
          rw [el] at ih
          have q : w.2 ≤ v.2 ∧ v.2 ≤ n ∧ v.1.length + w.2 ≤ v.2 + (ts ++ w.1 ++ [(c, 0)]).length := ih
          rw [List.length_append, List.length_append, List.length_singleton] at q
          exact ⟨by omega, q.2.1, show v.1.length + p ≤ v.2 + ts.length by omega⟩
theorem cld_ok {p c : Nat} {r : lrs} (hn : n ≤ 240) (hc : c < 256) (ht : ∀ i, i < n → t i < 256) (h : rok n (p + 1) r) : rok n p (cld t n c r) := by
  unfold cld
  cases r with
  | inl j => exact h
  | inr w =>
    have h' : p + 1 < w.2 ∧ w.2 ≤ n ∧ w.1.length + (p + 1) ≤ w.2 := h
    have hs := skp_b (t := t) h'.2.1
    show rok n p (if cr t n (skp t n w.2) = nI c then .inr (w.1, skp t n w.2 + 1) else .inl (skp t n w.2))
    by_cases e : cr t n (skp t n w.2) = nI c
    · rw [if_pos e]
      have := ((cr_is ht (by omega)).mp e).1
      exact ⟨show p < skp t n w.2 + 1 by omega, this, show w.1.length + p ≤ skp t n w.2 + 1 by omega⟩
    · rw [if_neg e]; show skp t n w.2 < 1000; omega
theorem rok.sk {p : Nat} {r : lrs} {q : Nat} (h : rok n q r) (hq : p ≤ q) : rok n p r := by
  cases r with
  | inl j => exact h
  | inr w =>
    have h' : q < w.2 ∧ w.2 ≤ n ∧ w.1.length + q ≤ w.2 := h
    exact ⟨by omega, h'.2.1, by omega⟩
theorem ltr_lt {c : Int32} : ∀ {m k j : Nat}, ltr c m k = some j → k ≤ j ∧ j < k + m ∧ nI (tb LL j) = c
  | 0, k, j, h => by cases h
  | m + 1, k, j, h => by
    have h' : (if nI (tb LL k) = c then some k else ltr c m (k + 1)) = some j := h
    by_cases e : nI (tb LL k) = c
    · rw [if_pos e] at h'; cases h'; exact ⟨Nat.le_refl _, by omega, e⟩
    · rw [if_neg e] at h'
      have := ltr_lt h'
      exact ⟨by omega, by omega, this.2.2⟩
theorem pat_ok {sm : Option (Nat → lrs)} (hn : n ≤ 240) (ht : ∀ i, i < n → t i < 256) (hsm : ∀ f, sm = some f → ∀ q, q ≤ n → rok n q (f q)) : ∀ p, p ≤ n → rok n p (pat t n sm p) := by
  intro p hp
  have hs := skp_b (t := t) hp
  unfold pat
  by_cases d : dg t n (skp t n p) = true
  · rw [if_pos d]
    have hlt : skp t n p < n := by unfold dg at d; rw [decide_eq_true_iff] at d; exact d.1
    show rok n p (if dg t n (skp t n p) = true then pnm t n 3 (10 * 0 + (t (skp t n p) - 48)) (skp t n p + 1) else .inr ([(0, 0)], skp t n p))
    rw [if_pos d]
    exact pnm_ok hn 3 _ _ _ hlt (by omega)
  · rw [if_neg d]
    by_cases e : cr t n (skp t n p) = 91
    · rw [if_pos e]
      have hlt := ((cr_is ht (k := 91) (by omega)).mp e).1
      cases sm with
      | none => show skp t n p < 1000; omega
      | some f => exact (cld_ok hn (by omega) ht (hsm f rfl _ hlt)).sk hs.1
    · rw [if_neg e]
      cases el : ltr (cr t n (skp t n p)) 6 0 with
      | none => show skp t n p < 1000; omega
      | some k =>
        have hl := ltr_lt el
        have hlt : skp t n p < n := by
          by_cases q : skp t n p < n
          · exact q
          · rw [cr_out (by omega)] at hl
            exact absurd hl.2.2 (nI_m1 (by
              have : ∀ j, j < 6 → tb LL j < 256 := by decide
              have := this k (by omega); omega))
        exact ⟨show p < skp t n p + 1 by omega, hlt, show 1 + p ≤ skp t n p + 1 by omega⟩
theorem ptm_ok {sm : Option (Nat → lrs)} (hn : n ≤ 240) (ht : ∀ i, i < n → t i < 256) (hsm : ∀ f, sm = some f → ∀ q, q ≤ n → rok n q (f q)) : ∀ p, p ≤ n → rok n p (ptm t n sm p) := fun p hp => (pat_ok hn ht hsm p hp).fst (fun ts e _ he => lpp_ok hn rfl (pat_ok hn ht hsm) 240 ts e he)
theorem psm_ok {sm : Option (Nat → lrs)} (hn : n ≤ 240) (ht : ∀ i, i < n → t i < 256) (hsm : ∀ f, sm = some f → ∀ q, q ≤ n → rok n q (f q)) : ∀ p, p ≤ n → rok n p (psm t n sm p) := fun p hp => (ptm_ok hn ht hsm p hp).fst (fun ts e _ he => lpp_ok hn rfl (ptm_ok hn ht hsm) 240 ts e he)
theorem sumD_ok (hn : n ≤ 240) (ht : ∀ i, i < n → t i < 256) : ∀ (k p : Nat), p ≤ n → rok n p (sumD t n k p)
  | 0 => psm_ok hn ht (fun f e => by cases e)
  | k + 1 => psm_ok hn ht (fun f e => by cases e; exact sumD_ok hn ht k)
theorem cmpD_ok (hn : n ≤ 240) (ht : ∀ i, i < n → t i < 256) (k : Nat) (ts : List tok) (p : Nat) (hp : p ≤ n) : rok2 n p ts (cmpD t n k ts p) := by
  have hs := skp_b (t := t) hp
  unfold cmpD
  cases ek : kdC (cr t n (skp t n p)) with
  | none => show skp t n p < 1000; omega
  | some c =>
    have hlt := cr_pos rfl ek
    have h := sumD_ok hn ht k (skp t n p + 1) hlt
    show rok2 n p ts (fst_ (sumD t n k (skp t n p + 1)) (fun us e => .inr (ts ++ us ++ [(c, 0)], e)))
    unfold fst_
    cases es : sumD t n k (skp t n p + 1) with
    | inl j => rw [es] at h; exact h
    | inr w =>
      rw [es] at h
      have h' : skp t n p + 1 < w.2 ∧ w.2 ≤ n ∧ w.1.length + (skp t n p + 1) ≤ w.2 := h
      refine ⟨show p ≤ w.2 by omega, h'.2.1, ?_⟩
      show (ts ++ w.1 ++ [(c, 0)]).length + p ≤ w.2 + ts.length
      rw [List.length_append, List.length_append, List.length_singleton]
      omega
theorem truO_ok {u : Nat → lrs} (hn : n ≤ 240) (hu : ∀ q, q ≤ n → rok n q (u q)) (p : Nat) (hp : p ≤ n) : rok n p (truO t n u p) := (hu p hp).fst (fun ts e _ he => lpp_ok hn rfl hu 240 ts e he)
theorem cndO_ok {u : Nat → lrs} (hn : n ≤ 240) (hu : ∀ q, q ≤ n → rok n q (u q)) (ts : List tok) (p : Nat) (hp : p ≤ n) : rok2 n p ts (cndO t n u ts p) := (lpp_ok hn rfl hu 240 ts p hp).fst (fun us e _ he => lpp_ok hn rfl (fun q hq => truO_ok hn hu q hq) 240 us e he)
theorem unD_ok (hn : n ≤ 240) (ht : ∀ i, i < n → t i < 256) : ∀ (k p : Nat), p ≤ n → rok n p (unD t n k p)
  | 0, p, hp => by
    have hs := skp_b (t := t) hp
    show rok n p (if cr t n (skp t n p) = 33 ∨ cr t n (skp t n p) = 40 then .inl (skp t n p) else fst_ (sumD t n 0 p) (fun ts e => cmpD t n 0 ts e))
    by_cases e : cr t n (skp t n p) = 33 ∨ cr t n (skp t n p) = 40
    · rw [if_pos e]; show skp t n p < 1000; omega
    · rw [if_neg e]; exact (sumD_ok hn ht 0 p hp).fst (fun ts e _ he => cmpD_ok hn ht 0 ts e he)
  | k + 1, p, hp => by
    have hs := skp_b (t := t) hp
    show rok n p (if cr t n (skp t n p) = 33 then fst_ (unD t n k (skp t n p + 1)) (fun ts e => .inr (ts ++ [(9, 0)], e)) else if cr t n (skp t n p) = 40 then cld t n 41 (fst_ (unD t n k (skp t n p + 1)) (fun ts e => cndO t n (unD t n k) ts e)) else fst_ (sumD t n (k + 1) p) (fun ts e => cmpD t n (k + 1) ts e))
    by_cases e : cr t n (skp t n p) = 33
    · rw [if_pos e]
      have hlt := ((cr_is ht (k := 33) (by omega)).mp e).1
      have h := unD_ok hn ht k (skp t n p + 1) hlt
      unfold fst_
      cases eu : unD t n k (skp t n p + 1) with
      | inl j => rw [eu] at h; exact h
      | inr w =>
        rw [eu] at h
        have h' : skp t n p + 1 < w.2 ∧ w.2 ≤ n ∧ w.1.length + (skp t n p + 1) ≤ w.2 := h
        refine ⟨show p < w.2 by omega, h'.2.1, ?_⟩
        show (w.1 ++ [(9, 0)]).length + p ≤ w.2
        rw [List.length_append, List.length_singleton]
        omega
    · rw [if_neg e]
      by_cases e2 : cr t n (skp t n p) = 40
      · rw [if_pos e2]
        have hlt := ((cr_is ht (k := 40) (by omega)).mp e2).1
        exact (cld_ok hn (by omega) ht ((unD_ok hn ht k (skp t n p + 1) hlt).fst (fun ts e _ he => cndO_ok hn (unD_ok hn ht k) ts e he))).sk hs.1
      · rw [if_neg e2]; exact (sumD_ok hn ht (k + 1) p hp).fst (fun ts e _ he => cmpD_ok hn ht (k + 1) ts e he)
end LRK
