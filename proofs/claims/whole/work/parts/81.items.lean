/-! items of a clause, as both sides read them -/
def tb (l : List Nat) (i : Nat) : Nat := l.getD i 0
def LT : List Nat := [119, 104, 108, 109, 97, 100, 118, 107, 103, 111, 99, 109]
def LO : List Nat := [1, 1, 0, 0, 0, 0, 0, 1, 0, 0, 0, 1]
def HI : List Nat := [5, 4, 99, 9, 19, 1, 9, 99, 9, 1, 19, 9]
def US : List Nat := [4, 3, 40, 1, 0, 0, 5, 30, 1, 0, 0, 3]
def LL : List Nat := [118, 107, 103, 108, 121, 99]
def TBL (S : mj_S) : Prop := (∀ i, i < 12 → m_gi S 0 i = nI (tb LT i) ∧ m_gi S 1 i = nI (tb LO i) ∧ m_gi S 2 i = nI (tb HI i) ∧ m_gi S 3 i = nI (tb US i)) ∧ ∀ i, i < 6 → m_gi S 4 i = nI (tb LL i)
theorem TBL.keep {S S' : mj_S} (h : TBL S) (k : ∀ a j, a < 5 → m_gi S' a j = m_gi S a j) : TBL S' := ⟨fun i hi => ⟨(k _ _ (by omega)).trans (h.1 i hi).1, (k _ _ (by omega)).trans (h.1 i hi).2.1, (k _ _ (by omega)).trans (h.1 i hi).2.2.1, (k _ _ (by omega)).trans (h.1 i hi).2.2.2⟩, fun i hi => (k _ _ (by omega)).trans (h.2 i hi)⟩
theorem tb_b : ∀ i, i < 12 → tb LO i ≤ tb US i ∧ tb US i ≤ tb HI i ∧ tb HI i ≤ 99 ∧ tb LT i < 256 := by decide +kernel
def nmf (lo hi v e : Nat) : Nat ⊕ (Nat × Nat) := if lo ≤ v ∧ v ≤ hi then .inr (v, e) else .inl (e - 1)
def nmb (t : Nat → Nat) (n lo hi p : Nat) : Nat ⊕ (Nat × Nat) := if dg t n (skp t n p) = true then (if dg t n (skp t n p + 1) = true then (if dg t n (skp t n p + 2) = true then .inl (skp t n p + 2) else nmf lo hi (10 * (t (skp t n p) - 48) + (t (skp t n p + 1) - 48)) (skp t n p + 2)) else nmf lo hi (t (skp t n p) - 48) (skp t n p + 1)) else .inl (skp t n p)
def itn (f : Nat) (c : Int32) : Nat → Nat → Option Nat
  | 0, _ => none
  | m + 1, k => if nI (tb LT (f + k)) = c then some k else itn f c m (k + 1)
def its (t : Nat → Nat) (n f m : Nat) : Nat → (Nat → Bool) → (Nat → Nat) → Nat → Nat ⊕ ((Nat → Nat) × Nat)
  | 0, _, _, p => .inl p
  | g + 1, had, v, p => match itn f (cr t n (skp t n p)) m 0 with
    | none => .inr (v, skp t n p)
    | some k => if had k = true then .inl (skp t n p) else match nmb t n (tb LO (f + k)) (tb HI (f + k)) (skp t n p + 1) with
      | .inl j => .inl j
      | .inr r => its t n f m g (fun i => had i || decide (i = k)) (fun i => if i = k then r.1 else v i) r.2
theorem itn_lt {f : Nat} {c : Int32} : ∀ {m k j : Nat}, itn f c m k = some j → k ≤ j ∧ j < k + m ∧ nI (tb LT (f + j)) = c
  | 0, k, j, h => by cases h
  | m + 1, k, j, h => by
    have h' : (if nI (tb LT (f + k)) = c then some k else itn f c m (k + 1)) = some j := h
    by_cases e : nI (tb LT (f + k)) = c
    · rw [if_pos e] at h'; cases h'; exact ⟨Nat.le_refl _, by omega, e⟩
    · rw [if_neg e] at h'
      have := itn_lt h'
      exact ⟨by omega, by omega, this.2.2⟩
/-- how many are had -/
def chd (had : Nat → Bool) : Nat → Nat
  | 0 => 0
  | m + 1 => chd had m + (if had m = true then 1 else 0)
theorem chd_le {had : Nat → Bool} : ∀ m, chd had m ≤ m
  | 0 => Nat.le_refl 0
  | m + 1 => by
    have := chd_le (had := had) m
    show chd had m + (if had m = true then 1 else 0) ≤ m + 1
    split <;> omega
theorem chd_ge {had : Nat → Bool} {k : Nat} : ∀ m, m ≤ k → chd (fun i => had i || decide (i = k)) m = chd had m
  | 0, _ => rfl
  | m + 1, h => by
    show chd (fun i => had i || decide (i = k)) m + (if (had m || decide (m = k)) = true then 1 else 0) = chd had m + (if had m = true then 1 else 0)
    rw [chd_ge m (by omega), decide_eq_false (by omega), Bool.or_false]
theorem chd_s {had : Nat → Bool} {k : Nat} (hk : ¬ had k = true) : ∀ m, k < m → chd (fun i => had i || decide (i = k)) m = chd had m + 1
  | 0, h => by omega
  | m + 1, h => by
    show chd (fun i => had i || decide (i = k)) m + (if (had m || decide (m = k)) = true then 1 else 0) = chd had m + (if had m = true then 1 else 0) + 1
    by_cases e : k = m
    · subst e
      rw [chd_ge _ (Nat.le_refl _), if_neg hk]
      simp
    · rw [chd_s hk m (by omega), decide_eq_false (by omega), Bool.or_false]
      omega
theorem chd_0 : ∀ m, chd (fun _ => false) m = 0
  | 0 => rfl
  | m + 1 => by show chd (fun _ => false) m + 0 = 0; rw [chd_0 m]
def D8i (a j : Nat) : Bool := (Nat.beq a 8 && Nat.beq j 2) || Nat.beq a 19
theorem D8i_f {a j : Nat} (h1 : ¬ (a = 8 ∧ j = 2)) (h2 : a ≠ 19) : D8i a j = false := by
  unfold D8i
  rw [Bool.or_eq_false_iff, Bool.and_eq_false_iff]
  refine ⟨?_, ?_⟩
  · by_cases e : a = 8
    · right; rw [← Bool.not_eq_true, Nat.beq_eq]; exact fun z => h1 ⟨e, z⟩
    · left; rw [← Bool.not_eq_true, Nat.beq_eq]; exact e
  · rw [← Bool.not_eq_true, Nat.beq_eq]; exact h2
section IT
variable {l : Launch} {G : mj_G} {L : Nat} {S : mj_S} {n p : Nat} {t : Nat → Nat}
theorem RDR.s19 (h : RDR S 8 t n p) {k : Nat} {x : Int32} : RDR (m_si S 19 k x) 8 t n p := by
  refine ⟨⟨h.1.1, h.1.2.1, h.1.2.2.1, h.1.2.2.2⟩, ?_, ?_, h.2.2.2.1, h.2.2.2.2.1, fun i hi => ?_, h.2.2.2.2.2.2⟩
  · rw [m_gi_si, if_neg (by omega)]; exact h.2.1
  · rw [m_gi_si, if_neg (by omega)]; exact h.2.2.1
  · rw [m_gi_si, if_neg (by omega)]; exact h.2.2.2.2.2.1 i hi
theorem TBL.f8 {S' : mj_S} (h : TBL S) (f : fr D8i S S') : TBL S' := h.keep (fun a j ha => f.i a j (D8i_f (by omega) (by omega)))
theorem s_rn19 {v d k : Nat} {Q : mj_S → Int32 → Prop} (T : RDR S 8 t n p) (hk : m_kd S 8 = 6) (hv : v < 100) (hd : d ≤ 2) (h0 : dg t n p = false → V_X7_readNumber_89 l G 8 (nI k) (nI v) S Q) (h1 : dg t n p = true → d ≠ 2 → ∀ S', S' = m_si S 8 2 (nI (p + 1)) → RDR S' 8 t n (p + 1) → V_X7_readNumber_19 l G 8 (nI k) (nI (10 * v + (t p - 48))) (nI (d + 1)) S' Q) (h2 : dg t n p = true → d = 2 → Q S (nI p)) : V_X7_readNumber_19 l G 8 (nI k) (nI v) (nI d) S Q := by
  have T0 := T
  obtain ⟨⟨_, ha, hl, hp⟩, e1, e2, hpn, hn, hv7, ht⟩ := T
  refine b_X7_readNumber_19 hk ?_
  rw [e1, e2]
  constructor
  · intro e
    refine h0 ?_
    unfold dg
    rw [decide_eq_false_iff_not]
    intro z
    exact nI_ge z.1 (by omega) e
  · intro e
    have q : p < n := by
      by_cases q : p < n
      · exact q
      · exact absurd (nI_le (by omega) (by omega)) e
    have hin : vp_in (nI p) (m_ln S 7) := by rw [hl]; exact vp_nI (by omega) (by omega)
    refine ⟨7, hp, hin, ?_⟩
    rw [nI_clamp (by omega), hv7 p q, ← cr_in q]
    refine s_isDigit ht (fun e3 => ?_) (fun e3 => ?_)
    · have hdg : 48 ≤ t p ∧ t p ≤ 57 := by unfold dg at e3; rw [decide_eq_true_iff] at e3; exact e3.2
      try simp only [Option.some.injEq, exists_eq_left', fi32, i10, i00, false_implies, true_implies, not_false_eq_true, not_true_eq_false, true_and, and_true, nI_1, lz0, lz1, ix0, ix11, ix2, nI_eqI (show d < 2 ^ 31 by omega) (show 2 < 2 ^ 31 by omega), show (2 : Int32) = nI 2 from rfl, hp, hin, e2]
      rw [nI_clamp (by omega), hv7 p q]
      refine ⟨fun z => ?_, fun z => h2 e3 z⟩
      have ev : nI v * 10 + nI (t p) - 48 = nI (10 * v + (t p - 48)) := by
        rw [show (10 : Int32) = nI 10 from rfl, show (48 : Int32) = nI 48 from rfl, nI_mul, nI_add, sub_v (by omega)]
        congr 1; omega
      rw [ev]
      exact fun S6 e6 => h1 e3 z S6 e6 (by rw [e6]; exact T0.mv (by omega))
    · try simp only [Option.some.injEq, exists_eq_left', fi32, i10, i00, false_implies, true_implies, not_false_eq_true, not_true_eq_false, true_and, and_true, nI_1, lz0, lz1, ix0, ix11, ix2]
      exact h0 e3
theorem s_rn89 {v k : Nat} {Q : mj_S → Int32 → Prop} (T : RDR S 8 t n p) (hs : Sh L S) (hT : TBL S) (hv : v < 100) (hk : k < 12) (hp : 0 < p) (h1 : tb LO k ≤ v ∧ v ≤ tb HI k → ∀ S', S' = m_si S 19 k (nI v) → Q S' (-1)) (h0 : ¬ (tb LO k ≤ v ∧ v ≤ tb HI k) → Q S (nI (p - 1))) : V_X7_readNumber_89 l G 8 (nI k) (nI v) S Q := by
  have hb := tb_b k hk
  have c : (nI k).toNatClampNeg = k := nI_clamp (by omega)
  have hin : vp_in (nI k) 12 := vp_nI hk (by omega)
  refine b_X7_readNumber_89 hs.k8 ?_
  rw [hs.l1, hs.l2, c, (hT.1 k hk).2.1, (hT.1 k hk).2.2.1]
  have hpn := T.pn
  refine ⟨hin, hin, s_wit (fun q1 q2 => ?_) (fun q => ?_)⟩
  · rw [nI_ltI (by omega) (by omega)] at q1 q2
    try simp only [Option.some.injEq, exists_eq_left', fi32, i10, i00, false_implies, true_implies, not_false_eq_true, not_true_eq_false, true_and, and_true, nI_1, lz0, lz1, ix0, ix11, ix2, hs.p8_5, hs.l19, hin]
    intro S4 e4
    exact h1 ⟨by omega, by omega⟩ S4 e4
  · rw [nI_ltI (by omega) (by omega), nI_ltI (by omega) (by omega)] at q
    try simp only [Option.some.injEq, exists_eq_left', fi32, i10, i00, false_implies, true_implies, not_false_eq_true, not_true_eq_false, true_and, and_true, nI_1, lz0, lz1, ix0, ix11, ix2, T.at_]
    rw [show nI p - 1 = nI (p - 1) from sub_v (w := 1) (by omega)]
    exact h0 (by omega)
theorem s_readNumber {k : Nat} {Q : mj_S → Int32 → Prop} (T : RDR S 8 t n p) (hs : Sh L S) (hT : TBL S) (hk : k < 12) (h0 : ∀ j, nmb t n (tb LO k) (tb HI k) p = .inl j → ∀ S', fr D8i S S' → Q S' (nI j)) (h1 : ∀ r, nmb t n (tb LO k) (tb HI k) p = .inr r → ∀ S', S' = m_si (m_si S 8 2 (nI r.2)) 19 k (nI r.1) → r.2 ≤ n → Q S' (-1)) : M_X7_readNumber l G 8 (nI k) S Q := by
  have hpn := T.pn
  refine e_X7_readNumber (b_X7_readNumber_0 hs.k8 (s_peek T (fun S1 e1 T1 => s_isDigit T.tw (fun d1 => ?_) (fun d1 => ?_))))
  · have hq := skp_b (t := t) hpn.1
    unfold nmb at h0 h1
    rw [if_pos d1] at h0 h1
    generalize skp t n p = q at *
    have f1 : fr D8i S S1 := by rw [e1]; exact fr.si rfl
    have hd1 : q < n ∧ 48 ≤ t q ∧ t q ≤ 57 := by unfold dg at d1; rw [decide_eq_true_iff] at d1; exact d1
    try simp only [Option.some.injEq, exists_eq_left', fi32, i10, i00, false_implies, true_implies, not_false_eq_true, not_true_eq_false, true_and, and_true, nI_1, lz0, lz1, ix0, ix11, ix2]
    have hs1 := hs.fr f1
    refine s_rn19 (v := 0) (d := 0) T1 hs1.k8 (by omega) (by omega) (fun z => absurd d1 (by rw [z]; decide)) (fun _ _ S2 e2 T2 => ?_) (fun _ z => by omega)
    have f2 : fr D8i S S2 := f1.tr (by rw [e2]; exact fr.si rfl)
    have hs2 := hs.fr f2
    have es2 : S2 = m_si S 8 2 (nI (q + 1)) := by rw [e2, e1, m_si_si]
    rw [show 10 * 0 + (t q - 48) = t q - 48 by omega]
    refine s_rn19 (d := 1) T2 hs2.k8 (by omega) (by omega) (fun z => ?_) (fun d2 _ S3 e3 T3 => ?_) (fun _ z => by omega)
    · rw [if_neg (by rw [z]; decide)] at h0 h1
      unfold nmf at h0 h1
      refine s_rn89 T2 hs2 (hT.f8 f2) (by omega) hk (by omega) (fun g S3 e3 => ?_) (fun g => ?_)
      · rw [if_pos g] at h1
        exact h1 _ rfl S3 (by rw [e3, es2]) (by omega)
      · rw [if_neg g] at h0
        exact h0 _ rfl S2 f2
    · rw [if_pos d2] at h0 h1
      have hd2 : q + 1 < n ∧ 48 ≤ t (q + 1) ∧ t (q + 1) ≤ 57 := by unfold dg at d2; rw [decide_eq_true_iff] at d2; exact d2
      have f3 : fr D8i S S3 := f2.tr (by rw [e3]; exact fr.si rfl)
      have hs3 := hs.fr f3
      have es3 : S3 = m_si S 8 2 (nI (q + 2)) := by rw [e3, es2, m_si_si]
      refine s_rn19 (d := 2) T3 hs3.k8 (by omega) (by omega) (fun z => ?_) (fun _ z => absurd rfl z) (fun d3 _ => ?_)
      · rw [if_neg (by rw [z]; decide)] at h0 h1
        unfold nmf at h0 h1
        refine s_rn89 T3 hs3 (hT.f8 f3) (by omega) hk (by omega) (fun g S4 e4 => ?_) (fun g => ?_)
        · rw [if_pos g] at h1
          exact h1 _ rfl S4 (by rw [e4, es3]) (by omega)
        · rw [if_neg g] at h0
          exact h0 _ rfl S3 f3
      · rw [if_pos d3] at h0
        exact h0 _ rfl S3 f3
  · unfold nmb at h0
    rw [if_neg (by rw [d1]; decide)] at h0
    try simp only [Option.some.injEq, exists_eq_left', fi32, i10, i00, false_implies, true_implies, not_false_eq_true, not_true_eq_false, true_and, and_true, nI_1, lz0, lz1, ix0, ix11, ix2, T1.at_]
    exact h0 _ rfl S1 (by rw [e1]; exact fr.si rfl)
theorem s_itemOf {f : Nat} {x : Int32} {Q : mj_S → Int32 → Prop} (hs : Sh L S) (hT : TBL S) : ∀ (m k : Nat), f + k + m ≤ 12 → (∀ j, itn f x m k = some j → Q S (nI (f + j))) → (itn f x m k = none → Q S (-1)) → V_X7_itemOf_2 l G x (nI (f + k + m)) (nI (f + k)) S Q
  | 0, k, hm, h1, h0 => by
    refine b_X7_itemOf_2 ⟨fun _ => h0 rfl, fun z => absurd (nI_le (by omega) (by omega)) z⟩
  | m + 1, k, hm, h1, h0 => by
    have h1' : ∀ j, (if nI (tb LT (f + k)) = x then some k else itn f x m (k + 1)) = some j → Q S (nI (f + j)) := h1
    have h0' : (if nI (tb LT (f + k)) = x then some k else itn f x m (k + 1)) = none → Q S (-1) := h0
    refine b_X7_itemOf_2 ⟨fun z => absurd z (nI_ge (by omega) (by omega)), fun _ => ?_⟩
    rw [hs.l0, nI_clamp (by omega), (hT.1 (f + k) (by omega)).1]
    refine ⟨vp_nI (by omega) (by omega), fun z v1 e1 => ?_, fun z => ?_⟩
    · rw [if_neg z] at h1' h0'
      rw [nI_1] at e1
      rw [e1, show f + k + (m + 1) = f + (k + 1) + m by omega]
      exact s_itemOf hs hT m (k + 1) (by omega) h1' h0'
    · rw [if_pos z] at h1'
      exact h1' k rfl
theorem s_itemsV {f m : Nat} (hf : f + m ≤ 12) : ∀ (g i : Nat) (had : Nat → Bool) (v : Nat → Nat) (b : Int32) (p : Nat) (S : mj_S) (Q : mj_S → Int32 → Prop), g + i = m + 1 → chd had m = i → (∀ k, k < m → bt b (f + k) = had k) → RDR S 8 t n p → Sh L S → TBL S → (∀ k, k < m → m_gi S 19 (f + k) = nI (v k)) → (∀ j, its t n f m g had v p = .inl j → ∀ S', fr D8i S S' → Q S' (nI j)) → (∀ r, its t n f m g had v p = .inr r → ∀ S', fr D8i S S' → RDR S' 8 t n r.2 → (∀ k, k < m → m_gi S' 19 (f + k) = nI (r.1 k)) → Q S' (-1)) → V_X7_readItems_5 l G 8 (nI f) (nI (f + m)) b (nI (f + i)) S Q
  | 0, i, had, v, b, p, S, Q, gi, hc, hb, T, hs, hT, hv, h0, h1 => by
    have := chd_le (had := had) m
    omega
  | g + 1, i, had, v, b, p, S, Q, gi, hc, hb, T, hs, hT, hv, h0, h1 => by
    have hpn := T.pn
    have h0' : ∀ j, (match itn f (cr t n (skp t n p)) m 0 with
      | none => (.inr (v, skp t n p) : Nat ⊕ ((Nat → Nat) × Nat))
      | some k => if had k = true then .inl (skp t n p) else match nmb t n (tb LO (f + k)) (tb HI (f + k)) (skp t n p + 1) with
        | .inl j => .inl j
        | .inr r => its t n f m g (fun i => had i || decide (i = k)) (fun i => if i = k then r.1 else v i) r.2) = .inl j → ∀ S', fr D8i S S' → Q S' (nI j) := h0
    have h1' : ∀ r, (match itn f (cr t n (skp t n p)) m 0 with
      | none => (.inr (v, skp t n p) : Nat ⊕ ((Nat → Nat) × Nat))
      | some k => if had k = true then .inl (skp t n p) else match nmb t n (tb LO (f + k)) (tb HI (f + k)) (skp t n p + 1) with
        | .inl j => .inl j
        | .inr r => its t n f m g (fun i => had i || decide (i = k)) (fun i => if i = k then r.1 else v i) r.2) = .inr r → ∀ S', fr D8i S S' → RDR S' 8 t n r.2 → (∀ k, k < m → m_gi S' 19 (f + k) = nI (r.1 k)) → Q S' (-1) := h1
    clear h0 h1
    refine b_X7_readItems_5 hs.k8 ⟨fun z => absurd z (nI_nlt (by omega) (by omega)), fun _ => s_peek T (fun S1 e1 T1 => ?_)⟩
    have f1 : fr D8i S S1 := by rw [e1]; exact fr.si rfl
    have hs1 := hs.fr f1
    have hT1 := hT.f8 f1
    have hv1 : ∀ k, k < m → m_gi S1 19 (f + k) = nI (v k) := fun k hk => by rw [e1, m_gi_si, if_neg (by omega)]; exact hv k hk
    refine e_X7_itemOf (b_X7_itemOf_0 (s_itemOf (f := f) hs1 hT1 m 0 (by omega) (fun k ek => ?_) (fun ek => ?_)))
    · rw [ek] at h0' h1'
      have hk := itn_lt ek
      refine ⟨fun _ => s_has (by omega) (fun q => ?_) (fun q => ?_), fun z => absurd z (nI_m1 (by omega))⟩
      · try simp only [Option.some.injEq, exists_eq_left', fi32, i10, i00, false_implies, true_implies, not_false_eq_true, not_true_eq_false, true_and, and_true, nI_1, lz0, lz1, ix0, ix11, ix2, T1.at_]
        rw [hb k (by omega)] at q
        have h0'' := h0' (skp t n p)
        simp only [q, if_true] at h0''
        exact h0'' trivial S1 f1
      · rw [hb k (by omega)] at q
        simp only [q, Bool.false_eq_true, if_false] at h0' h1'
        try simp only [Option.some.injEq, exists_eq_left', fi32, i10, i00, false_implies, true_implies, not_false_eq_true, not_true_eq_false, true_and, and_true, nI_1, lz0, lz1, ix0, ix11, ix2, T1.at_]
        intro S8 e8
        have hlt : skp t n p < n := by
          have := (cr_is (p := skp t n p) T.tw (show tb LT (f + k) < 2 ^ 31 from by have := (tb_b (f + k) (by omega)).2.2.2; omega)).mp hk.2.2.symm
          exact this.1
        have T8 : RDR S8 8 t n (skp t n p + 1) := by rw [e8]; exact T1.mv hlt
        have f8 : fr D8i S S8 := f1.tr (by rw [e8]; exact fr.si rfl)
        have hv8 : ∀ k, k < m → m_gi S8 19 (f + k) = nI (v k) := fun k hk => by rw [e8, m_gi_si, if_neg (by omega)]; exact hv1 k hk
        refine s_readNumber T8 (hs.fr f8) (hT.f8 f8) (by omega) (fun j ej S9 f9 => ?_) (fun r er S9 e9 hr => ?_)
        · simp only [ej] at h0'
          refine ⟨fun z => absurd z (nI_m1 ?_), fun _ => h0' j rfl S9 (f8.tr f9)⟩
          have : j ≤ 300 := by
            have hq := skp_b (t := t) (T8.pn.1)
            unfold nmb nmf at ej
            split at ej
            · split at ej
              · split at ej
                · cases ej; omega
                · split at ej
                  · cases ej
                  · cases ej; omega
              · split at ej
                · cases ej
                · cases ej; omega
            · cases ej; omega
          omega
        · simp only [er] at h0' h1'
          refine ⟨fun _ => ?_, fun z => absurd rfl z⟩
          have f9 : fr D8i S S9 := f8.tr (by rw [e9]; exact (fr.si rfl).tr (fr.si rfl))
          rw [show f + i + 1 = f + (i + 1) by omega]
          refine s_itemsV hf g (i + 1) _ _ _ r.2 S9 Q (by omega) ?_ ?_ ?_ (hs.fr f9) (hT.f8 f9) ?_ (fun j ej S' f' => h0' j ej S' (f9.tr f')) (fun w ew S' f' => h1' w ew S' (f9.tr f'))
          · rw [chd_s (by rw [q]; decide) m (by omega), hc]
          · intro j hj
            show bt (b ||| on (f + k)) (f + j) = _
            rw [b_or, b_on (by omega) (by omega), hb j hj]
            congr 1
            by_cases e : j = k
            · rw [decide_eq_true e, decide_eq_true (by omega)]
            · rw [decide_eq_false e, decide_eq_false (by omega)]
          · rw [e9]; exact (T8.mv hr).s19
          · intro j hj
            rw [e9, m_gi_si]
            by_cases e : j = k
            · rw [if_pos ⟨rfl, by omega⟩, if_pos e]
            · rw [if_neg (by omega), if_neg e, m_gi_si, if_neg (by omega)]; exact hv8 j hj
    · rw [ek] at h1'
      refine ⟨fun z => absurd rfl z, fun _ => h1' _ rfl S1 f1 T1 hv1⟩
theorem s_readItems {f m : Nat} {v : Nat → Nat} {Q : mj_S → Int32 → Prop} (hf : f + m ≤ 12) (T : RDR S 8 t n p) (hs : Sh L S) (hT : TBL S) (hv : ∀ k, k < m → m_gi S 19 (f + k) = nI (v k)) (h0 : ∀ j, its t n f m (m + 1) (fun _ => false) v p = .inl j → ∀ S', fr D8i S S' → Q S' (nI j)) (h1 : ∀ r, its t n f m (m + 1) (fun _ => false) v p = .inr r → ∀ S', fr D8i S S' → RDR S' 8 t n r.2 → (∀ k, k < m → m_gi S' 19 (f + k) = nI (r.1 k)) → Q S' (-1)) : M_X7_readItems l G 8 (nI f) (nI (f + m)) S Q :=
  e_X7_readItems (b_X7_readItems_0 hs.k8 (s_itemsV (i := 0) hf (m + 1) _ v 0 p S Q rfl (chd_0 m) (fun k hk => by rw [show (0 : Int32) = nI 0 from rfl, b_nI _ (by omega)]; simp) T hs hT hv h0 h1))
end IT
