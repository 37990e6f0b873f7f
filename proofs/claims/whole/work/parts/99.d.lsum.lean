/-! the class reads a law: sums -/
theorem D20_f {a j : Nat} (h1 : ¬ (a = 20 ∧ (j = 2 ∨ j = 4))) (h2 : a ≠ 22) : D20 a j = false := by
  unfold D20
  rw [← Bool.not_eq_true]
  simp only [Bool.or_eq_true, Bool.and_eq_true, Nat.beq_eq]
  omega
theorem TBL.f20 {S S' : mj_S} (h : TBL S) (f : fr D20 S S') : TBL S' := h.keep (fun a j ha => f.i a j (D20_f (by omega) (by omega)))
def cres (t : Nat → Nat) (n : Nat) (S : mj_S) (ss : List Int32) (r : lrs) (Q : mj_S → Int32 → Prop) : Prop := (∀ j, r = .inl j → ∀ S', fr D20 S S' → m_gi S' 20 2 = nI j → Q S' 0) ∧ ∀ w, r = .inr w → ∀ S', fr D20 S S' → LW S' t n w.2 (ss ++ w.1.map enc) → Q S' 1
theorem cres.fr {t : Nat → Nat} {n : Nat} {S S1 : mj_S} {ss : List Int32} {r : lrs} {Q : mj_S → Int32 → Prop} (h : cres t n S ss r Q) (f : fr D20 S S1) : cres t n S1 ss r Q := ⟨fun j e S' f' => h.1 j e S' (f.tr f'), fun w e S' f' => h.2 w e S' (f.tr f')⟩
def CRD (L : Nat) (t : Nat → Nat) (n : Nat) (pf : Nat → lrs) (M : mj_S → (mj_S → Int32 → Prop) → Prop) : Prop := ∀ (S : mj_S) (p : Nat) (ss : List Int32) (Q : mj_S → Int32 → Prop), Sh L S → TBL S → LW S t n p ss → ss.length ≤ p → cres t n S ss (pf p) Q → M S Q
theorem lpp_0 {t : Nat → Nat} {n g p : Nat} {kd : Int32 → Option Nat} {body : Nat → lrs} {ts : List tok} (ek : kd (cr t n (skp t n p)) = none) : lpp t n kd body (g + 1) ts p = .inr (ts, skp t n p) := by simp only [lpp, ek]
theorem lpp_l {t : Nat → Nat} {n g p c j : Nat} {kd : Int32 → Option Nat} {body : Nat → lrs} {ts : List tok} (ek : kd (cr t n (skp t n p)) = some c) (eb : body (skp t n p + 1) = .inl j) : lpp t n kd body (g + 1) ts p = .inl j := by simp only [lpp, ek, eb]
theorem lpp_r {t : Nat → Nat} {n g p c : Nat} {kd : Int32 → Option Nat} {body : Nat → lrs} {ts : List tok} {w : List tok × Nat} (ek : kd (cr t n (skp t n p)) = some c) (eb : body (skp t n p + 1) = .inr w) : lpp t n kd body (g + 1) ts p = lpp t n kd body g (ts ++ w.1 ++ [(c, 0)]) w.2 := by simp only [lpp, ek, eb]
theorem enc_app {ss : List Int32} {ts us : List tok} {c : Nat} : ss ++ ts.map enc ++ us.map enc ++ [nI (sgn c * 65536 + 0)] = ss ++ (ts ++ us ++ [(c, 0)]).map enc := by
  rw [List.map_append, List.map_append, List.append_assoc, List.append_assoc, List.append_assoc]
  rfl
section LD
variable {l : Launch} {G : mj_G} {L D : Nat} {S : mj_S} {t : Nat → Nat} {n p : Nat} {ss : List Int32} {Q : mj_S → Int32 → Prop}
theorem LW.rd (W : LW S t n p ss) : RDR S 20 t n p := W.1
theorem LW.pn (W : LW S t n p ss) : p ≤ n ∧ n ≤ 240 := W.1.pn
theorem l_rn {v d : Nat} (W : LW S t n p ss) (hk : m_kd S 20 = 1) (hv : v < 10000) (hd : d ≤ 4) (h0 : dg t n p = false → V_X1_readNumber_71 l G 20 (nI v) S Q) (h1 : dg t n p = true → d ≠ 4 → ∀ S', S' = m_si S 20 2 (nI (p + 1)) → LW S' t n (p + 1) ss → V_X1_readNumber_4 l G 20 (nI (10 * v + (t p - 48))) (nI (d + 1)) S' Q) (h2 : dg t n p = true → d = 4 → Q S 0) : V_X1_readNumber_4 l G 20 (nI v) (nI d) S Q := by
  have W0 := W
  obtain ⟨⟨⟨_, ha, hl, hp⟩, e1, e2, hpn, hn, hv7, ht⟩, _, _⟩ := W
  refine b_X1_readNumber_4 hk ?_
  rw [e1, e2]
  constructor
  · intro e
    refine h0 ?_
    unfold dg
    rw [decide_eq_false_iff_not]
    intro z
    exact nI_ge z.1 (by omega) e
  · intro e
    have q : p < n := by
      by_cases q : p < n
      · exact q
      · exact absurd (nI_le (by omega) (by omega)) e
    have hin : vp_in (nI p) (m_ln S 7) := by rw [hl]; exact vp_nI (by omega) (by omega)
    refine ⟨7, hp, hin, ?_⟩
    rw [nI_clamp (by omega), hv7 p q, ← cr_in q]
    refine s_isDigit ht (fun e3 => ?_) (fun e3 => ?_)
    · have hdg : 48 ≤ t p ∧ t p ≤ 57 := by unfold dg at e3; rw [decide_eq_true_iff] at e3; exact e3.2
      try simp only [Option.some.injEq, exists_eq_left', fi32, i10, i00, false_implies, true_implies, not_false_eq_true, not_true_eq_false, true_and, and_true, nI_1, lz0, lz1, ix0, ix11, ix2, nI_eqI (show d < 2 ^ 31 by omega) (show 4 < 2 ^ 31 by omega), show (4 : Int32) = nI 4 from rfl, hp, hin, e2]
      rw [nI_clamp (by omega), hv7 p q]
      refine ⟨fun z => ?_, fun z => h2 e3 z⟩
      have ev : nI v * 10 + nI (t p) - 48 = nI (10 * v + (t p - 48)) := by
        rw [show (10 : Int32) = nI 10 from rfl, show (48 : Int32) = nI 48 from rfl, nI_mul, nI_add, sub_v (by omega)]
        congr 1; omega
      rw [ev]
      exact fun S6 e6 => h1 e3 z S6 e6 (by rw [e6]; exact W0.mv (by omega))
    · try simp only [Option.some.injEq, exists_eq_left', fi32, i10, i00, false_implies, true_implies, not_false_eq_true, not_true_eq_false, true_and, and_true, nI_1, lz0, lz1, ix0, ix11, ix2]
      exact h0 e3
theorem l_rn71 {v : Nat} (hs : Sh L S) (W : LW S t n p ss) (hl : ss.length < 240) (hv : v < 10000) (h : ∀ S', fr D20 S S' → LW S' t n p (ss ++ [enc (0, v)]) → Q S' 1) : V_X1_readNumber_71 l G 20 (nI v) S Q :=
  b_X1_readNumber_71 hs.k20 (s_write (a := 1) hs W hl (by omega) (by omega) h)
theorem l_num : ∀ (k v d p : Nat) (S : mj_S), k + d = 4 → v * 10 ^ k + 10 ^ k ≤ 10000 → Sh L S → LW S t n p ss → ss.length < 240 → cres t n S ss (pnm t n k v p) Q → V_X1_readNumber_4 l G 20 (nI v) (nI d) S Q
  | 0, v, d, p, S, hd, hv, hs, W, hl, h => by
    refine l_rn W hs.k20 (by simp only [Nat.pow_zero, Nat.mul_one] at hv; omega) (by omega) (fun e => ?_) (fun _ z => by omega) (fun e _ => ?_)
    · refine l_rn71 hs W hl (by simp only [Nat.pow_zero, Nat.mul_one] at hv; omega) (fun S' f' W' => h.2 ([(0, v)], p) ?_ S' f' W')
      unfold pnm; rw [if_neg (by rw [e]; decide)]
    · exact h.1 p (by unfold pnm; rw [if_pos e]) S fr.rf W.1.at_
  | k + 1, v, d, p, S, hd, hv, hs, W, hl, h => by
    have hv' : v < 10000 := by
      have h1 : 1 ≤ 10 ^ (k + 1) := Nat.pos_of_ne_zero (by simp)
      have : v * 1 ≤ v * 10 ^ (k + 1) := Nat.mul_le_mul_left _ h1
      omega
    refine l_rn W hs.k20 hv' (by omega) (fun e => ?_) (fun e _ S1 e1 W1 => ?_) (fun e z => by omega)
    · refine l_rn71 hs W hl hv' (fun S' f' W' => h.2 ([(0, v)], p) ?_ S' f' W')
      unfold pnm; rw [if_neg (by rw [e]; decide)]
    · have f1 : fr D20 S S1 := by rw [e1]; exact fr.si rfl
      refine l_num k _ (d + 1) (p + 1) S1 (by omega) ?_ (hs.fr f1) W1 hl ?_
      · have hd : t p - 48 ≤ 9 := by unfold dg at e; rw [decide_eq_true_iff] at e; omega
        have a : (10 * v + (t p - 48)) * 10 ^ k ≤ (10 * v + 9) * 10 ^ k := Nat.mul_le_mul_right _ (by omega)
        have b : (10 * v + 9) * 10 ^ k + 10 ^ k = v * 10 ^ (k + 1) + 10 ^ (k + 1) := by
          rw [Nat.pow_succ, Nat.add_mul, Nat.mul_comm (10 ^ k) 10, ← Nat.mul_assoc, Nat.mul_comm v 10]
          omega
        omega
      · have ee : pnm t n (k + 1) v p = pnm t n k (10 * v + (t p - 48)) (p + 1) := by
          show (if dg t n p = true then pnm t n k (10 * v + (t p - 48)) (p + 1) else .inr ([(0, v)], p)) = _
          rw [if_pos e]
        rw [ee] at h
        exact h.fr f1
theorem l_letters {q : Nat} (hD : 8 ≤ D) (hs : Sh L S) (hT : TBL S) (W : LW S t n q ss) (hl : ss.length < 240) : ∀ (m k : Nat), k + m = 6 → (ltr (cr t n q) m k = none → Q S 0) → (∀ j, ltr (cr t n q) m k = some j → ∀ S', fr D20 S S' → LW S' t n (q + 1) (ss ++ [enc (1, j)]) → Q S' 1) → V_X1_readAtom_68 l G D 20 (cr t n q) (nI k) S Q
  | 0, k, hk, h0, h1 => b_X1_readAtom_68 hD hs.k20 ⟨fun _ => h0 rfl, fun z => absurd (nI_le (a := 6) (by omega) (by omega)) z⟩
  | m + 1, k, hk, h0, h1 => by
    have h0' : (if nI (tb LL k) = cr t n q then some k else ltr (cr t n q) m (k + 1)) = none → Q S 0 := h0
    have h1' : ∀ j, (if nI (tb LL k) = cr t n q then some k else ltr (cr t n q) m (k + 1)) = some j → ∀ S', fr D20 S S' → LW S' t n (q + 1) (ss ++ [enc (1, j)]) → Q S' 1 := h1
    refine b_X1_readAtom_68 hD hs.k20 ⟨fun z => absurd z (nI_ge (b := 6) (by omega) (by omega)), fun _ => ?_⟩
    rw [hs.l4, nI_clamp (by omega), hT.2 k (by omega)]
    refine ⟨vp_nI (by omega) (by omega), fun z v1 e1 => ?_, fun z S2 e2 => ?_⟩
    · rw [if_neg z] at h0' h1'
      rw [nI_1] at e1
      rw [e1]
      exact l_letters hD hs hT W hl m (k + 1) (by omega) h0' h1'
    · rw [if_pos z] at h1'
      have hq : q < n := by
        have hb : ∀ j, j < 6 → tb LL j < 256 := by decide
        have := hb k (by omega)
        exact ((cr_is W.1.tw (by omega)).mp z.symm).1
      have f2 : fr D20 S S2 := by rw [e2]; exact fr.si rfl
      have W2 : LW S2 t n (q + 1) ss := by rw [e2, W.1.at_, nI_1]; exact W.mv hq
      exact s_write (a := 2) (hs.fr f2) W2 hl (by omega) (by omega) (fun S3 f3 W3 => h1' k rfl S3 (f2.tr f3) W3)
theorem l_atom {d : Nat} {sm : Option (Nat → lrs)} (hD : 8 ≤ D) (hd : d ≤ 6) (hn : sm = none → d = 6) (hm : ∀ f, sm = some f → d < 6 ∧ CRD L t n f (M_X1_readSum l G D 20 (nI (d + 1)))) (hok : ∀ f, sm = some f → ∀ q, q ≤ n → rok n q (f q)) : CRD L t n (pat t n sm) (M_X1_readAtom l G (D + 1) 20 (nI d)) := by
  intro S p ss Q hs hT W hl h
  have hpn := W.pn
  refine e_X1_readAtom (b_X1_readAtom_0 hD hs.k20 (s_peek W.1 (fun S1 e1 T1 => s_isDigit W.1.tw (fun d1 => ?_) (fun d1 => ?_))))
  · have hq := skp_b (t := t) hpn.1
    have f1 : fr D20 S S1 := by rw [e1]; exact fr.si rfl
    have W1 : LW S1 t n (skp t n p) ss := by rw [e1]; exact W.mv hq.2
    have hlt : skp t n p < n := by unfold dg at d1; rw [decide_eq_true_iff] at d1; exact d1.1
    unfold pat at h
    rw [if_pos d1] at h
    try simp only [Option.some.injEq, exists_eq_left', fi32, i10, i00, false_implies, true_implies, not_false_eq_true, not_true_eq_false, true_and, and_true, nI_1, lz0, lz1, ix0, ix11, ix2]
    exact e_X1_readNumber (b_X1_readNumber_0 (hs.fr f1).k20 (l_num 4 0 0 _ S1 rfl (by decide) (hs.fr f1) W1 (by omega) (h.fr f1)))
  · have hq := skp_b (t := t) hpn.1
    have f1 : fr D20 S S1 := by rw [e1]; exact fr.si rfl
    have hs1 := hs.fr f1
    have W1 : LW S1 t n (skp t n p) ss := by rw [e1]; exact W.mv hq.2
    unfold pat at h
    rw [if_neg (by rw [d1]; decide)] at h
    try simp only [Option.some.injEq, exists_eq_left', fi32, i10, i00, false_implies, true_implies, not_false_eq_true, not_true_eq_false, true_and, and_true, nI_1, lz0, lz1, ix0, ix11, ix2]
    refine ⟨fun z => ?_, fun z => ⟨fun z2 S2 e2 => ?_, fun z2 => ?_⟩⟩
    · rw [if_neg z] at h
      by_cases e : skp t n p < n
      · refine l_letters hD hs1 (hT.f20 f1) W1 (by omega) 6 0 rfl (fun e0 => ?_) (fun j ej => ?_)
        · rw [e0] at h
          exact h.1 _ rfl S1 f1 W1.1.at_
        · rw [ej] at h
          exact fun S' f' W' => h.2 _ rfl S' (f1.tr f') W'
      · have hno : ltr (cr t n (skp t n p)) 6 0 = none := by
          rw [cr_out (by omega)]; decide +kernel
        rw [hno] at h
        have ql := h.1 _ rfl S1 f1 W1.1.at_
        have : ∀ m k : Nat, k + m = 6 → V_X1_readAtom_68 l G D 20 (cr t n (skp t n p)) (nI k) S1 Q := by
          intro m
          induction m with
          | zero => exact fun k hk => b_X1_readAtom_68 hD hs1.k20 ⟨fun _ => ql, fun z => absurd (nI_le (a := 6) (by omega) (by omega)) z⟩
          | succ m ih =>
            intro k hk
            refine b_X1_readAtom_68 hD hs1.k20 ⟨fun z => absurd z (nI_ge (b := 6) (by omega) (by omega)), fun _ => ?_⟩
            rw [hs1.l4, nI_clamp (by omega), (hT.f20 f1).2 k (by omega)]
            refine ⟨vp_nI (by omega) (by omega), fun z v1 e1 => ?_, fun z => ?_⟩
            · rw [nI_1] at e1; rw [e1]; exact ih (k + 1) (by omega)
            · rw [cr_out (by omega)] at z
              exact absurd z (nI_m1 (by
                have hb : ∀ j, j < 6 → tb LL j < 256 := by decide
                have := hb k (by omega); omega))
        exact this 6 0 rfl
    · rw [if_pos z] at h
      cases sm with
      | none =>
        have := hn rfl
        subst this
        exact absurd z2 (nI_nlt (a := 6) (by omega) (by omega))
      | some f =>
        obtain ⟨hd6, hf⟩ := hm f rfl
        have hlt := ((cr_is W.1.tw (k := 91) (by omega)).mp z).1
        have f2 : fr D20 S S2 := f1.tr (by rw [e2]; exact fr.si rfl)
        have W2 : LW S2 t n (skp t n p + 1) ss := by rw [e2, W1.1.at_, nI_1]; exact W1.mv hlt
        have hro := hok f rfl (skp t n p + 1) hlt
        refine hf S2 _ ss _ (hs.fr f2) (hT.f20 f2) W2 (by omega) ⟨fun j ej S3 f3 a3 => ?_, fun w ew S3 f3 W3 => ?_⟩
        · refine ⟨fun _ => h.1 j ?_ S3 (f2.tr f3) a3, fun z => absurd rfl z⟩
          show cld t n 93 (f (skp t n p + 1)) = _
          rw [ej]; rfl
        · refine ⟨fun z => absurd z (by decide), fun _ => s_take (c := 93) (hs.fr (f2.tr f3)) W3 (by omega) (fun z3 hlt3 S4 e4 W4 => ?_) (fun z3 S4 e4 W4 => ?_)⟩
          · refine ⟨fun z => absurd z (by decide), fun _ => h.2 (w.1, skp t n w.2 + 1) ?_ S4 ((f2.tr f3).tr (by rw [e4]; exact fr.si rfl)) W4⟩
            show cld t n 93 (f (skp t n p + 1)) = _
            rw [ew]
            show (if cr t n (skp t n w.2) = nI 93 then _ else _) = _
            rw [if_pos z3]
          · refine ⟨fun _ => h.1 (skp t n w.2) ?_ S4 ((f2.tr f3).tr (by rw [e4]; exact fr.si rfl)) W4.1.at_, fun z => absurd rfl z⟩
            show cld t n 93 (f (skp t n p + 1)) = _
            rw [ew]
            show (if cr t n (skp t n w.2) = nI 93 then _ else _) = _
            rw [if_neg z3]
    · rw [if_pos z] at h
      cases sm with
      | none => exact h.1 _ rfl S1 f1 W1.1.at_
      | some f => exact absurd (nI_lt (hm f rfl).1 (by omega)) z2
end LD
