/-! the reference reads a law: signs and codes -/
def Dl (x a j : Nat) : Bool := decide ((a = 89 ∧ (j = 3 ∨ j = 4 ∨ j = 5)) ∨ ((a = 91 ∨ a = 92) ∧ 520 * x ≤ j ∧ j < 520 * x + 520) ∨ (a = 93 ∧ j = x))
theorem Dl_f {x a j : Nat} (h : ¬ ((a = 89 ∧ (j = 3 ∨ j = 4 ∨ j = 5)) ∨ ((a = 91 ∨ a = 92) ∧ 520 * x ≤ j ∧ j < 520 * x + 520) ∨ (a = 93 ∧ j = x))) : Dl x a j = false := decide_eq_false h
theorem Dl_t {x a j : Nat} (h : (a = 89 ∧ (j = 3 ∨ j = 4 ∨ j = 5)) ∨ ((a = 91 ∨ a = 92) ∧ 520 * x ≤ j ∧ j < 520 * x + 520) ∨ (a = 93 ∧ j = x)) : Dl x a j = true := decide_eq_true h
theorem RRD.kp {S S' : mj_S} {t : Nat → Nat} {n p : Nat} (h : RRD S t n p) (h1 : S'.1 = S.1) (hp : m_gp S' 89 1 = m_gp S 89 1) (h2 : m_gi S' 89 2 = m_gi S 89 2) (h3 : m_gi S' 89 3 = m_gi S 89 3) (h4 : ∀ j, m_gi S' 90 j = m_gi S 90 j) : RRD S' t n p := by
  obtain ⟨⟨a, b, c⟩, d, e, f, g, i, k⟩ := h
  refine ⟨⟨?_, ?_, hp.trans c⟩, h2.trans d, h3.trans e, f, g, fun j hj => (h4 j).trans (i j hj), k⟩
  · unfold m_kd; rw [h1]; exact a
  · unfold m_ln; rw [h1]; exact b
/-- the reference stands at p, d deep, in text x, its codes being ts -/
def RLW (S : mj_S) (t : Nat → Nat) (n p x d : Nat) (ts : List tok) : Prop := RRD S t n p ∧ m_gi S 89 4 = -1 ∧ m_gi S 89 5 = nI d ∧ m_gi S 89 14 = nI x ∧ m_gi S 93 x = nI ts.length ∧ ∀ i, (h : i < ts.length) → m_gi S 91 (520 * x + i) = nI (ts[i]).1 ∧ m_gi S 92 (520 * x + i) = nI (ts[i]).2
section RH
variable {l : Launch} {G : mj_G} {L D : Nat} {S : mj_S} {t : Nat → Nat} {n p x d : Nat} {ts : List tok} {Q : mj_S → Prop}
theorem RLW.pn (W : RLW S t n p x d ts) : p ≤ n ∧ n ≤ 240 := W.1.pn
theorem RLW.mv {q : Nat} (W : RLW S t n p x d ts) (hq : q ≤ n) : RLW (m_si S 89 3 (nI q)) t n q x d ts := by
  refine ⟨W.1.mv hq, ?_, ?_, ?_, ?_, fun i hi => ⟨?_, ?_⟩⟩
  · rw [m_gi_si, if_neg (by omega)]; exact W.2.1
  · rw [m_gi_si, if_neg (by omega)]; exact W.2.2.1
  · rw [m_gi_si, if_neg (by omega)]; exact W.2.2.2.1
  · rw [m_gi_si, if_neg (by omega)]; exact W.2.2.2.2.1
  · rw [m_gi_si, if_neg (by omega)]; exact (W.2.2.2.2.2 i hi).1
  · rw [m_gi_si, if_neg (by omega)]; exact (W.2.2.2.2.2 i hi).2
theorem RLW.dp {e : Nat} (W : RLW S t n p x d ts) : RLW (m_si S 89 5 (nI e)) t n p x e ts := by
  refine ⟨W.1.kp rfl rfl (by rw [m_gi_si, if_neg (by omega)]) (by rw [m_gi_si, if_neg (by omega)]) (fun j => by rw [m_gi_si, if_neg (by omega)]), ?_, ?_, ?_, ?_, fun i hi => ⟨?_, ?_⟩⟩
  · rw [m_gi_si, if_neg (by omega)]; exact W.2.1
  · rw [m_gi_si, if_pos ⟨rfl, rfl⟩]
  · rw [m_gi_si, if_neg (by omega)]; exact W.2.2.2.1
  · rw [m_gi_si, if_neg (by omega)]; exact W.2.2.2.2.1
  · rw [m_gi_si, if_neg (by omega)]; exact (W.2.2.2.2.2 i hi).1
  · rw [m_gi_si, if_neg (by omega)]; exact (W.2.2.2.2.2 i hi).2
theorem s_lput {c : Nat} {a b : Int32} (hs : Sh L S) (hx : x ≤ 4) (ht : m_gi S 89 14 = nI x) (hc : m_gi S 93 x = nI c) (hc5 : c < 500) (h : ∀ S', S' = m_si (m_si (m_si S 91 (520 * x + c) a) 92 (520 * x + c) b) 93 x (nI (c + 1)) → fr (Dl x) S S' → Q S') : M_X11_put l G 89 a b S Q := by
  refine e_X11_put (b_X11_put_0 hs.k89 ⟨91, hs.p89_6, 93, hs.p89_8, ?_⟩)
  have hi : (520 : Int32) * nI x + nI c = nI (520 * x + c) := by rw [show (520 : Int32) = nI 520 from rfl, nI_mul, nI_add]
  have hcl : (nI x).toNatClampNeg = x := nI_clamp (by omega)
  rw [ht, hcl, hc, hi, hs.l93, hs.l91, nI_clamp (by omega)]
  refine ⟨vp_nI (by omega) (by omega), vp_nI (by omega) (by omega), fun S3 e3 => ?_⟩
  have f3 : fr (Dl x) S S3 := by rw [e3]; exact fr.si (Dl_t (by omega))
  have s3 := hs.fr f3
  have t3 : m_gi S3 89 14 = nI x := by rw [e3, m_gi_si, if_neg (by omega)]; exact ht
  have c3 : m_gi S3 93 x = nI c := by rw [e3, m_gi_si, if_neg (by omega)]; exact hc
  refine ⟨92, s3.p89_7, 93, s3.p89_8, ?_⟩
  rw [t3, hcl, c3, hi, s3.l93, s3.l92, nI_clamp (by omega)]
  refine ⟨vp_nI (by omega) (by omega), vp_nI (by omega) (by omega), fun S6 e6 => ?_⟩
  have f6 : fr (Dl x) S S6 := f3.tr (by rw [e6]; exact fr.si (Dl_t (by omega)))
  have s6 := hs.fr f6
  have t6 : m_gi S6 89 14 = nI x := by rw [e6, m_gi_si, if_neg (by omega)]; exact t3
  have c6 : m_gi S6 93 x = nI c := by rw [e6, m_gi_si, if_neg (by omega)]; exact c3
  refine ⟨93, s6.p89_8, ?_⟩
  rw [t6, hcl, c6, s6.l93, nI_1]
  refine ⟨vp_nI (by omega) (by omega), vp_nI (by omega) (by omega), fun S8 e8 => ?_⟩
  exact h S8 (by rw [e8, e6, e3]) (f6.tr (by rw [e8]; exact fr.si (Dl_t (by omega))))
theorem s_lputW {c v : Nat} (hs : Sh L S) (hx : x ≤ 4) (W : RLW S t n p x d ts) (hl : ts.length < 500) (h : ∀ S', fr (Dl x) S S' → RLW S' t n p x d (ts ++ [(c, v)]) → Q S') : M_X11_put l G 89 (nI c) (nI v) S Q := by
  refine s_lput hs hx W.2.2.2.1 W.2.2.2.2.1 hl (fun S' e' f' => h S' f' ?_)
  refine ⟨W.1.kp f'.1 (f'.p _ _) (f'.i _ _ (Dl_f (by omega))) ?_ (fun j => f'.i _ _ (Dl_f (by omega))), ?_, ?_, ?_, ?_, fun i hi => ?_⟩
  · rw [e', m_gi_si, if_neg (by omega), m_gi_si, if_neg (by omega), m_gi_si, if_neg (by omega)]
  · rw [e', m_gi_si, if_neg (by omega), m_gi_si, if_neg (by omega), m_gi_si, if_neg (by omega)]; exact W.2.1
  · rw [e', m_gi_si, if_neg (by omega), m_gi_si, if_neg (by omega), m_gi_si, if_neg (by omega)]; exact W.2.2.1
  · rw [e', m_gi_si, if_neg (by omega), m_gi_si, if_neg (by omega), m_gi_si, if_neg (by omega)]; exact W.2.2.2.1
  · rw [e', m_gi_si, if_pos ⟨rfl, rfl⟩, List.length_append, List.length_singleton]
  · rw [List.length_append, List.length_singleton] at hi
    by_cases e : i = ts.length
    · subst e
      refine ⟨?_, ?_⟩
      · rw [e', m_gi_si, if_neg (by omega), m_gi_si, if_neg (by omega), m_gi_si, if_pos ⟨rfl, rfl⟩]; simp
      · rw [e', m_gi_si, if_neg (by omega), m_gi_si, if_pos ⟨rfl, rfl⟩]; simp
    · refine ⟨?_, ?_⟩
      · rw [e', m_gi_si, if_neg (by omega), m_gi_si, if_neg (by omega), m_gi_si, if_neg (by omega), List.getElem_append_left (by omega)]
        exact (W.2.2.2.2.2 i (by omega)).1
      · rw [e', m_gi_si, if_neg (by omega), m_gi_si, if_neg (by omega), m_gi_si, if_neg (by omega), List.getElem_append_left (by omega)]
        exact (W.2.2.2.2.2 i (by omega)).2
theorem s_lputF {c j : Nat} {a b : Int32} (hs : Sh L S) (hx : x ≤ 4) (ht : m_gi S 89 14 = nI x) (hj : m_gi S 89 4 = nI j) (hc : m_gi S 93 x = nI c) (hc5 : c < 500) (h : ∀ S', fr (Dl x) S S' → m_gi S' 89 4 = nI j → m_gi S' 93 x = nI (c + 1) → Q S') : M_X11_put l G 89 a b S Q := by
  refine s_lput hs hx ht hc hc5 (fun S' e' f' => h S' f' ?_ ?_)
  · rw [e', m_gi_si, if_neg (by omega), m_gi_si, if_neg (by omega), m_gi_si, if_neg (by omega)]; exact hj
  · rw [e', m_gi_si, if_pos ⟨rfl, rfl⟩]
theorem fr.tx {S' : mj_S} (f : fr (Dl x) S S') : m_gi S' 89 14 = m_gi S 89 14 := f.i _ _ (Dl_f (by omega))
def rres (x d : Nat) (t : Nat → Nat) (n : Nat) (S : mj_S) (p : Nat) (ts : List tok) (r : lrs) (Q : mj_S → Prop) : Prop := (∀ j, r = .inl j → ∀ S' c, fr (Dl x) S S' → m_gi S' 89 4 = nI j → m_gi S' 93 x = nI c → c + p ≤ ts.length + 240 → Q S') ∧ ∀ w, r = .inr w → ∀ S', fr (Dl x) S S' → RLW S' t n w.2 x d (ts ++ w.1) → Q S'
theorem rres.fr {S1 : mj_S} {r : lrs} (h : rres x d t n S p ts r Q) (f : fr (Dl x) S S1) : rres x d t n S1 p ts r Q := ⟨fun j e S' c f' => h.1 j e S' c (f.tr f'), fun w e S' f' => h.2 w e S' (f.tr f')⟩
def CRR (L x d : Nat) (t : Nat → Nat) (n : Nat) (pf : Nat → lrs) (M : mj_S → (mj_S → Prop) → Prop) : Prop := ∀ (S : mj_S) (p : Nat) (ts : List tok) (Q : mj_S → Prop), Sh L S → RLW S t n p x d ts → ts.length ≤ p → rres x d t n S p ts (pf p) Q → M S Q
theorem r_look {Q : mj_S → Int32 → Prop} (W : RLW S t n p x d ts) (h : ∀ S', fr (Dl x) S S' → RLW S' t n (skp t n p) x d ts → Q S' (cr t n (skp t n p))) : M_X11_look l G 89 S Q :=
  s_look W.1 (fun S' e' T' => h S' (by rw [e']; exact fr.si (Dl_t (by omega))) (by rw [e']; exact W.mv (skp_b W.pn.1).2))
theorem r_bad (W : RLW S t n p x d ts) (h : ∀ S', fr (Dl x) S S' → m_gi S' 89 4 = nI p → m_gi S' 93 x = nI ts.length → Q S') : M_X11_bad l G 89 S Q :=
  s_bad W.1 W.2.1 (fun S' e' => h S' (by rw [e']; exact fr.si (Dl_t (by omega))) (by rw [e', m_gi_si, if_pos ⟨rfl, rfl⟩]) (by rw [e', m_gi_si, if_neg (by omega)]; exact W.2.2.2.2.1))
theorem RLW.st {S1 : mj_S} (W : RLW S t n p x d ts) (hp : p < n) (e : S1 = m_si S 89 3 (m_gi S 89 3 + 1)) : RLW S1 t n (p + 1) x d ts ∧ fr (Dl x) S S1 := by
  rw [W.1.at_, nI_1] at e
  rw [e]
  exact ⟨W.mv hp, fr.si (Dl_t (by omega))⟩
theorem r_num48 {v : Nat} {Q : mj_S → Int32 → Prop} (W : RLW S t n p x d ts) (h1 : dg t n p = true → ∀ S', fr (Dl x) S S' → m_gi S' 89 4 = nI p → m_gi S' 93 x = nI ts.length → Q S' (nI v)) (h0 : dg t n p = false → Q S (nI v)) : V_X11_plainNumber_48 l G 89 (nI v) S Q := by
  refine b_X11_plainNumber_48 W.1.1.1 (s_here W.1 (s_risDigit W.1.tw (fun e => ⟨fun z => absurd z (by decide), fun _ => ?_⟩) (fun e => ⟨fun _ => h0 e, fun z => absurd rfl z⟩)))
  exact r_bad W (h1 e)
theorem r_num : ∀ (k v m p : Nat) (S : mj_S) (Q : mj_S → Int32 → Prop), k + m = 4 → RLW S t n p x d ts → (∀ j, pnm t n k v p = .inl j → ∀ S' v', fr (Dl x) S S' → m_gi S' 89 4 = nI j → m_gi S' 93 x = nI ts.length → Q S' v') → (∀ v' e, pnm t n k v p = .inr ([(0, v')], e) → ∀ S', fr (Dl x) S S' → RLW S' t n e x d ts → Q S' (nI v')) → V_X11_plainNumber_4 l G 89 (nI v) (nI m) S Q
  | 0, v, m, p, S, Q, hm, W, h0, h1 => by
    refine b_X11_plainNumber_4 W.1.1.1 ⟨fun _ => r_num48 W (fun e S' f' a' b' => h0 p ?_ S' _ f' a' b') (fun e => h1 v p ?_ S fr.rf W), fun z => absurd (nI_le (a := 4) (by omega) (by omega)) z⟩
    · unfold pnm; rw [if_pos e]
    · unfold pnm; rw [if_neg (by rw [e]; decide)]
  | k + 1, v, m, p, S, Q, hm, W, h0, h1 => by
    have hpn := W.pn
    refine b_X11_plainNumber_4 W.1.1.1 ⟨fun z => absurd z (nI_ge (b := 4) (by omega) (by omega)), fun _ => s_here W.1 (s_risDigit W.1.tw (fun e => ⟨fun z => absurd z (by decide), fun _ => s_here W.1 ?_⟩) (fun e => ⟨fun _ => r_num48 W (fun e' => absurd e' (by rw [e]; decide)) (fun e' => h1 v p ?_ S fr.rf W), fun z => absurd rfl z⟩))⟩
    · intro v7 e7 S8 e8 v9 e9
      have hdg : p < n ∧ 48 ≤ t p ∧ t p ≤ 57 := by unfold dg at e; rw [decide_eq_true_iff] at e; exact e
      have W8 := W.st hdg.1 e8
      have ev : v7 = nI (10 * v + (t p - 48)) := by
        rw [e7, cr_in hdg.1, show (10 : Int32) = nI 10 from rfl, show (48 : Int32) = nI 48 from rfl, nI_mul, nI_add, sub_v (by omega)]
        congr 1; omega
      rw [nI_1] at e9
      rw [ev, e9]
      have ee : pnm t n (k + 1) v p = pnm t n k (10 * v + (t p - 48)) (p + 1) := by
        show (if dg t n p = true then pnm t n k (10 * v + (t p - 48)) (p + 1) else .inr ([(0, v)], p)) = _
        rw [if_pos e]
      rw [ee] at h0 h1
      exact r_num k _ (m + 1) (p + 1) S8 Q (by omega) W8.1 (fun j ej S' v' f' => h0 j ej S' v' (W8.2.tr f')) (fun v' e ee S' f' => h1 v' e ee S' (W8.2.tr f'))
    · unfold pnm; rw [if_neg (by rw [e]; decide)]
theorem pnm_1 : ∀ (k v p : Nat) (w : List tok × Nat), pnm t n k v p = .inr w → ∃ u, w.1 = [(0, u)]
  | 0, v, p, w, e => by
    unfold pnm at e
    split at e
    · cases e
    · cases e; exact ⟨v, rfl⟩
  | k + 1, v, p, w, e => by
    have e' : (if dg t n p = true then pnm t n k (10 * v + (t p - 48)) (p + 1) else .inr ([(0, v)], p)) = (.inr w : lrs) := e
    split at e'
    · exact pnm_1 k _ _ w e'
    · cases e'; exact ⟨v, rfl⟩
theorem r_letterOf {y : Int32} {Q : mj_S → Int32 → Prop} (h1 : ∀ k, ltr y 6 0 = some k → Q S (nI k)) (h0 : ltr y 6 0 = none → Q S (-1)) : M_X11_letterOf l G y S Q := by
  have e : ltr y 6 0 = if (118 : Int32) = y then some 0 else if (107 : Int32) = y then some 1 else if (103 : Int32) = y then some 2 else if (108 : Int32) = y then some 3 else if (121 : Int32) = y then some 4 else if (99 : Int32) = y then some 5 else none := rfl
  rw [e] at h1 h0
  refine e_X11_letterOf (b_X11_letterOf_0 ⟨fun a1 => ⟨fun a2 => ⟨fun a3 => ⟨fun a4 => ⟨fun a5 => ⟨fun a6 => h0 ?_, fun b6 => h1 5 ?_⟩, fun b5 => h1 4 ?_⟩, fun b4 => h1 3 ?_⟩, fun b3 => h1 2 ?_⟩, fun b2 => h1 1 ?_⟩, fun b1 => h1 0 ?_⟩)
  · rw [if_neg (Ne.symm a1), if_neg (Ne.symm a2), if_neg (Ne.symm a3), if_neg (Ne.symm a4), if_neg (Ne.symm a5), if_neg (Ne.symm a6)]
  · rw [if_neg (Ne.symm a1), if_neg (Ne.symm a2), if_neg (Ne.symm a3), if_neg (Ne.symm a4), if_neg (Ne.symm a5), if_pos b6.symm]
  · rw [if_neg (Ne.symm a1), if_neg (Ne.symm a2), if_neg (Ne.symm a3), if_neg (Ne.symm a4), if_pos b5.symm]
  · rw [if_neg (Ne.symm a1), if_neg (Ne.symm a2), if_neg (Ne.symm a3), if_pos b4.symm]
  · rw [if_neg (Ne.symm a1), if_neg (Ne.symm a2), if_pos b3.symm]
  · rw [if_neg (Ne.symm a1), if_pos b2.symm]
  · rw [if_pos b1.symm]
theorem r_opens (hs : Sh L S) (W : RLW S t n p x d ts) (hd : d ≤ 6) (hp : p < n) (h6 : d = 6 → ∀ S', fr (Dl x) S S' → m_gi S' 89 4 = nI p → m_gi S' 93 x = nI ts.length → Q S') (h : d < 6 → ∀ S', fr (Dl x) S S' → RLW S' t n (p + 1) x (d + 1) ts → Q S') : M_X11_opens l G 89 S Q := by
  refine e_X11_opens (b_X11_opens_0 hs.k89 ?_)
  rw [W.2.2.1]
  refine ⟨fun z => b_X11_opens_13 hs.k89 (fun S1 e1 S2 e2 => ?_), fun z => r_bad W (fun S1 f1 a1 b1 => b_X11_opens_13 (hs.fr f1).k89 (fun S2 e2 S3 e3 => ?_))⟩
  · rw [W.2.2.1, nI_1] at e1
    have W1 : RLW S1 t n p x (d + 1) ts := by rw [e1]; exact W.dp
    have f1 : fr (Dl x) S S1 := by rw [e1]; exact fr.si (Dl_t (by omega))
    have W2 := W1.st hp e2
    refine h ?_ S2 (f1.tr W2.2) W2.1
    by_cases e : d = 6
    · subst e; exact absurd rfl z
    · omega
  · have e6 : d = 6 := (nI_eq (b := 6) (by omega) (by omega)).mp z
    refine h6 e6 S3 (f1.tr (by rw [e3, e2]; exact (fr.si (Dl_t (by omega))).tr (fr.si (Dl_t (by omega))))) ?_ ?_
    · rw [e3, m_gi_si, if_neg (by omega), e2, m_gi_si, if_neg (by omega)]; exact a1
    · rw [e3, m_gi_si, if_neg (by omega), e2, m_gi_si, if_neg (by omega)]; exact b1
theorem r_closesF {y : Int32} {j c : Nat} (hs : Sh L S) (hj : j < 1000) (ej : m_gi S 89 4 = nI j) (ec : m_gi S 93 x = nI c) (h : ∀ S', fr (Dl x) S S' → m_gi S' 89 4 = nI j → m_gi S' 93 x = nI c → Q S') : M_X11_closes l G 89 y S Q := by
  refine e_X11_closes (b_X11_closes_0 hs.k89 ⟨fun _ => b_X11_closes_20 hs.k89 (fun S2 e2 S3 e3 => ?_), fun z => ?_⟩)
  · refine h S3 (by rw [e3, e2]; exact (fr.si (Dl_t (by omega))).tr (fr.si (Dl_t (by omega)))) ?_ ?_
    · rw [e3, m_gi_si, if_neg (by omega), e2, m_gi_si, if_neg (by omega)]; exact ej
    · rw [e3, m_gi_si, if_neg (by omega), e2, m_gi_si, if_neg (by omega)]; exact ec
  · rw [ej] at z
    exact absurd z (nI_m1 (by omega))
theorem r_closes {c : Nat} (hs : Sh L S) (hc : c < 256) (W : RLW S t n p x (d + 1) ts) (h1 : cr t n (skp t n p) = nI c → ∀ S', fr (Dl x) S S' → RLW S' t n (skp t n p + 1) x d ts → Q S') (h0 : ¬ cr t n (skp t n p) = nI c → ∀ S', fr (Dl x) S S' → m_gi S' 89 4 = nI (skp t n p) → m_gi S' 93 x = nI ts.length → Q S') : M_X11_closes l G 89 (nI c) S Q := by
  refine e_X11_closes (b_X11_closes_0 hs.k89 ⟨fun z => absurd W.2.1 z, fun _ => r_look W (fun S1 f1 W1 => ⟨fun z => ?_, fun z => r_bad W1 (fun S2 f2 a2 b2 => ?_)⟩)⟩)
  · refine b_X11_closes_20 (hs.fr f1).k89 (fun S2 e2 S3 e3 => ?_)
    have W2 := W1.st (((cr_is W.1.tw (by omega)).mp z).1) e2
    rw [W2.1.2.2.1, nI_pred] at e3
    exact h1 z S3 ((f1.tr W2.2).tr (by rw [e3]; exact fr.si (Dl_t (by omega)))) (by rw [e3]; exact W2.1.dp)
  · refine b_X11_closes_20 ((hs.fr f1).fr f2).k89 (fun S3 e3 S4 e4 => ?_)
    refine h0 z S4 ((f1.tr f2).tr (by rw [e4, e3]; exact (fr.si (Dl_t (by omega))).tr (fr.si (Dl_t (by omega))))) ?_ ?_
    · rw [e4, m_gi_si, if_neg (by omega), e3, m_gi_si, if_neg (by omega)]; exact a2
    · rw [e4, m_gi_si, if_neg (by omega), e3, m_gi_si, if_neg (by omega)]; exact b2
theorem r_cld {c : Nat} {r : lrs} {p0 : Nat} (hs : Sh L S) (hc : c < 256) (hr : rok n p r) (hp0 : p0 ≤ p) (hp : ts.length ≤ p) (h : rres x d t n S p0 ts (cld t n c r) Q) : rres x (d + 1) t n S p ts r (fun S9 => M_X11_closes l G 89 (nI c) S9 (fun S10 => Q S10)) := by
  refine ⟨fun j e S3 cc f3 a3 b3 hb => ?_, fun w ew S3 f3 W3 => ?_⟩
  · rw [e] at hr
    refine r_closesF (hs.fr f3) hr a3 b3 (fun S4 f4 a4 b4 => h.1 j ?_ S4 cc (f3.tr f4) a4 b4 (by omega))
    rw [e]; rfl
  · rw [ew] at hr
    have hr' : p < w.2 ∧ w.2 ≤ n ∧ w.1.length + p ≤ w.2 := hr
    have hq := skp_b (t := t) W3.pn.1
    have hn := W3.pn
    have ee : cld t n c r = if cr t n (skp t n w.2) = nI c then .inr (w.1, skp t n w.2 + 1) else .inl (skp t n w.2) := by rw [ew]; rfl
    rw [ee] at h
    refine r_closes (hs.fr f3) hc W3 (fun z S4 f4 W4 => ?_) (fun z S4 f4 a4 b4 => ?_)
    · rw [if_pos z] at h
      exact h.2 _ rfl S4 (f3.tr f4) W4
    · rw [if_neg z] at h
      exact h.1 _ rfl S4 _ (f3.tr f4) a4 b4 (by rw [List.length_append]; omega)
theorem r_atom {sm : Option (Nat → lrs)} (hD : 8 ≤ D) (hx : x ≤ 4) (hd : d ≤ 6) (hn6 : sm = none → d = 6) (hm : ∀ f, sm = some f → d < 6 ∧ CRR L x (d + 1) t n f (M_X11_sum l G D 89)) (hok : ∀ f, sm = some f → ∀ q, q ≤ n → rok n q (f q)) : CRR L x d t n (pat t n sm) (M_X11_atom l G (D + 1) 89) := by
  intro S p ts Q hs W hl h
  have hpn := W.pn
  have hq := skp_b (t := t) hpn.1
  refine e_X11_atom (b_X11_atom_0 hD hs.k89 (r_look W (fun S1 f1 W1 => s_risDigit W.1.tw (fun d1 => ⟨fun z => absurd z (by decide), fun _ => ?_⟩) (fun d1 => ⟨fun _ => ?_, fun z => absurd rfl z⟩))))
  · have hlt : skp t n p < n := by unfold dg at d1; rw [decide_eq_true_iff] at d1; exact d1.1
    unfold pat at h
    rw [if_pos d1] at h
    refine e_X11_plainNumber (b_X11_plainNumber_0 (hs.fr f1).k89 (r_num 4 0 0 _ S1 _ rfl W1 (fun j ej S2 v' f2 a2 b2 => ?_) (fun v' e ee S2 f2 W2 => ?_)))
    · have f2' := f1.tr f2
      exact s_lputF (hs.fr f2') hx (f2'.tx.trans W.2.2.2.1) a2 b2 (by omega) (fun S3 f3 a3 b3 => h.1 j ej S3 _ (f2'.tr f3) a3 b3 (by omega))
    · have f2' := f1.tr f2
      exact s_lputW (c := 0) (hs.fr f2') hx W2 (by omega) (fun S3 f3 W3 => h.2 _ ee S3 (f2'.tr f3) W3)
  · unfold pat at h
    rw [if_neg (by rw [d1]; decide)] at h
    refine r_letterOf (fun k ek => ⟨fun z => absurd z (nI_m1 (by have := ltr_lt ek; omega)), fun _ S2 e2 => ?_⟩) (fun ek => ⟨fun _ => ⟨fun z => ?_, fun z => ?_⟩, fun z => absurd rfl z⟩)
    · have hk := ltr_lt ek
      have hne : ¬ cr t n (skp t n p) = 91 := by
        intro z
        have : ∀ j, j < 6 → ¬ nI (tb LL j) = 91 := by decide
        exact this k (by omega) (hk.2.2.trans z)
      have hlt : skp t n p < n := by
        by_cases q : skp t n p < n
        · exact q
        · rw [cr_out (by omega)] at hk
          exact absurd hk.2.2 (nI_m1 (by
            have : ∀ j, j < 6 → tb LL j < 256 := by decide
            have := this k (by omega); omega))
      rw [if_neg hne, ek] at h
      have W2 := W1.st hlt e2
      have f2' := f1.tr W2.2
      refine r_letterOf (fun k' ek' => ?_) (fun ek' => absurd (ek'.symm.trans ek) (by simp))
      have ekk : k' = k := by rw [ek] at ek'; cases ek'; rfl
      subst ekk
      exact s_lputW (c := 1) (hs.fr f2') hx W2.1 (by omega) (fun S3 f3 W3 => h.2 _ rfl S3 (f2'.tr f3) W3)
    · rw [if_neg z, ek] at h
      exact r_bad W1 (fun S2 f2 a2 b2 => h.1 _ rfl S2 _ (f1.tr f2) a2 b2 (by omega))
    · rw [if_pos z] at h
      have hlt := ((cr_is W.1.tw (k := 91) (by omega)).mp z).1
      refine r_opens (hs.fr f1) W1 hd hlt (fun e6 S2 f2 a2 b2 => ⟨fun _ => ?_, fun y => ?_⟩) (fun e6 S2 f2 W2 => ⟨fun y => absurd W2.2.1 y, fun _ => ?_⟩)
      · cases sm with
        | none => exact h.1 _ rfl S2 _ (f1.tr f2) a2 b2 (by omega)
        | some f => exact absurd (hm f rfl).1 (by omega)
      · rw [a2] at y; exact absurd y (nI_m1 (by omega))
      · cases sm with
        | none => exact absurd (hn6 rfl) (by omega)
        | some f =>
          have f2' := f1.tr f2
          have hro := hok f rfl (skp t n p + 1) hlt
          exact (hm f rfl).2 S2 _ ts _ (hs.fr f2') W2 (by omega) (r_cld (c := 93) (hs.fr f2') (by omega) hro (by omega) (by omega) (h.fr f2'))
end RH
