/-! the reference reads a law: clauses -/
def tks (cs : List cls) : List tok := cs.flatMap (fun c => c.1 ++ c.2)
theorem tks_snoc (cs : List cls) (c : cls) : tks (cs ++ [c]) = tks cs ++ (c.1 ++ c.2) := by
  unfold tks
  rw [List.flatMap_append]
  simp
def Dm (x a j : Nat) : Bool := Dl x a j || decide ((a = 94 ∧ j = x) ∨ ((a = 95 ∨ a = 96 ∨ a = 97) ∧ 140 * x ≤ j ∧ j < 140 * x + 140))
theorem Dm_f {x a j : Nat} (h : Dm x a j = false) : Dl x a j = false := (Bool.or_eq_false_iff.mp h).1
theorem Dm_t {x a j : Nat} (h : (a = 94 ∧ j = x) ∨ ((a = 95 ∨ a = 96 ∨ a = 97) ∧ 140 * x ≤ j ∧ j < 140 * x + 140)) : Dm x a j = true := by
  unfold Dm; rw [decide_eq_true h, Bool.or_true]
theorem Dm_l {x a j : Nat} (h : Dl x a j = true) : Dm x a j = true := by
  unfold Dm; rw [h, Bool.true_or]
theorem Dm_no {x a j : Nat} (h : Dl x a j = false) (h2 : ¬ ((a = 94 ∧ j = x) ∨ ((a = 95 ∨ a = 96 ∨ a = 97) ∧ 140 * x ≤ j ∧ j < 140 * x + 140))) : Dm x a j = false := by
  unfold Dm; rw [h, decide_eq_false h2]; rfl
/-- the clauses of text x -/
def CT (S : mj_S) (x : Nat) (cs : List cls) : Prop := m_gi S 94 x = nI cs.length ∧ ∀ i, (h : i < cs.length) → m_gi S 95 (140 * x + i) = nI (tks (cs.take i)).length ∧ m_gi S 96 (140 * x + i) = nI ((tks (cs.take i)).length + (cs[i]).1.length) ∧ m_gi S 97 (140 * x + i) = nI ((tks (cs.take i)).length + (cs[i]).1.length + (cs[i]).2.length)
def HC (S : mj_S) (x : Nat) (cs : List cls) : Prop := CT S x cs ∧ m_gi S 95 (140 * x + cs.length) = nI (tks cs).length
def LH (S : mj_S) (x : Nat) (cs : List cls) : Prop := CT S x cs ∧ ∀ i, (h : i < (tks cs).length) → m_gi S 91 (520 * x + i) = nI ((tks cs)[i]).1 ∧ m_gi S 92 (520 * x + i) = nI ((tks cs)[i]).2
section RJ
variable {l : Launch} {G : mj_G} {L D : Nat} {S : mj_S} {t : Nat → Nat} {n p x d m : Nat} {ts : List tok} {cs : List cls} {Q : mj_S → Prop}
theorem CT.ot {S' : mj_S} (h : CT S x cs) (k : ∀ a j, 94 ≤ a → a ≤ 97 → m_gi S' a j = m_gi S a j) : CT S' x cs := ⟨(k _ _ (by omega) (by omega)).trans h.1, fun i hi => ⟨(k _ _ (by omega) (by omega)).trans (h.2 i hi).1, (k _ _ (by omega) (by omega)).trans (h.2 i hi).2.1, (k _ _ (by omega) (by omega)).trans (h.2 i hi).2.2⟩⟩
theorem CT.f {S' : mj_S} (h : CT S x cs) (f : fr (Dl x) S S') : CT S' x cs := h.ot (fun a j h1 h2 => f.i a j (Dl_f (by omega)))
theorem HC.f {S' : mj_S} (h : HC S x cs) (f : fr (Dl x) S S') : HC S' x cs := ⟨h.1.f f, (f.i _ _ (Dl_f (by omega))).trans h.2⟩
theorem RLW.ot {a j : Nat} {y : Int32} (W : RLW S t n p x d ts) (ha : 94 ≤ a) : RLW (m_si S a j y) t n p x d ts := by
  refine ⟨W.1.kp rfl rfl (by rw [m_gi_si, if_neg (by omega)]) (by rw [m_gi_si, if_neg (by omega)]) (fun j => by rw [m_gi_si, if_neg (by omega)]), ?_, ?_, ?_, ?_, fun i hi => ⟨?_, ?_⟩⟩
  · rw [m_gi_si, if_neg (by omega)]; exact W.2.1
  · rw [m_gi_si, if_neg (by omega)]; exact W.2.2.1
  · rw [m_gi_si, if_neg (by omega)]; exact W.2.2.2.1
  · rw [m_gi_si, if_neg (by omega)]; exact W.2.2.2.2.1
  · rw [m_gi_si, if_neg (by omega)]; exact (W.2.2.2.2.2 i hi).1
  · rw [m_gi_si, if_neg (by omega)]; exact (W.2.2.2.2.2 i hi).2
theorem CT.si {a k : Nat} {y : Int32} (h : CT S x cs) (ha : a = 95 ∨ a = 96 ∨ a = 97) (hk : k = 140 * x + cs.length) : CT (m_si S a k y) x cs := by
  refine ⟨?_, fun i hi => ⟨?_, ?_, ?_⟩⟩
  · rw [m_gi_si, if_neg (by omega)]; exact h.1
  · rw [m_gi_si, if_neg (by omega)]; exact (h.2 i hi).1
  · rw [m_gi_si, if_neg (by omega)]; exact (h.2 i hi).2.1
  · rw [m_gi_si, if_neg (by omega)]; exact (h.2 i hi).2.2
theorem fr.dm {S' : mj_S} (f : fr (Dl x) S S') : fr (Dm x) S S' := f.wid (fun a j h => Dm_f h)
theorem fr.tm {S' : mj_S} (f : fr (Dm x) S S') : m_gi S' 89 14 = m_gi S 89 14 := f.i _ _ (Dm_no (Dl_f (by omega)) (by omega))
theorem r_c251F {j : Nat} (hs : Sh L S) (hx : x ≤ 4) (hm : m < 140) (ht : m_gi S 89 14 = nI x) (ej : m_gi S 89 4 = nI j) (h : ∀ S', fr (Dm x) S S' → m_gi S' 89 4 = nI j → Q S') : V_X11_clause_251 l G 89 (nI (140 * x + m)) S Q := by
  refine b_X11_clause_251 hs.k89 ⟨97, hs.p89_12, 93, hs.p89_8, ?_⟩
  have hcl : (nI x).toNatClampNeg = x := nI_clamp (by omega)
  rw [ht, hs.l93, hs.l97, hcl, nI_clamp (by omega)]
  refine ⟨vp_nI (by omega) (by omega), vp_nI (by omega) (by omega), fun S3 e3 => ⟨94, (by rw [e3]; exact hs.p89_9), ?_⟩⟩
  have f3 : fr (Dm x) S S3 := by rw [e3]; exact fr.si (Dm_t (by omega))
  rw [f3.tm, ht, (hs.fr f3).l94, hcl]
  refine ⟨vp_nI (by omega) (by omega), vp_nI (by omega) (by omega), fun S5 e5 => h S5 (f3.tr (by rw [e5]; exact fr.si (Dm_t (by omega)))) ?_⟩
  rw [e5, m_gi_si, if_neg (by omega), e3, m_gi_si, if_neg (by omega)]; exact ej
theorem r_c251 {a b : List tok} (hs : Sh L S) (hx : x ≤ 4) (hm : cs.length < 140) (W : RLW S t n p x 0 (tks cs ++ (a ++ b))) (H : HC S x cs) (h96 : m_gi S 96 (140 * x + cs.length) = nI ((tks cs).length + a.length)) (h : ∀ S', fr (Dm x) S S' → RLW S' t n p x 0 (tks cs ++ (a ++ b)) → CT S' x (cs ++ [(a, b)]) → Q S') : V_X11_clause_251 l G 89 (nI (140 * x + cs.length)) S Q := by
  refine b_X11_clause_251 hs.k89 ⟨97, hs.p89_12, 93, hs.p89_8, ?_⟩
  have hcl : (nI x).toNatClampNeg = x := nI_clamp (by omega)
  rw [W.2.2.2.1, hs.l93, hs.l97, hcl, nI_clamp (by omega), W.2.2.2.2.1]
  refine ⟨vp_nI (by omega) (by omega), vp_nI (by omega) (by omega), fun S3 e3 => ⟨94, (by rw [e3]; exact hs.p89_9), ?_⟩⟩
  have f3 : fr (Dm x) S S3 := by rw [e3]; exact fr.si (Dm_t (by omega))
  have c3 : CT S3 x cs := by rw [e3]; exact H.1.si (by omega) rfl
  have W3 : RLW S3 t n p x 0 (tks cs ++ (a ++ b)) := by rw [e3]; exact W.ot (by omega)
  rw [W3.2.2.2.1, (hs.fr f3).l94, hcl, c3.1, nI_1]
  refine ⟨vp_nI (by omega) (by omega), vp_nI (by omega) (by omega), fun S5 e5 => h S5 (f3.tr (by rw [e5]; exact fr.si (Dm_t (by omega)))) (by rw [e5]; exact W3.ot (by omega)) ?_⟩
  refine ⟨by rw [e5, m_gi_si, if_pos ⟨rfl, rfl⟩, List.length_append, List.length_singleton], fun i hi => ?_⟩
  rw [List.length_append, List.length_singleton] at hi
  have e9 : ∀ q k, 95 ≤ q → m_gi S5 q k = m_gi S3 q k := fun q k hq => by rw [e5, m_gi_si, if_neg (by omega)]
  by_cases e : i = cs.length
  · subst e
    have g : (cs ++ [(a, b)])[cs.length]'(by rw [List.length_append, List.length_singleton]; omega) = (a, b) := by simp
    have tk : (cs ++ [(a, b)]).take cs.length = cs := by simp
    rw [g, tk]
    refine ⟨?_, ?_, ?_⟩
    · rw [e9 _ _ (by omega), e3, m_gi_si, if_neg (by omega)]; exact H.2
    · rw [e9 _ _ (by omega), e3, m_gi_si, if_neg (by omega)]; exact h96
    · rw [e9 _ _ (by omega), e3, m_gi_si, if_pos ⟨rfl, rfl⟩, List.length_append, List.length_append, Nat.add_assoc]
  · have hi' : i < cs.length := by omega
    have g : (cs ++ [(a, b)])[i]'(by rw [List.length_append, List.length_singleton]; omega) = cs[i] := List.getElem_append_left hi'
    have tk : (cs ++ [(a, b)]).take i = cs.take i := List.take_append_of_le_length (by omega)
    rw [g, tk]
    have q := c3.2 i hi'
    exact ⟨(e9 _ _ (by omega)).trans q.1, (e9 _ _ (by omega)).trans q.2.1, (e9 _ _ (by omega)).trans q.2.2⟩
theorem r_c184F {j : Nat} {x2 : Int32} (hs : Sh L S) (hx : x ≤ 4) (hm : m < 140) (ht : m_gi S 89 14 = nI x) (ej : m_gi S 89 4 = nI j) (hj : j < 1000) (h : ∀ S', fr (Dm x) S S' → m_gi S' 89 4 = nI j → Q S') : V_X11_clause_184 l G 89 (nI (140 * x + m)) x2 S Q := by
  refine b_X11_clause_184 hs.k89 ⟨96, hs.p89_11, 95, hs.p89_10, ?_⟩
  rw [hs.l95, hs.l96, nI_clamp (by omega)]
  refine ⟨vp_nI (by omega) (by omega), vp_nI (by omega) (by omega), fun S3 e3 => ?_⟩
  have f3 : fr (Dm x) S S3 := by rw [e3]; exact fr.si (Dm_t (by omega))
  have j3 : m_gi S3 89 4 = nI j := by rw [e3, m_gi_si, if_neg (by omega)]; exact ej
  have k3 : V_X11_clause_251 l G 89 (nI (140 * x + m)) S3 Q := r_c251F (hs.fr f3) hx hm (f3.tm.trans ht) j3 (fun S' f' a' => h S' (f3.tr f') a')
  refine ⟨fun _ => k3, fun _ => ⟨fun _ => k3, fun z => ?_⟩⟩
  rw [j3] at z; exact absurd z (nI_m1 (by omega))
theorem r_c1840 {b : List tok} (hs : Sh L S) (hx : x ≤ 4) (hm : cs.length < 140) (W : RLW S t n p x 0 (tks cs ++ b)) (H : HC S x cs) (h : ∀ S', fr (Dm x) S S' → RLW S' t n p x 0 (tks cs ++ b) → CT S' x (cs ++ [([], b)]) → Q S') : V_X11_clause_184 l G 89 (nI (140 * x + cs.length)) 0 S Q := by
  refine b_X11_clause_184 hs.k89 ⟨96, hs.p89_11, 95, hs.p89_10, ?_⟩
  rw [hs.l95, hs.l96, nI_clamp (by omega), H.2]
  refine ⟨vp_nI (by omega) (by omega), vp_nI (by omega) (by omega), fun S3 e3 => ⟨fun _ => ?_, fun z => absurd rfl z⟩⟩
  have f3 : fr (Dm x) S S3 := by rw [e3]; exact fr.si (Dm_t (by omega))
  refine r_c251 (a := []) (b := b) (hs.fr f3) hx hm (by rw [List.nil_append, e3]; exact W.ot (by omega)) ⟨by rw [e3]; exact H.1.si (by omega) rfl, by rw [e3, m_gi_si, if_neg (by omega)]; exact H.2⟩ (by rw [e3, m_gi_si, if_pos ⟨rfl, rfl⟩]; rfl) (fun S' f' W' C' => h S' (f3.tr f') (by rw [List.nil_append] at W'; exact W') C')
theorem r_c1841 {a : List tok} {x2 : Int32} (hx2 : ¬ x2 = 0) (hs : Sh L S) (hx : x ≤ 4) (hm : cs.length < 140) (W : RLW S t n p x 0 (tks cs ++ a)) (hl : (tks cs ++ a).length ≤ p) (H : HC S x cs) (h0 : ∀ j, ansR t n p = .inl j → ∀ S', fr (Dm x) S S' → m_gi S' 89 4 = nI j → Q S') (h1 : ∀ w, ansR t n p = .inr w → ∀ S', fr (Dm x) S S' → RLW S' t n w.2 x 0 (tks cs ++ (a ++ w.1)) → CT S' x (cs ++ [(a, w.1)]) → Q S') : V_X11_clause_184 l G 89 (nI (140 * x + cs.length)) x2 S Q := by
  have hpn := W.pn
  have hq := skp_b (t := t) hpn.1
  unfold ansR at h0 h1
  have hcl : (nI x).toNatClampNeg = x := nI_clamp (by omega)
  have hck : (nI (140 * x + cs.length)).toNatClampNeg = 140 * x + cs.length := nI_clamp (by omega)
  refine b_X11_clause_184 hs.k89 ⟨96, hs.p89_11, 95, hs.p89_10, ?_⟩
  rw [hs.l95, hs.l96, hck, H.2]
  refine ⟨vp_nI (by omega) (by omega), vp_nI (by omega) (by omega), fun S3 e3 => ⟨fun z => absurd z hx2, fun _ => ?_⟩⟩
  have f3 : fr (Dm x) S S3 := by rw [e3]; exact fr.si (Dm_t (by omega))
  have W3 : RLW S3 t n p x 0 (tks cs ++ a) := by rw [e3]; exact W.ot (by omega)
  have H3 : HC S3 x cs := ⟨by rw [e3]; exact H.1.si (by omega) rfl, by rw [e3, m_gi_si, if_neg (by omega)]; exact H.2⟩
  refine ⟨fun z => absurd W3.2.1 z, fun _ => r_look W3 (fun S4 f4 W4 => ⟨fun z S6 e6 => ?_, fun z => ?_⟩)⟩
  · rw [if_pos z] at h0 h1
    have hlt := ((cr_is W.1.tw (k := 63) (by omega)).mp z).1
    have W6 := W4.st hlt e6
    have f6l := f4.tr W6.2
    have f6 := f3.tr f6l.dm
    have hs6 := hs.fr f6
    refine ⟨96, hs6.p89_11, 93, hs6.p89_8, ?_⟩
    rw [W6.1.2.2.2.1, hs6.l93, hs6.l96, hcl, W6.1.2.2.2.2.1]
    refine ⟨vp_nI (by omega) (by omega), vp_nI (by omega) (by omega), fun S9 e9 => ?_⟩
    have f9 : fr (Dm x) S S9 := f6.tr (by rw [e9]; exact fr.si (Dm_t (by omega)))
    have W9 : RLW S9 t n (skp t n p + 1) x 0 (tks cs ++ a) := by rw [e9]; exact W6.1.ot (by omega)
    have H6 := H3.f f6l
    have H9 : HC S9 x cs := ⟨by rw [e9]; exact H6.1.si (by omega) rfl, by rw [e9, m_gi_si, if_neg (by omega)]; exact H6.2⟩
    have h96 : m_gi S9 96 (140 * x + cs.length) = nI ((tks cs).length + a.length) := by rw [e9, m_gi_si, if_pos ⟨rfl, rfl⟩, List.length_append]
    have hro := sumD_ok hpn.2 W.1.tw 6 (skp t n p + 1) hlt
    refine r_sumD hx hpn.2 W.1.tw 6 0 80 rfl (by omega) S9 _ _ _ (hs.fr f9) W9 (by omega) ⟨fun j ej S10 c f10 a10 b10 hc => ?_, fun w ew S10 f10 W10 => ?_⟩
    · have f10' := f9.tr f10.dm
      exact r_c251F (hs.fr f10') hx hm (f10'.tm.trans W.2.2.2.1) a10 (fun S' f' a' => h0 j ej S' (f10'.tr f') a')
    · have f10' := f9.tr f10.dm
      rw [List.append_assoc] at W10
      exact r_c251 (hs.fr f10') hx hm W10 (H9.f f10) ((f10.i _ _ (Dl_f (by omega))).trans h96) (fun S' f' W' C' => h1 w ew S' (f10'.tr f') W' C')
  · rw [if_neg z] at h0
    exact r_bad W4 (fun S5 f5 a5 b5 => h0 _ rfl S5 (f3.tr (f4.tr f5).dm) a5)
theorem r_c71F {j : Nat} {y : Int32} (hs : Sh L S) (ej : m_gi S 89 4 = nI j) (hj : j < 1000) (h : ∀ S', fr (Dm x) S S' → m_gi S' 89 4 = nI j → Q S') : V_X11_clause_71 l G 89 y S Q := by
  refine b_X11_clause_71 hs.k89 (fun S1 e1 => ?_)
  have j1 : m_gi S1 89 4 = nI j := by rw [e1, m_gi_si, if_neg (by omega)]; exact ej
  refine ⟨fun z => ?_, fun _ => h S1 (by rw [e1]; exact fr.si (Dm_l (Dl_t (by omega)))) j1⟩
  rw [j1] at z; exact absurd z (nI_m1 (by omega))
theorem r_c40F {j : Nat} {y : Int32} (hs : Sh L S) (ej : m_gi S 89 4 = nI j) (hj : j < 1000) (h : ∀ S', fr (Dm x) S S' → m_gi S' 89 4 = nI j → Q S') : V_X11_clause_40 l G 89 y S Q := by
  refine b_X11_clause_40 hs.k89 (fun S1 e1 => ?_)
  have j1 : m_gi S1 89 4 = nI j := by rw [e1, m_gi_si, if_neg (by omega)]; exact ej
  have f1 : fr (Dm x) S S1 := by rw [e1]; exact fr.si (Dm_l (Dl_t (by omega)))
  refine ⟨fun _ => r_c71F (hs.fr f1) j1 hj (fun S' f' a' => h S' (f1.tr f') a'), fun z => ?_⟩
  rw [j1] at z; exact absurd z (nI_m1 (by omega))
theorem ansR_lt (hn : n ≤ 240) (ht : ∀ i, i < n → t i < 256) (hp : p ≤ n) {j : Nat} (e : ansR t n p = .inl j) : j < 1000 := by
  have hq := skp_b (t := t) hp
  unfold ansR at e
  split at e
  · rename_i z
    have := sumD_ok hn ht 6 _ ((cr_is ht (k := 63) (by omega)).mp z).1
    rw [e] at this; exact this
  · cases e; omega
/-- from the test on -/
theorem r_c184r {x2 : Int32} {r : lrs} (hx2 : ¬ x2 = 0) (hs : Sh L S) (hx : x ≤ 4) (hm : cs.length < 140) (H : HC S x cs) (ht : m_gi S 89 14 = nI x) (hlt : ∀ j, r = .inl j → j < 1000) (hb : ∀ w, r = .inr w → (tks cs ++ w.1).length ≤ w.2) (h0 : ∀ j, ans1 t n r = .inl j → ∀ S', fr (Dm x) S S' → m_gi S' 89 4 = nI j → Q S') (h1 : ∀ w, ans1 t n r = .inr w → ∀ S', fr (Dm x) S S' → RLW S' t n w.2 x 0 (tks (cs ++ [w.1])) → CT S' x (cs ++ [w.1]) → Q S') : rres x 0 t n S p (tks cs) r (fun S6 => V_X11_clause_184 l G 89 (nI (140 * x + cs.length)) x2 S6 Q) := by
  refine ⟨fun j ej S1 c f1 a1 b1 hc => ?_, fun w ew S1 f1 W1 => ?_⟩
  · exact r_c184F (hs.fr f1) hx hm (f1.tx.trans ht) a1 (hlt j ej) (fun S' f' a' => h0 j (ans1_l ej) S' (f1.dm.tr f') a')
  · have er := ans1_r (t := t) (n := n) ew
    refine r_c1841 hx2 (hs.fr f1) hx hm W1 (hb w ew) (H.f f1) (fun j ej S' f' a' => h0 j (by rw [er, ej]) S' (f1.dm.tr f') a') (fun v ev S' f' W' C' => h1 ((w.1, v.1), v.2) (by rw [er, ev]) S' (f1.dm.tr f') (by rw [tks_snoc]; exact W') C')
theorem r_clause (hs : Sh L S) (hx : x ≤ 4) (hm : cs.length < 140) (W : RLW S t n p x 0 (tks cs)) (C : CT S x cs) (hl : (tks cs).length ≤ p) (h0 : ∀ j, clsD t n p = .inl j → ∀ S', fr (Dm x) S S' → m_gi S' 89 4 = nI j → Q S') (h1 : ∀ w, clsD t n p = .inr w → ∀ S', fr (Dm x) S S' → RLW S' t n w.2 x 0 (tks (cs ++ [w.1])) → CT S' x (cs ++ [w.1]) → Q S') : M_X11_clause l G 89 S Q := by
  have hpn := W.pn
  have hn := hpn.2
  have ht := W.1.tw
  have hq := skp_b (t := t) hpn.1
  unfold clsD at h0 h1
  have hcl : (nI x).toNatClampNeg = x := nI_clamp (by omega)
  have hck : (nI (140 * x + cs.length)).toNatClampNeg = 140 * x + cs.length := nI_clamp (by omega)
  refine e_X11_clause (b_X11_clause_0 hs.k89 ⟨94, hs.p89_9, ?_⟩)
  rw [W.2.2.2.1, hs.l94, hcl, C.1, show (140 : Int32) = nI 140 from rfl, nI_mul, nI_add]
  refine ⟨vp_nI (by omega) (by omega), fun v2 e2 => ⟨fun z => absurd W.2.1 z, fun _ => r_look W (fun S1 f1 W1 => ⟨fun z => ?_, fun z => ?_⟩)⟩⟩
  · rw [e2]
    rw [if_pos z] at h0 h1
    have hlt := ((cr_is ht (k := 121) (by omega)).mp z).1
    refine b_X11_clause_40 (hs.fr f1).k89 (fun S2 e2 => ?_)
    have W2 := W1.st hlt e2
    have f2 := f1.tr W2.2
    have hq1 := skp_b (t := t) W2.1.pn.1
    refine ⟨fun z => absurd W2.1.2.1 z, fun _ => r_look W2.1 (fun S3 f3 W3 => ⟨fun z2 => ?_, fun z2 => ?_⟩)⟩
    · rw [if_pos z2] at h0 h1
      have hlt2 := ((cr_is ht (k := 58) (by omega)).mp z2).1
      have f3' := f2.tr f3
      refine b_X11_clause_71 (hs.fr f3').k89 (fun S4 e4 => ?_)
      have W4 := W3.st hlt2 e4
      have f4 := f3'.tr W4.2
      have hs4 := hs.fr f4
      refine ⟨fun _ => ⟨95, hs4.p89_10, 93, hs4.p89_8, ?_⟩, fun z => absurd W4.1.2.1 z⟩
      rw [W4.1.2.2.2.1, hs4.l93, hs4.l95, hcl, hck, W4.1.2.2.2.2.1]
      refine ⟨vp_nI (by omega) (by omega), vp_nI (by omega) (by omega), fun S5 e5 => ?_⟩
      have f5 : fr (Dm x) S S5 := f4.dm.tr (by rw [e5]; exact fr.si (Dm_t (by omega)))
      have W5 : RLW S5 t n (skp t n (skp t n p + 1) + 1) x 0 (tks cs) := by rw [e5]; exact W4.1.ot (by omega)
      have H5 : HC S5 x cs := ⟨by rw [e5]; exact (C.f f4).si (by omega) rfl, by rw [e5, m_gi_si, if_pos ⟨rfl, rfl⟩]⟩
      have hq4 := skp_b (t := t) W5.pn.1
      generalize hP : skp t n (skp t n p + 1) + 1 = P at *
      have h128 : ∀ S6, fr (Dl x) S5 S6 → RLW S6 t n (skp t n P) x 0 (tks cs) → (cr t n (skp t n P) = 33 ∨ cr t n (skp t n P) = 40) → V_X11_clause_128 l G 89 (nI (140 * x + cs.length)) 1 S6 Q := by
        intro S6 f6 W6 z3
        rw [if_pos z3] at h0 h1
        have f6' := f5.tr f6.dm
        have hs6 := hs.fr f6'
        refine b_X11_clause_128 hs6.k89 ⟨fun z => absurd z (by decide), fun _ => ?_⟩
        have eu : unD t n 6 (skp t n P) = unD t n 6 P := by
          show (if cr t n (skp t n (skp t n P)) = 33 then fst_ (unD t n 5 (skp t n (skp t n P) + 1)) (fun ts e => .inr (ts ++ [(9, 0)], e)) else if cr t n (skp t n (skp t n P)) = 40 then cld t n 41 (fst_ (unD t n 5 (skp t n (skp t n P) + 1)) (fun ts e => cndO t n (unD t n 5) ts e)) else fst_ (sumD t n 6 (skp t n P)) (fun ts e => cmpD t n 6 ts e)) = (if cr t n (skp t n P) = 33 then fst_ (unD t n 5 (skp t n P + 1)) (fun ts e => .inr (ts ++ [(9, 0)], e)) else if cr t n (skp t n P) = 40 then cld t n 41 (fst_ (unD t n 5 (skp t n P + 1)) (fun ts e => cndO t n (unD t n 5) ts e)) else fst_ (sumD t n 6 P) (fun ts e => cmpD t n 6 ts e))
          rw [skp_id W5.pn.1, sumD_sk W5.pn.1]
        have hro : rok n P (fst_ (unD t n 6 P) (cndO t n (unD t n 6))) := (unD_ok hn ht 6 P W5.pn.1).fst (fun ts e _ he => cndO_ok hn (unD_ok hn ht 6) ts e he)
        refine r_cond (D := 77) hn (by omega) hx (fun D2 hD2 => r_unit hx hn ht 6 0 D2 rfl (by omega)) (unD_ok hn ht 6) S6 _ _ _ hs6 W6 (by omega) ?_
        show rres x 0 t n S6 (skp t n P) (tks cs) (fst_ (unD t n 6 (skp t n P)) (cndO t n (unD t n 6))) _
        rw [eu]
        refine r_c184r (by decide) hs6 hx hm (H5.f f6) (f6'.tm.trans W.2.2.2.1) (fun j ej => by rw [ej] at hro; exact hro) (fun w ew => ?_) (fun j ej S' f' a' => h0 j ej S' (f6'.tr f') a') (fun w ew S' f' W' C' => h1 w ew S' (f6'.tr f') W' C')
        rw [ew] at hro
        have hro' : P < w.2 ∧ w.2 ≤ n ∧ w.1.length + P ≤ w.2 := hro
        rw [List.length_append]; omega
      refine r_look W5 (fun S6 f6 W6 => ⟨fun z3 => h128 S6 f6 W6 (Or.inl z3), fun z3 => r_look W6 (fun S7 f7 W7 => ?_)⟩)
      rw [skp_id W5.pn.1] at W7 ⊢
      refine ⟨fun z4 => ?_, fun z4 => h128 S7 (f6.tr f7) W7 (Or.inr z4)⟩
      rw [if_neg (fun y => y.elim z3 z4), ← sumD_sk W5.pn.1] at h0 h1
      have f7l := f6.tr f7
      have f7' := f5.tr f7l.dm
      have hs7 := hs.fr f7'
      have hro := sumD_ok hn ht 6 (skp t n P) hq4.2
      refine b_X11_clause_128 hs7.k89 ⟨fun _ => ?_, fun z => absurd rfl z⟩
      refine r_sumD hx hn ht 6 0 80 rfl (by omega) S7 _ _ _ hs7 W7 (by omega) ⟨fun j ej S8 c f8 a8 b8 hc => ⟨fun _ => ?_, fun z => ?_⟩, fun w ew S8 f8 W8 => ⟨fun z => absurd W8.2.1 z, fun _ => r_look W8 (fun S9 f9 W9 => ?_)⟩⟩
      · rw [ej] at hro
        have hj : j < 1000 := hro
        have f8' := f7'.tr f8.dm
        exact b_X11_clause_167 (hs.fr f8').k89 ⟨fun _ => r_c184F (hs.fr f8') hx hm (f8'.tm.trans W.2.2.2.1) a8 hj (fun S' f' a' => h0 j (by rw [ej]) S' (f8'.tr f') a'), fun z => absurd rfl z⟩
      · rw [ej] at hro
        have hj : j < 1000 := hro
        rw [a8] at z; exact absurd z (nI_m1 (by omega))
      · rw [ew] at hro
        have hro' : skp t n P < w.2 ∧ w.2 ≤ n ∧ w.1.length + skp t n P ≤ w.2 := hro
        have hq8 := skp_b (t := t) W8.pn.1
        have f9l := f7l.tr (f8.tr f9)
        have f9' := f5.tr f9l.dm
        have hs9 := hs.fr f9'
        simp only [ew] at h0 h1
        refine r_isSign (fun c ec => ⟨fun z => absurd z (by decide), fun _ => ?_⟩) (fun ec => ⟨fun _ => ?_, fun z => absurd rfl z⟩)
        · simp only [ec] at h0 h1
          have ecm : cmpD t n 6 w.1 (skp t n w.2) = cmpD t n 6 w.1 w.2 := by unfold cmpD; rw [skp_id W8.pn.1]
          have hc2 := cmpD_ok hn ht 6 w.1 w.2 W8.pn.1
          refine b_X11_clause_167 hs9.k89 ⟨fun z => absurd z (by decide), fun _ => ?_⟩
          refine r_cmp (D := 79) (k := 6) (us := w.1) (p0 := skp t n P) (by omega) hx (r_sumD hx hn ht 6 0 79 rfl (by omega)) hs9 W9 (by omega) (by omega) ?_
          rw [ecm]
          have hrr : rres x 0 t n S9 (skp t n P) (tks cs) (fst_ (cmpD t n 6 w.1 w.2) (cndO t n (unD t n 6))) (fun S6 => V_X11_clause_184 l G 89 (nI (140 * x + cs.length)) 1 S6 Q) := by
            have hro2 : rok2 n w.2 w.1 (fst_ (cmpD t n 6 w.1 w.2) (cndO t n (unD t n 6))) := hc2.fst (fun ts e _ he => cndO_ok hn (unD_ok hn ht 6) ts e he)
            refine r_c184r (by decide) hs9 hx hm (H5.f f9l) (f9'.tm.trans W.2.2.2.1) (fun j ej => by rw [ej] at hro2; exact hro2) (fun v ev => ?_) (fun j ej S' f' a' => h0 j ej S' (f9'.tr f') a') (fun v ev S' f' W' C' => h1 v ev S' (f9'.tr f') W' C')
            rw [ev] at hro2
            have hro3 : w.2 ≤ v.2 ∧ v.2 ≤ n ∧ v.1.length + w.2 ≤ v.2 + w.1.length := hro2
            rw [List.length_append]; omega
          refine ⟨fun j ej S10 cc f10 a10 b10 hc => ?_, fun v ev S10 f10 W10 => ?_⟩
          · rw [ej] at hc2
            exact r_cndF (D := 79) (by omega) (hs9.fr f10) a10 hc2 (hrr.1 j (by rw [ej]; rfl) S10 cc f10 a10 b10 hc)
          · rw [ev] at hc2
            have hc3 : w.2 ≤ v.2 ∧ v.2 ≤ n ∧ v.1.length + w.2 ≤ v.2 + w.1.length := hc2
            have eh : fst_ (cmpD t n 6 w.1 w.2) (cndO t n (unD t n 6)) = cndO t n (unD t n 6) v.1 v.2 := by rw [ev]; rfl
            rw [eh] at hrr
            exact r_cnd (D := 78) hn (by omega) hx (fun D2 hD2 => r_unit hx hn ht 6 0 D2 rfl (by omega)) (unD_ok hn ht 6) (hs9.fr f10) W10 (by omega) (by omega) (hrr.fr f10)
        · simp only [ec] at h0 h1
          refine b_X11_clause_167 hs9.k89 ⟨fun _ => ?_, fun z => absurd rfl z⟩
          exact r_c1840 hs9 hx hm W9 (H5.f f9l) (fun S' f' W' C' => h1 _ rfl S' (f9'.tr f') (by rw [tks_snoc]; exact W') C')
    · rw [if_neg z2] at h0
      refine r_bad W3 (fun S4 f4 a4 b4 => ?_)
      have f4' := (f2.tr f3).tr f4
      exact r_c71F (hs.fr f4') a4 (by omega) (fun S' f' a' => h0 _ rfl S' (f4'.dm.tr f') a')
  · rw [if_neg z] at h0
    refine r_bad W1 (fun S2 f2 a2 b2 => ?_)
    have f2' := f1.tr f2
    exact r_c40F (hs.fr f2') a2 (by omega) (fun S' f' a' => h0 _ rfl S' (f2'.dm.tr f') a')
theorem clsD_lt (hn : n ≤ 240) (ht : ∀ i, i < n → t i < 256) {j : Nat} (hp : p ≤ n) (e : clsD t n p = .inl j) : j < 1000 := by
  have hq := skp_b (t := t) hp
  unfold clsD at e
  split at e
  · rename_i z1
    have l1 := ((cr_is ht (k := 121) (by omega)).mp z1).1
    have hq1 := skp_b (t := t) (n := n) (p := skp t n p + 1) l1
    split at e
    · rename_i z2
      have l2 := ((cr_is ht (k := 58) (by omega)).mp z2).1
      have key : ∀ r : lrs, (∀ j, r = .inl j → j < 1000) → (∀ v, r = .inr v → v.2 ≤ n) → ans1 t n (fst_ r (fun ts e => cndO t n (unD t n 6) ts e)) = .inl j → j < 1000 := by
        intro r hr hg er
        cases ef : fst_ r (fun ts e => cndO t n (unD t n 6) ts e) with
        | inl i =>
          rw [ef] at er
          have er' : (Sum.inl i : Nat ⊕ (cls × Nat)) = .inl j := er
          have eij : i = j := Sum.inl.inj er'
          subst eij
          cases er2 : r with
          | inl k => rw [er2] at ef; cases ef; exact hr _ er2
          | inr v =>
            rw [er2] at ef
            have := cndO_ok (t := t) hn (unD_ok hn ht 6) v.1 v.2 (hg v er2)
            have ef' : cndO t n (unD t n 6) v.1 v.2 = .inl i := ef
            rw [ef'] at this; exact this
        | inr v =>
          have hv : v.2 ≤ n := by
            obtain ⟨u, e1, e2⟩ := fst_inr ef
            have h2 := cndO_ok (t := t) hn (unD_ok hn ht 6) u.1 u.2 (hg u e1)
            rw [e2] at h2
            exact h2.2.1
          rw [ans1_r ef] at er
          cases ea : ansR t n v.2 with
          | inl i => rw [ea] at er; cases er; exact ansR_lt hn ht hv ea
          | inr s => rw [ea] at er; cases er
      split at e
      · have q := unD_ok hn ht 6 _ l2
        refine key _ (fun i ei => ?_) (fun v ev => ?_) e
        · have ei' : unD t n 6 (skp t n (skp t n p + 1)).succ = .inl i := ei
          rw [ei'] at q; exact q
        · have ei' : unD t n 6 (skp t n (skp t n p + 1)).succ = .inr v := ev
          rw [ei'] at q; exact q.2.1
      · have q := sumD_ok hn ht 6 _ l2
        cases es : sumD t n 6 (skp t n (skp t n p + 1) + 1) with
        | inl i =>
          simp only [es] at e; cases e
          have es' : sumD t n 6 (skp t n (skp t n p + 1)).succ = .inl j := es
          rw [es'] at q; exact q
        | inr v =>
          simp only [es] at e
          have es' : sumD t n 6 (skp t n (skp t n p + 1)).succ = .inr v := es
          rw [es'] at q
          have q2 : v.2 ≤ n := q.2.1
          cases ek : kdC (cr t n (skp t n v.2)) with
          | none => simp only [ek] at e; cases e
          | some c =>
            simp only [ek] at e
            have q3 := cmpD_ok hn ht 6 v.1 v.2 q2
            refine key _ (fun i ei => ?_) (fun u eu => ?_) e
            · rw [ei] at q3; exact q3
            · rw [eu] at q3; exact q3.2.1
    · cases e; omega
  · cases e; omega
end RJ
