/-! the class reads a law: clauses -/
/-- the steps of a clause before which b steps stand -/
def enC (b : Nat) (c : cls) : List Int32 := if c.1.length = 0 then c.2.map enc ++ [nI 262144] else c.1.map enc ++ [nI (196608 + (b + c.1.length + c.2.length + 2))] ++ c.2.map enc ++ [nI 262144]
def enA : List Int32 → List cls → List Int32
  | ss, [] => ss
  | ss, c :: cs => enA (ss ++ enC ss.length c) cs
theorem enA_snoc (c : cls) : ∀ (cs : List cls) (ss : List Int32), enA ss (cs ++ [c]) = enA ss cs ++ enC (enA ss cs).length c
  | [], ss => rfl
  | _ :: cs, ss => enA_snoc c cs _
theorem gc_ne {D : Nat} {ts : List tok} (h : gc D ts) (hD : D ≤ 32) : ts.length ≠ 0 := by
  intro e
  have e' : ts = [] := List.eq_nil_of_length_eq_zero e
  subst e'
  obtain ⟨_, v, _, r⟩ := h (fun _ => 0) (fun _ _ => by unfold bdv; omega) [] (by simp only [List.length_nil]; omega)
  cases r
theorem en_3 {b : Nat} (hb : b < 65536) : (196608 : Int32) ||| nI b = nI (196608 + b) := en_is (a := 3) (by omega) hb
section LG
variable {l : Launch} {G : mj_G} {L D : Nat} {S : mj_S} {t : Nat → Nat} {n p : Nat} {ss : List Int32} {Q : mj_S → Int32 → Prop}
def ansR (t : Nat → Nat) (n p : Nat) : lrs := if cr t n (skp t n p) = 63 then sumD t n 6 (skp t n p + 1) else .inl (skp t n p)
theorem l_answer (hs : Sh L S) (hT : TBL S) (W : LW S t n p ss) (hl : ss.length + 1 ≤ p) (h0 : ∀ j, ansR t n p = .inl j → ∀ S', fr D20 S S' → m_gi S' 20 2 = nI j → Q S' 0) (h1 : ∀ w, ansR t n p = .inr w → ∀ S', fr D20 S S' → LW S' t n w.2 (ss ++ [nI (196608 + (ss.length + w.1.length + 2))] ++ w.1.map enc ++ [nI 262144]) → Q S' 1) : M_X1_readAnswer l G 20 S Q := by
  have hpn := W.pn
  have hq := skp_b (t := t) hpn.1
  unfold ansR at h0 h1
  refine e_X1_readAnswer (b_X1_readAnswer_0 hs.k20 (s_take (c := 63) hs W (by omega) (fun z hlt S1 e1 W1 => ⟨fun _ v3 e3 => ?_, fun z => absurd z (by decide)⟩) (fun z S1 e1 W1 => ⟨fun z => absurd rfl z, fun _ => ?_⟩)))
  · rw [if_pos (show cr t n (skp t n p) = 63 from z)] at h0 h1
    have f1 : fr D20 S S1 := by rw [e1]; exact fr.si rfl
    rw [W1.2.1] at e3
    refine s_write (a := 3) (b := 0) (hs.fr f1) W1 (by omega) (by omega) (by omega) (fun S4 f4 W4 => ?_)
    have f4' := f1.tr f4
    have hro := sumD_ok hpn.2 W.1.tw 6 (skp t n p + 1) hlt
    refine l_sumD hpn.2 W.1.tw 6 0 80 rfl (by omega) S4 _ _ _ (hs.fr f4') (hT.f20 f4') W4 (by rw [List.length_append, List.length_singleton]; omega) ⟨fun j ej S5 f5 a5 => ⟨fun z => absurd rfl z, fun _ => h0 j ej S5 (f4'.tr f5) a5⟩, fun w ew S5 f5 W5 => ⟨fun _ => ?_, fun z => absurd z (by decide)⟩⟩
    rw [ew] at hro
    have hro' : skp t n p + 1 < w.2 ∧ w.2 ≤ n ∧ w.1.length + (skp t n p + 1) ≤ w.2 := hro
    have f5' := f4'.tr f5
    refine s_write (a := 4) (b := 0) (hs.fr f5') W5 (by rw [List.length_append, List.length_append, List.length_singleton, List.length_map]; omega) (by omega) (by omega) (fun S7 f7 W7 => ?_)
    have f7' := f5'.tr f7
    have hs7 := hs.fr f7'
    rw [e3]
    refine ⟨fun z => absurd z (nI_ge (b := 240) (by omega) (by omega)), fun _ => ⟨22, hs7.p20_3, by rw [hs7.l22]; exact vp_nI (by omega) (by omega), fun S9 e9 => ?_⟩⟩
    rw [nI_clamp (by omega), W7.2.1, en_3 (by simp only [List.length_append, List.length_singleton, List.length_map]; omega)] at e9
    refine h1 w ew S9 (f7'.tr (by rw [e9]; exact fr.si rfl)) ?_
    have el : ss ++ [nI (196608 + (ss.length + w.1.length + 2))] ++ w.1.map enc ++ [nI 262144] = (ss ++ [nI (3 * 65536 + 0)] ++ w.1.map enc ++ [nI (4 * 65536 + 0)]).set ss.length (nI (196608 + (ss ++ [nI (3 * 65536 + 0)] ++ w.1.map enc ++ [nI (4 * 65536 + 0)]).length)) := by
      rw [show (ss ++ [nI (3 * 65536 + 0)] ++ w.1.map enc ++ [nI (4 * 65536 + 0)]).length = ss.length + w.1.length + 2 by simp only [List.length_append, List.length_singleton, List.length_map]; omega]
      simp [List.append_assoc]
    rw [el]
    refine ⟨W7.1.fz (by rw [e9]; rfl) (by rw [e9]; rfl) (fun j hj => by rw [e9, m_gi_si, if_neg (by omega)]) (fun j => by rw [e9, m_gi_si, if_neg (by omega)]), ?_, fun i hi => ?_⟩
    · rw [e9, m_gi_si, if_neg (by omega), W7.2.1, List.length_set]
    · rw [List.length_set] at hi
      rw [e9, m_gi_si, List.getElem_set]
      by_cases e : i = ss.length
      · rw [if_pos ⟨rfl, e⟩, if_pos e.symm]
      · rw [if_neg (fun z => e z.2), if_neg (fun z => e z.symm)]
        exact W7.2.2 i hi
  · rw [if_neg (show ¬ cr t n (skp t n p) = 63 from z)] at h0
    exact h0 _ rfl S1 (by rw [e1]; exact fr.si rfl) W1.1.at_
theorem ans1_l {r : lrs} {j : Nat} (e : r = .inl j) : ans1 t n r = .inl j := by rw [e]; rfl
theorem ans1_r {r : lrs} {w : List tok × Nat} (e : r = .inr w) : ans1 t n r = match ansR t n w.2 with
    | .inl j => .inl j
    | .inr v => .inr ((w.1, v.1), v.2) := by
  rw [e]
  show ansD t n w.1 w.2 = _
  unfold ansD ansR
  by_cases z : cr t n (skp t n w.2) = 63
  · rw [if_pos z, if_pos z]
    cases sumD t n 6 (skp t n w.2 + 1) <;> rfl
  · rw [if_neg z, if_neg z]
theorem l_c69 {x2 : Int32} {r : lrs} (hn : n ≤ 240) (ht : ∀ i, i < n → t i < 256) (hs : Sh L S) (hT : TBL S) (hu : ∀ Q, cres t n S ss r Q → M_X1_readUnit l G 78 20 (nI 0) x2 S Q) (hr : ∀ w, r = .inr w → ss.length + 1 + w.1.length ≤ w.2 ∧ w.2 ≤ n) (hg : ∀ w, r = .inr w → gc 16 w.1) (h0 : ∀ j, ans1 t n (fst_ r (cndO t n (unD t n 6))) = .inl j → ∀ S', fr D20 S S' → m_gi S' 20 2 = nI j → Q S' 0) (h1 : ∀ w, ans1 t n (fst_ r (cndO t n (unD t n 6))) = .inr w → ∀ S', fr D20 S S' → LW S' t n w.2 (ss ++ enC ss.length w.1) → Q S' 1) : V_X1_readClause_69 l G 20 x2 S Q := by
  refine b_X1_readClause_69 hs.k20 (l_cond (D := 78) hn (by omega) (l_unit hn ht 6 0 78 rfl (by omega)) (unD_ok hn ht 6) hs hT hu (fun w e => by have := hr w e; omega) ⟨fun j ej S1 f1 a1 => ⟨fun _ => h0 j (ans1_l ej) S1 f1 a1, fun z => absurd rfl z⟩, fun w ew S1 f1 W1 => ⟨fun z => absurd z (by decide), fun _ => ?_⟩⟩)
  have hb : ss.length + 1 + w.1.length ≤ w.2 ∧ w.2 ≤ n := by
    have q : lbd n (0 :: ss) (fst_ r (cndO t n (unD t n 6))) := lbd.fst (fun w e => hr w e) (fun ts e he => cndO_ok hn (unD_ok hn ht 6) ts e he)
    exact q w ew
  have hne : w.1.length ≠ 0 := by
    obtain ⟨v, e1, e2⟩ := fst_inr ew
    exact gc_ne (cndO_gc (unD_gc 6) (hg v e1) e2) (by omega)
  have er := ans1_r (t := t) (n := n) ew
  refine l_answer (hs.fr f1) (hT.f20 f1) W1 (by rw [List.length_append, List.length_map]; omega) (fun j ej S' f' a' => ⟨fun _ => h0 j (by rw [er, ej]) S' (f1.tr f') a', fun z => absurd rfl z⟩) (fun v ev S' f' W' => ⟨fun z => absurd z (by decide), fun _ => h1 ((w.1, v.1), v.2) (by rw [er, ev]) S' (f1.tr f') ?_⟩)
  unfold enC
  rw [if_neg hne]
  rw [List.length_append, List.length_map] at W'
  simp only [List.append_assoc] at W' ⊢
  exact W'
theorem l_clause (hs : Sh L S) (hT : TBL S) (W : LW S t n p ss) (hl : ss.length ≤ p) (h0 : ∀ j, clsD t n p = .inl j → ∀ S', fr D20 S S' → m_gi S' 20 2 = nI j → Q S' 0) (h1 : ∀ w, clsD t n p = .inr w → ∀ S', fr D20 S S' → LW S' t n w.2 (ss ++ enC ss.length w.1) → Q S' 1) : M_X1_readClause l G 20 S Q := by
  have hpn := W.pn
  have hn := hpn.2
  have ht := W.1.tw
  unfold clsD at h0 h1
  refine e_X1_readClause (b_X1_readClause_0 hs.k20 (s_take (c := 121) hs W (by omega) (fun z hlt S1 e1 W1 => ⟨fun z => absurd z (by decide), fun _ => ?_⟩) (fun z S1 e1 W1 => ⟨fun _ => ?_, fun z => absurd rfl z⟩)))
  · have hq := skp_b (t := t) hpn.1
    rw [if_pos (show cr t n (skp t n p) = 121 from z)] at h0 h1
    have f1 : fr D20 S S1 := by rw [e1]; exact fr.si rfl
    refine s_take (c := 58) (hs.fr f1) W1 (by omega) (fun z2 hlt2 S2 e2 W2 => ⟨fun _ => ?_, fun z => absurd z (by decide)⟩) (fun z2 S2 e2 W2 => ⟨fun z => absurd rfl z, fun _ => ?_⟩)
    · rw [if_pos (show cr t n (skp t n (skp t n p + 1)) = 58 from z2)] at h0 h1
      have hq1 := skp_b (t := t) W1.pn.1
      have f2 : fr D20 S S2 := f1.tr (by rw [e2]; exact fr.si rfl)
      have hq2 := skp_b (t := t) W2.pn.1
      generalize hP : skp t n (skp t n p + 1) + 1 = P at *
      refine s_peek W2.1 (fun S3 e3 T3 => ?_)
      have f3 : fr D20 S S3 := f2.tr (by rw [e3]; exact fr.si rfl)
      have hs3 := hs.fr f3
      have hT3 := hT.f20 f3
      have W3 : LW S3 t n (skp t n P) ss := by rw [e3]; exact W2.mv hq2.2
      have W3' : LW S3 t n (skp t n P) (ss ++ ([] : List tok).map enc) := by rw [List.map_nil, List.append_nil]; exact W3
      have hcd : cr t n (skp t n P) = 33 ∨ cr t n (skp t n P) = 40 → V_X1_readClause_69 l G 20 0 S3 Q := by
        intro z3
        rw [if_pos z3] at h0 h1
        have eu : unD t n 6 (skp t n P) = unD t n 6 P := by
          show (if cr t n (skp t n (skp t n P)) = 33 then fst_ (unD t n 5 (skp t n (skp t n P) + 1)) (fun ts e => .inr (ts ++ [(9, 0)], e)) else if cr t n (skp t n (skp t n P)) = 40 then cld t n 41 (fst_ (unD t n 5 (skp t n (skp t n P) + 1)) (fun ts e => cndO t n (unD t n 5) ts e)) else fst_ (sumD t n 6 (skp t n P)) (fun ts e => cmpD t n 6 ts e)) = (if cr t n (skp t n P) = 33 then fst_ (unD t n 5 (skp t n P + 1)) (fun ts e => .inr (ts ++ [(9, 0)], e)) else if cr t n (skp t n P) = 40 then cld t n 41 (fst_ (unD t n 5 (skp t n P + 1)) (fun ts e => cndO t n (unD t n 5) ts e)) else fst_ (sumD t n 6 P) (fun ts e => cmpD t n 6 ts e))
          rw [skp_id W2.pn.1, sumD_sk W2.pn.1]
        refine l_c69 (r := unD t n 6 P) hn ht hs3 hT3 (fun Q' hQ' => l_unit hn ht 6 0 78 rfl (by omega) S3 _ ss Q' hs3 hT3 W3 (by omega) (by rw [eu]; exact hQ')) (fun w ew => ?_) (fun w ew => (unD_gc 6 _ _ ew).wd (by omega)) (fun j ej S' f' a' => h0 j ej S' (f3.tr f') a') (fun w ew S' f' W' => h1 w ew S' (f3.tr f') W')
        have q := unD_ok hn ht 6 P W2.pn.1
        rw [ew] at q
        have q' : P < w.2 ∧ w.2 ≤ n ∧ w.1.length + P ≤ w.2 := q
        omega
      refine ⟨fun z3 => hcd (Or.inl z3), fun z3 => ⟨fun z4 => hcd (Or.inr z4), fun z4 => ?_⟩⟩
      rw [if_neg (fun y => y.elim z3 z4), ← sumD_sk W2.pn.1] at h0 h1
      have hro := sumD_ok hn ht 6 (skp t n P) hq2.2
      refine l_sumD hn ht 6 0 80 rfl (by omega) S3 _ ss _ hs3 hT3 W3 (by omega) ⟨fun j ej S4 f4 a4 => ⟨fun z => absurd rfl z, fun _ => h0 j (by rw [ej]) S4 (f3.tr f4) a4⟩, fun w ew S4 f4 W4 => ⟨fun _ => s_peek W4.1 (fun S5 e5 T5 => ?_), fun z => absurd z (by decide)⟩⟩
      rw [ew] at hro
      have hro' : skp t n P < w.2 ∧ w.2 ≤ n ∧ w.1.length + skp t n P ≤ w.2 := hro
      have hq4 := skp_b (t := t) W4.pn.1
      have f4' := f3.tr f4
      have f5 : fr D20 S S5 := f4'.tr (by rw [e5]; exact fr.si rfl)
      have W5 : LW S5 t n (skp t n w.2) (ss ++ w.1.map enc) := by rw [e5]; exact W4.mv hq4.2
      simp only [ew] at h0 h1
      refine l_isc (fun c ec => ⟨fun _ => ?_, fun z => absurd z (by decide)⟩) (fun ec => ⟨fun z => absurd rfl z, fun _ => ?_⟩)
      · simp only [ec] at h0 h1
        have ecm : cmpD t n 6 w.1 (skp t n w.2) = cmpD t n 6 w.1 w.2 := by unfold cmpD; rw [skp_id W4.pn.1]
        refine l_c69 (r := cmpD t n 6 w.1 w.2) hn ht (hs.fr f5) (hT.f20 f5) (fun Q' hQ' => ?_) (fun v ev => ?_) (fun v ev => cmpD_gc ((sumD_gs 6 _ _ ew).wd (by omega)) ev) (fun j ej S' f' a' => h0 j ej S' (f5.tr f') a') (fun v ev S' f' W' => h1 v ev S' (f5.tr f') W')
        · refine e_X1_readUnit (D := 77) (b_X1_readUnit_0 (by omega) (hs.fr f5).k20 ⟨fun z => absurd z (by decide), fun _ => ?_⟩)
          exact l_cmp (D := 76) (by omega) (l_sumD hn ht 6 0 76 rfl (by omega)) (hs.fr f5) (hT.f20 f5) W5 (by omega) (by rw [ecm]; exact hQ')
        · have q := cmpD_ok hn ht 6 w.1 w.2 W4.pn.1
          rw [ev] at q
          have q' : w.2 ≤ v.2 ∧ v.2 ≤ n ∧ v.1.length + w.2 ≤ v.2 + w.1.length := q
          omega
      · simp only [ec] at h0 h1
        refine s_write (a := 4) (b := 0) (hs.fr f5) W5 (by rw [List.length_append, List.length_map]; omega) (by omega) (by omega) (fun S6 f6 W6 => h1 _ rfl S6 (f5.tr f6) ?_)
        show LW S6 t n (skp t n w.2) (ss ++ enC ss.length ([], w.1))
        unfold enC
        rw [if_pos (show (([], w.1) : cls).1.length = 0 from rfl), ← List.append_assoc]
        exact W6
    · rw [if_neg (show ¬ cr t n (skp t n (skp t n p + 1)) = 58 from z2)] at h0
      exact h0 _ rfl S2 (f1.tr (by rw [e2]; exact fr.si rfl)) W2.1.at_
  · rw [if_neg (show ¬ cr t n (skp t n p) = 121 from z)] at h0
    exact h0 _ rfl S1 (by rw [e1]; exact fr.si rfl) W1.1.at_
/-- steps are no more than signs -/
theorem clsD_ok (hn : n ≤ 240) (ht : ∀ i, i < n → t i < 256) (b : Nat) {w : cls × Nat} (hp : p ≤ n) (e : clsD t n p = .inr w) : p + 2 < w.2 ∧ w.2 ≤ n ∧ (enC b w.1).length + p ≤ w.2 := by
  have hq := skp_b (t := t) hp
  unfold clsD at e
  split at e
  · rename_i z1
    have l1 := ((cr_is ht (k := 121) (by omega)).mp z1).1
    have hq1 := skp_b (t := t) (n := n) (p := skp t n p + 1) l1
    split at e
    · rename_i z2
      have l2 := ((cr_is ht (k := 58) (by omega)).mp z2).1
      have key : ∀ r : lrs, (∀ v, r = .inr v → v.1.length + (skp t n (skp t n p + 1) + 1) ≤ v.2 ∧ v.2 ≤ n) → (∀ v, r = .inr v → gc 16 v.1) → ans1 t n (fst_ r (fun ts e => cndO t n (unD t n 6) ts e)) = .inr w → p + 2 < w.2 ∧ w.2 ≤ n ∧ (enC b w.1).length + p ≤ w.2 := by
        intro r hr hg er
        cases ef : fst_ r (fun ts e => cndO t n (unD t n 6) ts e) with
        | inl j => rw [ef] at er; cases er
        | inr v =>
          have hv : v.1.length + (skp t n (skp t n p + 1) + 1) ≤ v.2 ∧ v.2 ≤ n := by
            obtain ⟨u, e1, e2⟩ := fst_inr ef
            have h1 := hr u e1
            have h2 := cndO_ok (t := t) hn (unD_ok hn ht 6) u.1 u.2 h1.2
            rw [e2] at h2
            have q' : u.2 ≤ v.2 ∧ v.2 ≤ n ∧ v.1.length + u.2 ≤ v.2 + u.1.length := h2
            omega
          have hne : v.1.length ≠ 0 := by
            obtain ⟨u, e1, e2⟩ := fst_inr ef
            exact gc_ne (cndO_gc (unD_gc 6) (hg u e1) e2) (by omega)
          rw [ans1_r ef] at er
          have hqv := skp_b (t := t) hv.2
          cases ea : ansR t n v.2 with
          | inl j => rw [ea] at er; cases er
          | inr s =>
            rw [ea] at er
            cases er
            unfold ansR at ea
            split at ea
            · rename_i z3
              have l3 := ((cr_is ht (k := 63) (by omega)).mp z3).1
              have q := sumD_ok hn ht 6 _ l3
              rw [ea] at q
              have q' : skp t n v.2 + 1 < s.2 ∧ s.2 ≤ n ∧ s.1.length + (skp t n v.2 + 1) ≤ s.2 := q
              refine ⟨by show p + 2 < s.2; omega, q'.2.1, ?_⟩
              show (enC b (v.1, s.1)).length + p ≤ s.2
              unfold enC
              rw [if_neg hne]
              simp only [List.length_append, List.length_singleton, List.length_map]
              omega
            · cases ea
      split at e
      · refine key _ (fun v ev => ?_) (fun v ev => (unD_gc 6 _ _ ev).wd (by omega)) e
        have q := unD_ok hn ht 6 _ l2
        rw [ev] at q
        have q' : skp t n (skp t n p + 1) + 1 < v.2 ∧ v.2 ≤ n ∧ v.1.length + (skp t n (skp t n p + 1) + 1) ≤ v.2 := q
        omega
      · cases es : sumD t n 6 (skp t n (skp t n p + 1) + 1) with
        | inl j => simp only [es] at e; cases e
        | inr v =>
          simp only [es] at e
          have q := sumD_ok hn ht 6 _ l2
          rw [es] at q
          have q' : skp t n (skp t n p + 1) + 1 < v.2 ∧ v.2 ≤ n ∧ v.1.length + (skp t n (skp t n p + 1) + 1) ≤ v.2 := q
          have hqv := skp_b (t := t) q'.2.1
          cases ek : kdC (cr t n (skp t n v.2)) with
          | none =>
            simp only [ek] at e
            cases e
            refine ⟨by show p + 2 < skp t n v.2; omega, hqv.2, ?_⟩
            show (enC b ([], v.1)).length + p ≤ skp t n v.2
            unfold enC
            rw [if_pos (show (([], v.1) : cls).1.length = 0 from rfl)]
            simp only [List.length_append, List.length_singleton, List.length_map]
            omega
          | some c =>
            simp only [ek] at e
            refine key _ (fun u eu => ?_) (fun u eu => cmpD_gc ((sumD_gs 6 _ _ es).wd (by omega)) eu) e
            have q2 := cmpD_ok hn ht 6 v.1 v.2 q'.2.1
            rw [eu] at q2
            have q2' : v.2 ≤ u.2 ∧ u.2 ≤ n ∧ u.1.length + v.2 ≤ u.2 + v.1.length := q2
            omega
    · cases e
  · cases e
theorem l_readV : ∀ (g i : Nat) (cs : List cls) (p : Nat) (S : mj_S), g + i = 240 → Sh L S → TBL S → LW S t n p (enA [] cs) → (enA [] cs).length ≤ p → (∀ j, lawD t n g cs p = .inl j → ∀ S', fr D20 S S' → Q S' (nI j)) → (∀ ds, lawD t n g cs p = .inr ds → ∀ S', fr D20 S S' → ∀ e, LW S' t n e (enA [] ds) → (enA [] ds).length ≤ e → Q S' (-1)) → V_X1_read_13 l G 20 (nI i) S Q
  | 0, i, cs, p, S, hg, hs, hT, W, hl, h0, h1 => by
    refine b_X1_read_13 hs.k20 ⟨fun _ => ?_, fun z => absurd (nI_le (a := 240) (by omega) (by omega)) z⟩
    rw [W.1.at_]
    exact h0 p rfl S fr.rf
  | g + 1, i, cs, p, S, hg, hs, hT, W, hl, h0, h1 => by
    have hpn := W.pn
    have h0' : ∀ j, (match clsD t n p with
      | .inl j => (.inl j : Nat ⊕ List cls)
      | .inr w => if n ≤ skp t n w.2 then .inr (cs ++ [w.1]) else if t (skp t n w.2) = 59 then lawD t n g (cs ++ [w.1]) (skp t n w.2 + 1) else .inl (skp t n w.2)) = .inl j → ∀ S', fr D20 S S' → Q S' (nI j) := h0
    have h1' : ∀ ds, (match clsD t n p with
      | .inl j => (.inl j : Nat ⊕ List cls)
      | .inr w => if n ≤ skp t n w.2 then .inr (cs ++ [w.1]) else if t (skp t n w.2) = 59 then lawD t n g (cs ++ [w.1]) (skp t n w.2 + 1) else .inl (skp t n w.2)) = .inr ds → ∀ S', fr D20 S S' → ∀ e, LW S' t n e (enA [] ds) → (enA [] ds).length ≤ e → Q S' (-1) := h1
    refine b_X1_read_13 hs.k20 ⟨fun z => absurd z (nI_ge (b := 240) (by omega) (by omega)), fun _ => l_clause hs hT W hl (fun j ej S1 f1 a1 => ⟨fun z => absurd rfl z, fun _ => ?_⟩) (fun w ew S1 f1 W1 => ⟨fun _ => s_peek W1.1 (fun S2 e2 T2 => ?_), fun z => absurd z (by decide)⟩)⟩
    · rw [ej] at h0'
      rw [a1]
      exact h0' j rfl S1 f1
    · simp only [ew] at h0' h1'
      have hok := clsD_ok hpn.2 W.1.tw (enA [] cs).length hpn.1 ew
      have hq := skp_b (t := t) W1.pn.1
      have f2 : fr D20 S S2 := f1.tr (by rw [e2]; exact fr.si rfl)
      rw [← enA_snoc] at W1
      have hl1 : (enA [] (cs ++ [w.1])).length ≤ w.2 := by rw [enA_snoc, List.length_append]; omega
      have W2 : LW S2 t n (skp t n w.2) (enA [] (cs ++ [w.1])) := by rw [e2]; exact W1.mv hq.2
      refine ⟨fun z => ?_, fun z => ?_⟩
      · have hlt : ¬ n ≤ skp t n w.2 := fun y => z ((cr_m1 W.1.tw).mpr y)
        rw [if_neg hlt] at h0' h1'
        refine s_take (c := 59) (hs.fr f2) W2 (by omega) (fun z2 hlt2 S3 e3 W3 => ⟨fun _ v7 e7 => ?_, fun z => absurd z (by decide)⟩) (fun z2 S3 e3 W3 => ⟨fun z => absurd rfl z, fun _ => ?_⟩)
        · rw [skp_id W1.pn.1] at z2 W3
          have z3 := ((cr_is W.1.tw (k := 59) (by omega)).mp z2).2
          rw [if_pos z3] at h0' h1'
          have f3 : fr D20 S S3 := f2.tr (by rw [e3]; exact fr.si rfl)
          rw [e7, nI_1]
          exact l_readV g (i + 1) _ _ S3 (by omega) (hs.fr f3) (hT.f20 f3) W3 (by omega) (fun j ej S' f' => h0' j ej S' (f3.tr f')) (fun ds eds S' f' => h1' ds eds S' (f3.tr f'))
        · rw [skp_id W1.pn.1] at z2 W3
          have f3 : fr D20 S S3 := f2.tr (by rw [e3]; exact fr.si rfl)
          have z3 : ¬ t (skp t n w.2) = 59 := fun y => z2 ((cr_is W.1.tw (k := 59) (by omega)).mpr ⟨by omega, y⟩)
          rw [if_neg z3] at h0'
          rw [W3.1.at_]
          exact h0' _ rfl S3 f3
      · rw [if_pos ((cr_m1 W.1.tw).mp z)] at h1'
        exact h1' _ rfl S2 f2 _ W2 (by omega)
end LG
