/-! the class reads a law: sums and conditions -/
theorem kdC_s {x : Int32} {c : Nat} (h : kdC x = some c) : x = nI (sgn c) ∧ sgn c < 256 := by
  unfold kdC at h
  split at h
  · rename_i e; cases h; exact ⟨e, by decide⟩
  · split at h
    · rename_i e; cases h; exact ⟨e, by decide⟩
    · split at h
      · rename_i e; cases h; exact ⟨e, by decide⟩
      · cases h
theorem fst_fst (r : lrs) (f g : List tok → Nat → lrs) : fst_ r (fun ts e => fst_ (f ts e) g) = fst_ (fst_ r f) g := by
  cases r <;> rfl
section LF
variable {l : Launch} {G : mj_G} {L D : Nat} {S : mj_S} {t : Nat → Nat} {n p : Nat} {ss : List Int32} {Q : mj_S → Int32 → Prop}
theorem pat_sk {sm : Option (Nat → lrs)} (hp : p ≤ n) : pat t n sm (skp t n p) = pat t n sm p := by
  unfold pat; rw [skp_id hp]
theorem sumD_sk (hp : p ≤ n) : ∀ k, sumD t n k (skp t n p) = sumD t n k p
  | 0 => by show psm t n none (skp t n p) = psm t n none p; unfold psm ptm; rw [pat_sk hp]
  | k + 1 => by show psm t n (some (sumD t n k)) (skp t n p) = psm t n (some (sumD t n k)) p; unfold psm ptm; rw [pat_sk hp]
theorem cres.b {r : lrs} (h : cres t n S ss r Q) : cres t n S ss r (fun S5 r6 => ((r6 = 0) → Q S5 (0 : Int32)) ∧ ((¬ (r6 = 0)) → Q S5 (1 : Int32))) :=
  ⟨fun j e S' f a => ⟨fun _ => h.1 j e S' f a, fun z => absurd rfl z⟩, fun w e S' f a => ⟨fun z => absurd z (by decide), fun _ => h.2 w e S' f a⟩⟩
theorem cresK {r : lrs} {k : List tok → Nat → lrs} {Q2 : mj_S → Int32 → Prop} (h : cres t n S ss (fst_ r k) Q) (h0 : ∀ S', Q S' 0 → Q2 S' 0) (h1 : ∀ w, r = .inr w → ∀ S', fr D20 S S' → LW S' t n w.2 (ss ++ w.1.map enc) → cres t n S' ss (k w.1 w.2) Q → Q2 S' 1) : cres t n S ss r Q2 := by
  refine ⟨fun j e S' f a => h0 S' (h.1 j ?_ S' f a), fun w e S' f W => h1 w e S' f W ?_⟩
  · rw [e]; rfl
  · rw [e] at h; exact cres.fr (r := k w.1 w.2) h f
theorem l_term {d : Nat} {sm : Option (Nat → lrs)} (hD : 8 ≤ D) (hb : CRD L t n (pat t n sm) (M_X1_readAtom l G D 20 (nI d))) (hrk : ∀ q, q ≤ n → rok n q (pat t n sm q)) : CRD L t n (ptm t n sm) (M_X1_readTerm l G (D + 1) 20 (nI d)) := by
  intro S p ss Q hs hT W hl h
  have hro := hrk p W.pn.1
  refine e_X1_readTerm (b_X1_readTerm_0 hD hs.k20 (hb S p ss _ hs hT W hl (cresK h (fun S' q => ⟨fun z => absurd rfl z, fun _ => q⟩) (fun w ew S1 f1 W1 h1 => ?_))))
  rw [ew] at hro
  have hro' : p < w.2 ∧ w.2 ≤ n ∧ w.1.length + p ≤ w.2 := hro
  refine ⟨fun _ => ?_, fun z => absurd z (by decide)⟩
  exact l_lp (kd := kdT) (c1 := 42) (c2 := 47) (e1 := 4) (e2 := 5) (MB := M_X1_readAtom l G D 20 (nI d)) (V := fun x S => V_X1_readTerm_12 l G D 20 (nI d) x S Q) (Z := fun x r S => V_X1_readTerm_39 l G D 20 (nI d) x r S Q) (fun x => rfl) rfl ⟨rfl, by decide⟩ ⟨rfl, by decide⟩ hrk hb (fun x S hk hh => b_X1_readTerm_12 hD hk hh) (fun x r S hk hh => b_X1_readTerm_39 hD hk hh) 240 0 w.1 w.2 S1 rfl (by omega) (hs.fr f1) (hT.f20 f1) W1 (by omega) h1
theorem l_sumS {d : Nat} {sm : Option (Nat → lrs)} (hD : 8 ≤ D) (hb : CRD L t n (ptm t n sm) (M_X1_readTerm l G D 20 (nI d))) (hrk : ∀ q, q ≤ n → rok n q (ptm t n sm q)) : CRD L t n (psm t n sm) (M_X1_readSum l G (D + 1) 20 (nI d)) := by
  intro S p ss Q hs hT W hl h
  have hro := hrk p W.pn.1
  refine e_X1_readSum (b_X1_readSum_0 hD hs.k20 (hb S p ss _ hs hT W hl (cresK h (fun S' q => ⟨fun z => absurd rfl z, fun _ => q⟩) (fun w ew S1 f1 W1 h1 => ?_))))
  rw [ew] at hro
  have hro' : p < w.2 ∧ w.2 ≤ n ∧ w.1.length + p ≤ w.2 := hro
  refine ⟨fun _ => ?_, fun z => absurd z (by decide)⟩
  exact l_lp (kd := kdS) (c1 := 43) (c2 := 45) (e1 := 2) (e2 := 3) (MB := M_X1_readTerm l G D 20 (nI d)) (V := fun x S => V_X1_readSum_12 l G D 20 (nI d) x S Q) (Z := fun x r S => V_X1_readSum_39 l G D 20 (nI d) x r S Q) (fun x => rfl) rfl ⟨rfl, by decide⟩ ⟨rfl, by decide⟩ hrk hb (fun x S hk hh => b_X1_readSum_12 hD hk hh) (fun x r S hk hh => b_X1_readSum_39 hD hk hh) 240 0 w.1 w.2 S1 rfl (by omega) (hs.fr f1) (hT.f20 f1) W1 (by omega) h1
theorem l_sumD (hn : n ≤ 240) (ht : ∀ i, i < n → t i < 256) : ∀ (k d D : Nat), k + d = 6 → 11 + 3 * k ≤ D → CRD L t n (sumD t n k) (M_X1_readSum l G D 20 (nI d))
  | 0, d, D, hd, hD => by
    obtain ⟨D', rfl⟩ : ∃ D', D = D' + 3 := ⟨D - 3, by omega⟩
    exact l_sumS (by omega) (l_term (by omega) (l_atom (sm := none) (by omega) (by omega) (fun _ => by omega) (fun f e => by cases e) (fun f e => by cases e)) (pat_ok hn ht (fun f e => by cases e))) (ptm_ok hn ht (fun f e => by cases e))
  | k + 1, d, D, hd, hD => by
    obtain ⟨D', rfl⟩ : ∃ D', D = D' + 3 := ⟨D - 3, by omega⟩
    have hok : ∀ f, some (sumD t n k) = some f → ∀ q, q ≤ n → rok n q (f q) := fun f e => by cases e; exact sumD_ok hn ht k
    exact l_sumS (by omega) (l_term (by omega) (l_atom (sm := some (sumD t n k)) (by omega) (by omega) (fun e => by cases e) (fun f e => by cases e; exact ⟨by omega, l_sumD hn ht k (d + 1) D' (by omega) (by omega)⟩) hok) (pat_ok hn ht hok)) (ptm_ok hn ht hok)
theorem l_isc {x : Int32} (h1 : ∀ c, kdC x = some c → Q S 1) (h0 : kdC x = none → Q S 0) : M_X1_isComparison l G x S Q := by
  unfold kdC at h0 h1
  refine e_X1_isComparison (b_X1_isComparison_0 ⟨fun z => h1 6 (by rw [if_pos z]), fun z => ⟨fun z2 => h1 7 (by rw [if_neg z, if_pos z2]), fun z2 => ⟨fun z3 => h0 (by rw [if_neg z, if_neg z2, if_neg z3]), fun z3 => h1 8 (by rw [if_neg z, if_neg z2, if_pos z3])⟩⟩⟩)
theorem l_cmp {k d : Nat} {ts : List tok} (hD : 8 ≤ D) (hb : CRD L t n (sumD t n k) (M_X1_readSum l G D 20 (nI d))) (hs : Sh L S) (hT : TBL S) (W : LW S t n p (ss ++ ts.map enc)) (hl : ss.length + ts.length ≤ p) (h : cres t n S ss (cmpD t n k ts p) Q) : M_X1_readComparison l G (D + 1) 20 (nI d) S Q := by
  have hpn := W.pn
  have hq := skp_b (t := t) hpn.1
  refine e_X1_readComparison (b_X1_readComparison_0 hD hs.k20 (s_peek W.1 (fun S1 e1 T1 => ?_)))
  have f1 : fr D20 S S1 := by rw [e1]; exact fr.si rfl
  have W1 : LW S1 t n (skp t n p) (ss ++ ts.map enc) := by rw [e1]; exact W.mv hq.2
  unfold cmpD at h
  refine l_isc (fun c ec => ⟨fun _ S2 e2 => ?_, fun z => absurd z (by decide)⟩) (fun ec => ⟨fun z => absurd rfl z, fun _ => ?_⟩)
  · rw [ec] at h
    have hlt := cr_pos rfl ec
    have hro := sumD_ok hpn.2 W.1.tw k (skp t n p + 1) hlt
    have f2 : fr D20 S S2 := f1.tr (by rw [e2]; exact fr.si rfl)
    have W2 : LW S2 t n (skp t n p + 1) (ss ++ ts.map enc) := by rw [e2, W1.1.at_, nI_1]; exact W1.mv hlt
    refine hb S2 _ _ _ (hs.fr f2) (hT.f20 f2) W2 (by rw [List.length_append, List.length_map]; omega) ⟨fun j ej S3 f3 a3 => ?_, fun w ew S3 f3 W3 => ?_⟩
    · refine ⟨fun z => absurd rfl z, fun _ => h.1 j ?_ S3 (f2.tr f3) a3⟩
      show fst_ (sumD t n k (skp t n p + 1)) _ = _
      rw [ej]; rfl
    · rw [ew] at hro
      have hro' : skp t n p + 1 < w.2 ∧ w.2 ≤ n ∧ w.1.length + (skp t n p + 1) ≤ w.2 := hro
      refine ⟨fun _ => ?_, fun z => absurd z (by decide)⟩
      rw [(kdC_s ec).1]
      refine s_write (b := 0) (hs.fr (f2.tr f3)) W3 (by rw [List.length_append, List.length_append, List.length_map, List.length_map]; omega) (kdC_s ec).2 (by omega) (fun S4 f4 W4 => ?_)
      rw [enc_app] at W4
      refine h.2 (ts ++ w.1 ++ [(c, 0)], w.2) ?_ S4 ((f2.tr f3).tr f4) W4
      show fst_ (sumD t n k (skp t n p + 1)) _ = _
      rw [ew]; rfl
  · rw [ec] at h
    exact h.1 _ rfl S1 f1 W1.1.at_
/-- a bound on what is read -/
def lbd (n : Nat) (ss : List Int32) (r : lrs) : Prop := ∀ w, r = .inr w → ss.length + w.1.length ≤ w.2 ∧ w.2 ≤ n
theorem lbd.of {r : lrs} (h : rok n p r) (hl : ss.length ≤ p) : lbd n ss r := by
  intro w e
  rw [e] at h
  have h' : p < w.2 ∧ w.2 ≤ n ∧ w.1.length + p ≤ w.2 := h
  omega
theorem lbd.fst {r : lrs} {k : List tok → Nat → lrs} (h : lbd n ss r) (hk : ∀ ts e, e ≤ n → rok2 n e ts (k ts e)) : lbd n ss (fst_ r k) := by
  intro w e
  obtain ⟨v, h1, h2⟩ := fst_inr e
  have h3 := h v h1
  have h4 := hk v.1 v.2 h3.2
  rw [h2] at h4
  have h' : v.2 ≤ w.2 ∧ w.2 ≤ n ∧ w.1.length + v.2 ≤ w.2 + v.1.length := h4
  omega
theorem l_truth {d : Nat} {u : Nat → lrs} {x2 : Int32} {r : lrs} (hn : n ≤ 240) (hD : 8 ≤ D) (hu : CRD L t n u (M_X1_readUnit l G D 20 (nI d) 0)) (hrk : ∀ q, q ≤ n → rok n q (u q)) (hs : Sh L S) (hT : TBL S) (h1 : ∀ Q, cres t n S ss r Q → M_X1_readUnit l G D 20 (nI d) x2 S Q) (hr : lbd n ss r) (h : cres t n S ss (fst_ r (andO t n u)) Q) : M_X1_readTruth l G (D + 1) 20 (nI d) x2 S Q := by
  refine e_X1_readTruth (b_X1_readTruth_0 hD hs.k20 (h1 _ (cresK h (fun S' q => ⟨fun z => absurd rfl z, fun _ => q⟩) (fun w ew S1 f1 W1 h2 => ?_))))
  have hb := hr w ew
  refine ⟨fun _ => ?_, fun z => absurd z (by decide)⟩
  exact l_lt (kd := kdA) (c := 38) (e := 10) (MB := M_X1_readUnit l G D 20 (nI d) 0) (V := fun x S => V_X1_readTruth_13 l G D 20 (nI d) x S Q) (fun x => rfl) rfl ⟨rfl, by decide⟩ hrk hu (fun x S hk hh => b_X1_readTruth_13 hD hk hh) 240 0 w.1 w.2 S1 rfl (by omega) (hs.fr f1) (hT.f20 f1) W1 hb.1 h2
theorem l_cond {d : Nat} {u : Nat → lrs} {x2 : Int32} {r : lrs} (hn : n ≤ 240) (hD : 8 ≤ D) (hu : CRD L t n u (M_X1_readUnit l G D 20 (nI d) 0)) (hrk : ∀ q, q ≤ n → rok n q (u q)) (hs : Sh L S) (hT : TBL S) (h1 : ∀ Q, cres t n S ss r Q → M_X1_readUnit l G D 20 (nI d) x2 S Q) (hr : lbd n ss r) (h : cres t n S ss (fst_ r (cndO t n u)) Q) : M_X1_readCondition l G (D + 2) 20 (nI d) x2 S Q := by
  have e : fst_ r (cndO t n u) = fst_ (fst_ r (andO t n u)) (orsO t n u) := fst_fst r (andO t n u) (orsO t n u)
  rw [e] at h
  have hr2 : lbd n ss (fst_ r (andO t n u)) := hr.fst (fun ts e he => lpp_ok hn rfl hrk 240 ts e he)
  have hu2 : CRD L t n (truO t n u) (M_X1_readTruth l G (D + 1) 20 (nI d) 0) := fun S p ss Q hs hT W hl h => l_truth hn hD hu hrk hs hT (fun Q' h' => hu S p ss Q' hs hT W hl h') (lbd.of (hrk p W.pn.1) hl) h
  refine e_X1_readCondition (b_X1_readCondition_0 (by omega) hs.k20 (l_truth hn hD hu hrk hs hT h1 hr (cresK h (fun S' q => ⟨fun z => absurd rfl z, fun _ => q⟩) (fun w ew S1 f1 W1 h2 => ?_))))
  have hb := hr2 w ew
  refine ⟨fun _ => ?_, fun z => absurd z (by decide)⟩
  exact l_lt (kd := kdO) (c := 124) (e := 11) (MB := M_X1_readTruth l G (D + 1) 20 (nI d) 0) (V := fun x S => V_X1_readCondition_13 l G (D + 1) 20 (nI d) x S Q) (fun x => rfl) rfl ⟨rfl, by decide⟩ (fun q hq => truO_ok hn hrk q hq) hu2 (fun x S hk hh => b_X1_readCondition_13 (by omega) hk hh) 240 0 w.1 w.2 S1 rfl (by omega) (hs.fr f1) (hT.f20 f1) W1 hb.1 h2
theorem l_cld {c : Nat} {r : lrs} (hs : Sh L S) (hc : c < 256) (h : cres t n S ss (cld t n c r) Q) : cres t n S ss r (fun S5 r6 => ((r6 = 0) → Q S5 (0 : Int32)) ∧ ((¬ (r6 = 0)) → M_X1_take l G 20 (nI c) S5 (fun S7 r8 => ((r8 = 0) → Q S7 (0 : Int32)) ∧ ((¬ (r8 = 0)) → Q S7 (1 : Int32))))) := by
  refine ⟨fun j e S3 f3 a3 => ⟨fun _ => h.1 j ?_ S3 f3 a3, fun z => absurd rfl z⟩, fun w ew S3 f3 W3 => ⟨fun z => absurd z (by decide), fun _ => ?_⟩⟩
  · rw [e]; rfl
  · have ee : cld t n c r = if cr t n (skp t n w.2) = nI c then .inr (w.1, skp t n w.2 + 1) else .inl (skp t n w.2) := by rw [ew]; rfl
    rw [ee] at h
    refine s_take (hs.fr f3) W3 hc (fun z3 hlt3 S4 e4 W4 => ?_) (fun z3 S4 e4 W4 => ?_)
    · rw [if_pos z3] at h
      exact ⟨fun z => absurd z (by decide), fun _ => h.2 _ rfl S4 (f3.tr (by rw [e4]; exact fr.si rfl)) W4⟩
    · rw [if_neg z3] at h
      exact ⟨fun _ => h.1 _ rfl S4 (f3.tr (by rw [e4]; exact fr.si rfl)) W4.1.at_, fun z => absurd rfl z⟩
theorem l_leaf {k d : Nat} (hD : 9 ≤ D) (hk : k + d = 6) (hDk : 12 + 3 * k ≤ D) (hs : Sh L S) (hT : TBL S) (W : LW S t n p ss) (hl : ss.length ≤ p) (h : cres t n S ss (fst_ (sumD t n k p) (fun ts e => cmpD t n k ts e)) Q) : M_X1_readSum l G D 20 (nI d) S (fun S3 r4 => ((r4 = 0) → Q S3 (0 : Int32)) ∧ ((¬ (r4 = 0)) → M_X1_readComparison l G D 20 (nI d) S3 (fun S5 r6 => ((r6 = 0) → Q S5 (0 : Int32)) ∧ ((¬ (r6 = 0)) → Q S5 (1 : Int32))))) := by
  have hpn := W.pn
  refine l_sumD hpn.2 W.1.tw k d D hk (by omega) S p ss _ hs hT W hl (cresK h (fun S' q => ⟨fun _ => q, fun z => absurd rfl z⟩) (fun w ew S1 f1 W1 h1 => ⟨fun z => absurd z (by decide), fun _ => ?_⟩))
  obtain ⟨D', rfl⟩ : ∃ D', D = D' + 1 := ⟨D - 1, by omega⟩
  have hb := lbd.of (ss := ss) (sumD_ok hpn.2 W.1.tw k p hpn.1) hl w ew
  exact l_cmp (by omega) (l_sumD hpn.2 W.1.tw k d D' hk (by omega)) (hs.fr f1) (hT.f20 f1) W1 hb.1 h1.b
theorem l_unit (hn : n ≤ 240) (ht : ∀ i, i < n → t i < 256) : ∀ (k d D : Nat), k + d = 6 → 13 + 3 * k ≤ D → CRD L t n (unD t n k) (M_X1_readUnit l G D 20 (nI d) 0)
  | 0, d, D, hd, hD => by
    intro S p ss Q hs hT W hl h
    obtain ⟨D', rfl⟩ : ∃ D', D = D' + 1 := ⟨D - 1, by omega⟩
    have hq := skp_b (t := t) W.pn.1
    refine e_X1_readUnit (b_X1_readUnit_0 (by omega) hs.k20 ⟨fun _ => s_peek W.1 (fun S1 e1 T1 => ?_), fun z => absurd rfl z⟩)
    have f1 : fr D20 S S1 := by rw [e1]; exact fr.si rfl
    have W1 : LW S1 t n (skp t n p) ss := by rw [e1]; exact W.mv hq.2
    have h' : cres t n S ss (if cr t n (skp t n p) = 33 ∨ cr t n (skp t n p) = 40 then .inl (skp t n p) else fst_ (sumD t n 0 p) (fun ts e => cmpD t n 0 ts e)) Q := h
    have hno : cr t n (skp t n p) = 33 ∨ cr t n (skp t n p) = 40 → V_X1_readUnit_49 l G D' 20 (nI d) (cr t n (skp t n p)) S1 Q := by
      intro z
      rw [if_pos z] at h'
      refine b_X1_readUnit_49 (by omega) (hs.fr f1).k20 ⟨fun z => absurd z (nI_nlt (b := 6) (by omega) (by omega)), fun _ => h'.1 _ rfl S1 f1 W1.1.at_⟩
    refine ⟨fun z => hno (Or.inl z), fun z => ⟨fun z2 => hno (Or.inr z2), fun z2 => ?_⟩⟩
    rw [if_neg (fun y => y.elim z z2)] at h'
    rw [← sumD_sk W.pn.1] at h'
    exact l_leaf (k := 0) (by omega) hd (by omega) (hs.fr f1) (hT.f20 f1) W1 (by omega) (h'.fr f1)
  | k + 1, d, D, hd, hD => by
    intro S p ss Q hs hT W hl h
    obtain ⟨D', rfl⟩ : ∃ D', D = D' + 3 := ⟨D - 3, by omega⟩
    have hq := skp_b (t := t) W.pn.1
    refine e_X1_readUnit (b_X1_readUnit_0 (by omega) hs.k20 ⟨fun _ => s_peek W.1 (fun S1 e1 T1 => ?_), fun z => absurd rfl z⟩)
    have f1 : fr D20 S S1 := by rw [e1]; exact fr.si rfl
    have hs1 := hs.fr f1
    have W1 : LW S1 t n (skp t n p) ss := by rw [e1]; exact W.mv hq.2
    have h' : cres t n S ss (if cr t n (skp t n p) = 33 then fst_ (unD t n k (skp t n p + 1)) (fun ts e => .inr (ts ++ [(9, 0)], e)) else if cr t n (skp t n p) = 40 then cld t n 41 (fst_ (unD t n k (skp t n p + 1)) (fun ts e => cndO t n (unD t n k) ts e)) else fst_ (sumD t n (k + 1) p) (fun ts e => cmpD t n (k + 1) ts e)) Q := h
    refine ⟨fun z => ?_, fun z => ⟨fun z2 => ?_, fun z2 => ?_⟩⟩
    · rw [if_pos z] at h'
      have hlt := ((cr_is ht (k := 33) (by omega)).mp z).1
      refine b_X1_readUnit_49 (by omega) hs1.k20 ⟨fun _ S2 e2 => ⟨fun _ => ?_, fun y => absurd (z.symm.trans y) (by decide)⟩, fun y => absurd (nI_lt (a := d) (b := 6) (by omega) (by omega)) y⟩
      have f2 : fr D20 S S2 := f1.tr (by rw [e2]; exact fr.si rfl)
      have W2 : LW S2 t n (skp t n p + 1) ss := by rw [e2, W1.1.at_, nI_1]; exact W1.mv hlt
      rw [nI_1]
      have hro := lbd.of (ss := ss) (unD_ok hn ht k (skp t n p + 1) hlt) (by omega : ss.length + 0 ≤ skp t n p + 1)
      have hro2 := unD_ok hn ht k (skp t n p + 1) hlt
      refine l_unit hn ht k (d + 1) (D' + 2) (by omega) (by omega) S2 _ ss _ (hs.fr f2) (hT.f20 f2) W2 (by omega) (cresK (h'.fr f2) (fun S' q => ⟨fun z => absurd rfl z, fun _ => q⟩) (fun w ew S3 f3 W3 h3 => ⟨fun _ => ?_, fun z => absurd z (by decide)⟩))
      rw [ew] at hro2
      have hro' : skp t n p + 1 < w.2 ∧ w.2 ≤ n ∧ w.1.length + (skp t n p + 1) ≤ w.2 := hro2
      refine s_write (a := 33) (b := 0) (hs.fr (f2.tr f3)) W3 (by rw [List.length_append, List.length_map]; omega) (by omega) (by omega) (fun S4 f4 W4 => h3.2 _ rfl S4 f4 ?_)
      rw [List.map_append, ← List.append_assoc]
      exact W4
    · rw [if_neg z, if_pos z2] at h'
      have hlt := ((cr_is ht (k := 40) (by omega)).mp z2).1
      refine b_X1_readUnit_49 (by omega) hs1.k20 ⟨fun _ S2 e2 => ⟨fun y => absurd z2 y, fun _ => ?_⟩, fun y => absurd (nI_lt (a := d) (b := 6) (by omega) (by omega)) y⟩
      have f2 : fr D20 S S2 := f1.tr (by rw [e2]; exact fr.si rfl)
      have W2 : LW S2 t n (skp t n p + 1) ss := by rw [e2, W1.1.at_, nI_1]; exact W1.mv hlt
      rw [nI_1]
      have hu : CRD L t n (unD t n k) (M_X1_readUnit l G D' 20 (nI (d + 1)) 0) := l_unit hn ht k (d + 1) D' (by omega) (by omega)
      exact l_cond hn (by omega) hu (unD_ok hn ht k) (hs.fr f2) (hT.f20 f2) (fun Q' hQ' => hu S2 _ ss Q' (hs.fr f2) (hT.f20 f2) W2 (by omega) hQ') (lbd.of (unD_ok hn ht k _ hlt) (by omega)) (l_cld (c := 41) (hs.fr f2) (by omega) (h'.fr f2))
    · rw [if_neg z, if_neg z2, ← sumD_sk W.pn.1] at h'
      exact l_leaf (k := k + 1) (by omega) hd (by omega) hs1 (hT.f20 f1) W1 (by omega) (h'.fr f1)
end LF
