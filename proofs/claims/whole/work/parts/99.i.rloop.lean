/-! the reference reads a law: loops, sums, conditions -/
section RI_
variable {l : Launch} {G : mj_G} {L D : Nat} {S : mj_S} {t : Nat → Nat} {n p p0 x d : Nat} {ts : List tok} {Q : mj_S → Prop}
theorem r_lp {kd : Int32 → Option Nat} {c1 c2 : Int32} {e1 e2 : Nat} {body : Nat → lrs} {MB : mj_S → (mj_S → Prop) → Prop} {V21 V33 V59 : Int32 → mj_S → Prop} (hx : x ≤ 4) (hkd : ∀ y, kd y = if y = c1 then some e1 else if y = c2 then some e2 else none) (hm1 : kd (-1) = none) (hrk : ∀ q, q ≤ n → rok n q (body q)) (hb : CRR L x d t n body MB)
    (b21 : ∀ r S, m_kd S 89 = 10 → ((r = c1) → V33 r S) ∧ ((¬ (r = c1)) → ((¬ r = c2) → Q S) ∧ ((r = c2) → V33 r S)) → V21 r S)
    (b33 : ∀ r S, m_kd S 89 = 10 → (∀ S1 : mj_S, S1 = m_si S 89 3 ((m_gi S 89 3) + (1 : Int32)) → MB S1 (fun S2 => ((¬ r = c1) → V59 (nI e2) S2) ∧ ((r = c1) → V59 (nI e1) S2))) → V33 r S)
    (b59 : ∀ s S, m_kd S 89 = 10 → M_X11_put l G 89 s (0 : Int32) S (fun S1 => ((¬ (m_gi S1 89 4) = (-1 : Int32)) → V21 (-1) S1) ∧ (((m_gi S1 89 4) = (-1 : Int32)) → M_X11_look l G 89 S1 (fun S2 r3 => V21 r3 S2))) → V59 s S) :
    ∀ (g i : Nat) (us : List tok) (p : Nat) (S : mj_S), g + i = 240 → i ≤ p → Sh L S → RLW S t n p x d (ts ++ us) → ts.length + us.length ≤ p → us.length + p0 ≤ p → rres x d t n S p0 ts (lpp t n kd body g us p) Q → M_X11_look l G 89 S (fun S2 r3 => V21 r3 S2)
  | 0, i, us, p, S, hg, hi, hs, W, hl, hl0, h => by
    have hpn := W.pn
    refine r_look W (fun S1 f1 W1 => b21 _ _ (hs.fr f1).k89 ?_)
    have e : cr t n (skp t n p) = -1 := by rw [skp_no (by omega), cr_out (by omega)]
    have hk : kd (cr t n (skp t n p)) = none := by rw [e]; exact hm1
    rw [hkd] at hk
    refine ⟨fun z => ?_, fun z => ⟨fun _ => h.2 _ rfl S1 f1 W1, fun z2 => ?_⟩⟩
    · rw [if_pos z] at hk; cases hk
    · rw [if_neg z, if_pos z2] at hk; cases hk
  | g + 1, i, us, p, S, hg, hi, hs, W, hl, hl0, h => by
    have hpn := W.pn
    have hq := skp_b (t := t) hpn.1
    refine r_look W (fun S1 f1 W1 => b21 _ _ (hs.fr f1).k89 ?_)
    have hs1 := hs.fr f1
    have go : ∀ c, kd (cr t n (skp t n p)) = some c → (∀ S2, V59 (nI c) S2 → ((¬ cr t n (skp t n p) = c1) → V59 (nI e2) S2) ∧ ((cr t n (skp t n p) = c1) → V59 (nI e1) S2)) → V33 (cr t n (skp t n p)) S1 := by
      intro c ek hV
      have hlt := cr_pos hm1 ek
      have hro := hrk (skp t n p + 1) hlt
      refine b33 _ _ hs1.k89 (fun S2 e2 => ?_)
      have W2 := W1.st hlt e2
      have f2 := f1.tr W2.2
      refine hb S2 _ _ _ (hs.fr f2) W2.1 (by rw [List.length_append]; omega) ⟨fun j ej S3 cc f3 a3 b3 hc3 => hV S3 ?_, fun w ew S3 f3 W3 => hV S3 ?_⟩
      · rw [ej] at hro
        have hj : j < 1000 := hro
        have f3' := f2.tr f3
        rw [List.length_append] at hc3
        refine b59 _ _ (hs.fr f3').k89 (s_lputF (hs.fr f3') hx (f3'.tx.trans W.2.2.2.1) a3 b3 (by omega) (fun S4 f4 a4 b4 => ⟨fun _ => ?_, fun z => ?_⟩))
        · have hk : kd (-1) = none := hm1
          rw [hkd] at hk
          have hQ : Q S4 := h.1 j (lpp_l ek ej) S4 _ (f3'.tr f4) a4 b4 (by omega)
          refine b21 _ _ (hs.fr (f3'.tr f4)).k89 ⟨fun z => ?_, fun z => ⟨fun _ => hQ, fun z2 => ?_⟩⟩
          · rw [if_pos z] at hk; cases hk
          · rw [if_neg z, if_pos z2] at hk; cases hk
        · rw [a4] at z; exact absurd z (nI_m1 (by omega))
      · rw [ew] at hro
        have hro' : skp t n p + 1 < w.2 ∧ w.2 ≤ n ∧ w.1.length + (skp t n p + 1) ≤ w.2 := hro
        have f3' := f2.tr f3
        refine b59 _ _ (hs.fr f3').k89 (s_lputW (v := 0) (hs.fr f3') hx W3 (by rw [List.length_append, List.length_append]; omega) (fun S4 f4 W4 => ⟨fun z => absurd W4.2.1 z, fun _ => ?_⟩))
        have f4' := f3'.tr f4
        rw [lpp_r ek ew] at h
        rw [List.append_assoc ts us, List.append_assoc ts] at W4
        exact r_lp hx hkd hm1 hrk hb b21 b33 b59 g (i + 1) _ w.2 S4 (by omega) (by omega) (hs.fr f4') W4 (by rw [List.length_append, List.length_append, List.length_singleton]; omega) (by rw [List.length_append, List.length_append, List.length_singleton]; omega) (h.fr f4')
    refine ⟨fun z => go _ (by rw [hkd, if_pos z]) (fun S2 hV => ⟨fun y => absurd z y, fun _ => hV⟩), fun z => ⟨fun z2 => h.2 _ (lpp_0 (by rw [hkd, if_neg z, if_neg z2])) S1 f1 W1, fun z2 => go _ (by rw [hkd, if_neg z, if_pos z2]) (fun S2 hV => ⟨fun _ => hV, fun y => absurd y z⟩)⟩⟩
theorem r_lt {kd : Int32 → Option Nat} {c e : Nat} {body : Nat → lrs} {MB : mj_S → (mj_S → Prop) → Prop} {V : mj_S → Prop} (hx : x ≤ 4) (hkd : ∀ y, kd y = if y = nI c then some e else none) (hm1 : kd (-1) = none) (hrk : ∀ q, q ≤ n → rok n q (body q)) (hb : CRR L x d t n body MB)
    (b0 : ∀ S, m_kd S 89 = 10 → ((¬ (m_gi S 89 4) = (-1 : Int32)) → Q S) ∧ (((m_gi S 89 4) = (-1 : Int32)) → M_X11_look l G 89 S (fun S1 r2 => ((¬ r2 = nI c) → Q S1) ∧ ((r2 = nI c) → ∀ S3 : mj_S, S3 = m_si S1 89 3 ((m_gi S1 89 3) + (1 : Int32)) → MB S3 (fun S4 => M_X11_put l G 89 (nI e) (0 : Int32) S4 (fun S5 => V S5))))) → V S) :
    ∀ (g i : Nat) (us : List tok) (p : Nat) (S : mj_S), g + i = 240 → i ≤ p → Sh L S → RLW S t n p x d (ts ++ us) → ts.length + us.length ≤ p → us.length + p0 ≤ p → rres x d t n S p0 ts (lpp t n kd body g us p) Q → V S
  | 0, i, us, p, S, hg, hi, hs, W, hl, hl0, h => by
    have hpn := W.pn
    refine b0 S hs.k89 ⟨fun z => absurd W.2.1 z, fun _ => r_look W (fun S1 f1 W1 => ⟨fun _ => h.2 _ rfl S1 f1 W1, fun z => ?_⟩)⟩
    have e : cr t n (skp t n p) = -1 := by rw [skp_no (by omega), cr_out (by omega)]
    have hk : kd (cr t n (skp t n p)) = none := by rw [e]; exact hm1
    rw [hkd, if_pos z] at hk; cases hk
  | g + 1, i, us, p, S, hg, hi, hs, W, hl, hl0, h => by
    have hpn := W.pn
    have hq := skp_b (t := t) hpn.1
    refine b0 S hs.k89 ⟨fun z => absurd W.2.1 z, fun _ => r_look W (fun S1 f1 W1 => ⟨fun z => h.2 _ (lpp_0 (by rw [hkd, if_neg z])) S1 f1 W1, fun z S2 e2 => ?_⟩)⟩
    have ek : kd (cr t n (skp t n p)) = some e := by rw [hkd, if_pos z]
    have hlt := cr_pos hm1 ek
    have hro := hrk (skp t n p + 1) hlt
    have W2 := W1.st hlt e2
    have f2 := f1.tr W2.2
    refine hb S2 _ _ _ (hs.fr f2) W2.1 (by rw [List.length_append]; omega) ⟨fun j ej S3 cc f3 a3 b3 hc3 => ?_, fun w ew S3 f3 W3 => ?_⟩
    · rw [ej] at hro
      have hj : j < 1000 := hro
      have f3' := f2.tr f3
      rw [List.length_append] at hc3
      refine s_lputF (hs.fr f3') hx (f3'.tx.trans W.2.2.2.1) a3 b3 (by omega) (fun S4 f4 a4 b4 => b0 S4 (hs.fr (f3'.tr f4)).k89 ⟨fun _ => h.1 j (lpp_l ek ej) S4 _ (f3'.tr f4) a4 b4 (by omega), fun z => ?_⟩)
      rw [a4] at z; exact absurd z (nI_m1 (by omega))
    · rw [ew] at hro
      have hro' : skp t n p + 1 < w.2 ∧ w.2 ≤ n ∧ w.1.length + (skp t n p + 1) ≤ w.2 := hro
      have f3' := f2.tr f3
      refine s_lputW (v := 0) (hs.fr f3') hx W3 (by rw [List.length_append, List.length_append]; omega) (fun S4 f4 W4 => ?_)
      have f4' := f3'.tr f4
      rw [lpp_r ek ew] at h
      rw [List.append_assoc ts us, List.append_assoc ts] at W4
      exact r_lt hx hkd hm1 hrk hb b0 g (i + 1) _ w.2 S4 (by omega) (by omega) (hs.fr f4') W4 (by rw [List.length_append, List.length_append, List.length_singleton]; omega) (by rw [List.length_append, List.length_append, List.length_singleton]; omega) (h.fr f4')
theorem r_term {sm : Option (Nat → lrs)} (hD : 8 ≤ D) (hx : x ≤ 4) (hb : CRR L x d t n (pat t n sm) (M_X11_atom l G D 89)) (hrk : ∀ q, q ≤ n → rok n q (pat t n sm q)) : CRR L x d t n (ptm t n sm) (M_X11_term l G (D + 1) 89) := by
  intro S p ts Q hs W hl h
  have hro := hrk p W.pn.1
  refine e_X11_term (b_X11_term_0 hD hs.k89 (hb S p ts _ hs W hl ⟨fun j ej S1 c f1 a1 b1 hc => ⟨fun _ => ?_, fun z => ?_⟩, fun w ew S1 f1 W1 => ⟨fun z => absurd W1.2.1 z, fun _ => ?_⟩⟩))
  · have hQ : Q S1 := h.1 j (by unfold ptm; rw [ej]; rfl) S1 c f1 a1 b1 hc
    exact b_X11_term_21 hD (hs.fr f1).k89 ⟨fun z => absurd z (by decide), fun _ => ⟨fun _ => hQ, fun z => absurd z (by decide)⟩⟩
  · rw [ej] at hro
    have hj : j < 1000 := hro
    rw [a1] at z; exact absurd z (nI_m1 (by omega))
  · rw [ew] at hro
    have hro' : p < w.2 ∧ w.2 ≤ n ∧ w.1.length + p ≤ w.2 := hro
    have eh : ptm t n sm p = lpp t n kdT (pat t n sm) 240 w.1 w.2 := by unfold ptm; rw [ew]; rfl
    rw [eh] at h
    exact r_lp (kd := kdT) (c1 := 42) (c2 := 47) (e1 := 4) (e2 := 5) (MB := M_X11_atom l G D 89) (V21 := fun r S => V_X11_term_21 l G D 89 r S Q) (V33 := fun r S => V_X11_term_33 l G D 89 r S Q) (V59 := fun s S => V_X11_term_59 l G D 89 89 s S Q) hx (fun _ => rfl) rfl hrk hb (fun r S hk hh => b_X11_term_21 hD hk hh) (fun r S hk hh => b_X11_term_33 hD hk hh) (fun s S hk hh => b_X11_term_59 hD hk hk hh) 240 0 w.1 w.2 S1 rfl (by omega) (hs.fr f1) W1 (by omega) (by omega) (h.fr f1)
theorem r_sum {sm : Option (Nat → lrs)} (hD : 8 ≤ D) (hx : x ≤ 4) (hb : CRR L x d t n (ptm t n sm) (M_X11_term l G D 89)) (hrk : ∀ q, q ≤ n → rok n q (ptm t n sm q)) : CRR L x d t n (psm t n sm) (M_X11_sum l G (D + 1) 89) := by
  intro S p ts Q hs W hl h
  have hro := hrk p W.pn.1
  refine e_X11_sum (b_X11_sum_0 hD hs.k89 (hb S p ts _ hs W hl ⟨fun j ej S1 c f1 a1 b1 hc => ⟨fun _ => ?_, fun z => ?_⟩, fun w ew S1 f1 W1 => ⟨fun z => absurd W1.2.1 z, fun _ => ?_⟩⟩))
  · have hQ : Q S1 := h.1 j (by unfold psm; rw [ej]; rfl) S1 c f1 a1 b1 hc
    exact b_X11_sum_21 hD (hs.fr f1).k89 ⟨fun z => absurd z (by decide), fun _ => ⟨fun _ => hQ, fun z => absurd z (by decide)⟩⟩
  · rw [ej] at hro
    have hj : j < 1000 := hro
    rw [a1] at z; exact absurd z (nI_m1 (by omega))
  · rw [ew] at hro
    have hro' : p < w.2 ∧ w.2 ≤ n ∧ w.1.length + p ≤ w.2 := hro
    have eh : psm t n sm p = lpp t n kdS (ptm t n sm) 240 w.1 w.2 := by unfold psm; rw [ew]; rfl
    rw [eh] at h
    exact r_lp (kd := kdS) (c1 := 43) (c2 := 45) (e1 := 2) (e2 := 3) (MB := M_X11_term l G D 89) (V21 := fun r S => V_X11_sum_21 l G D 89 r S Q) (V33 := fun r S => V_X11_sum_33 l G D 89 r S Q) (V59 := fun s S => V_X11_sum_59 l G D 89 89 s S Q) hx (fun _ => rfl) rfl hrk hb (fun r S hk hh => b_X11_sum_21 hD hk hh) (fun r S hk hh => b_X11_sum_33 hD hk hh) (fun s S hk hh => b_X11_sum_59 hD hk hk hh) 240 0 w.1 w.2 S1 rfl (by omega) (hs.fr f1) W1 (by omega) (by omega) (h.fr f1)
theorem r_sumD (hx : x ≤ 4) (hn : n ≤ 240) (ht : ∀ i, i < n → t i < 256) : ∀ (k d D : Nat), k + d = 6 → 11 + 3 * k ≤ D → CRR L x d t n (sumD t n k) (M_X11_sum l G D 89)
  | 0, d, D, hd, hD => by
    obtain ⟨D', rfl⟩ : ∃ D', D = D' + 3 := ⟨D - 3, by omega⟩
    exact r_sum (by omega) hx (r_term (by omega) hx (r_atom (sm := none) (by omega) hx (by omega) (fun _ => by omega) (fun f e => by cases e) (fun f e => by cases e)) (pat_ok hn ht (fun f e => by cases e))) (ptm_ok hn ht (fun f e => by cases e))
  | k + 1, d, D, hd, hD => by
    obtain ⟨D', rfl⟩ : ∃ D', D = D' + 3 := ⟨D - 3, by omega⟩
    have hok : ∀ f, some (sumD t n k) = some f → ∀ q, q ≤ n → rok n q (f q) := fun f e => by cases e; exact sumD_ok hn ht k
    exact r_sum (by omega) hx (r_term (by omega) hx (r_atom (sm := some (sumD t n k)) (by omega) hx (by omega) (fun e => by cases e) (fun f e => by cases e; exact ⟨by omega, r_sumD hx hn ht k (d + 1) D' (by omega) (by omega)⟩) hok) (pat_ok hn ht hok)) (ptm_ok hn ht hok)
theorem r_isSign {y : Int32} {Q : mj_S → Int32 → Prop} (h1 : ∀ c, kdC y = some c → Q S 1) (h0 : kdC y = none → Q S 0) : M_X11_isSign l G y S Q := by
  unfold kdC at h0 h1
  refine e_X11_isSign (b_X11_isSign_0 ⟨fun z => h1 6 (by rw [if_pos z]), fun z => ⟨fun z2 => h1 7 (by rw [if_neg z, if_pos z2]), fun z2 => ⟨fun z3 => h0 (by rw [if_neg z, if_neg z2, if_neg z3]), fun z3 => h1 8 (by rw [if_neg z, if_neg z2, if_pos z3])⟩⟩⟩)
theorem r_cmp {k : Nat} {us : List tok} (hD : 8 ≤ D) (hx : x ≤ 4) (hb : CRR L x d t n (sumD t n k) (M_X11_sum l G D 89)) (hs : Sh L S) (W : RLW S t n p x d (ts ++ us)) (hl : ts.length + us.length ≤ p) (hl0 : us.length + p0 ≤ p) (h : rres x d t n S p0 ts (cmpD t n k us p) Q) : M_X11_compare l G (D + 1) 89 S Q := by
  have hpn := W.pn
  have hq := skp_b (t := t) hpn.1
  refine e_X11_compare (b_X11_compare_0 hD hs.k89 ⟨fun z => absurd W.2.1 z, fun _ => r_look W (fun S1 f1 W1 => b_X11_compare_16 hD (hs.fr f1).k89 (r_isSign (fun c ec => ⟨fun _ S2 e2 => ?_, fun z => absurd z (by decide)⟩) (fun ec => ⟨fun z => absurd rfl z, fun _ => ?_⟩)))⟩)
  · unfold cmpD at h
    rw [ec] at h
    have hlt := cr_pos rfl ec
    have hro := sumD_ok hpn.2 W.1.tw k (skp t n p + 1) hlt
    have W2 := W1.st hlt e2
    have f2 := f1.tr W2.2
    have hV : ∀ S4, V_X11_compare_68 l G D 89 (nI c) S4 Q → ((¬ cr t n (skp t n p) = (61 : Int32)) → ((¬ cr t n (skp t n p) = (60 : Int32)) → V_X11_compare_68 l G D 89 (8 : Int32) S4 Q) ∧ ((cr t n (skp t n p) = (60 : Int32)) → V_X11_compare_68 l G D 89 (7 : Int32) S4 Q)) ∧ ((cr t n (skp t n p) = (61 : Int32)) → V_X11_compare_68 l G D 89 (6 : Int32) S4 Q) := by
      intro S4 hv
      unfold kdC at ec
      refine ⟨fun y1 => ⟨fun y2 => ?_, fun y2 => ?_⟩, fun y1 => ?_⟩
      · rw [if_neg y1, if_neg y2] at ec
        split at ec
        · cases ec; exact hv
        · cases ec
      · rw [if_neg y1, if_pos y2] at ec; cases ec; exact hv
      · rw [if_pos y1] at ec; cases ec; exact hv
    refine hb S2 _ _ _ (hs.fr f2) W2.1 (by rw [List.length_append]; omega) ⟨fun j ej S3 cc f3 a3 b3 hc3 => hV S3 ?_, fun w ew S3 f3 W3 => hV S3 ?_⟩
    · have f3' := f2.tr f3
      rw [List.length_append] at hc3
      refine b_X11_compare_68 hD (hs.fr f3').k89 (s_lputF (hs.fr f3') hx (f3'.tx.trans W.2.2.2.1) a3 b3 (by omega) (fun S4 f4 a4 b4 => h.1 j ?_ S4 _ (f3'.tr f4) a4 b4 (by omega)))
      show fst_ (sumD t n k (skp t n p + 1)) _ = _
      rw [ej]; rfl
    · rw [ew] at hro
      have hro' : skp t n p + 1 < w.2 ∧ w.2 ≤ n ∧ w.1.length + (skp t n p + 1) ≤ w.2 := hro
      have f3' := f2.tr f3
      refine b_X11_compare_68 hD (hs.fr f3').k89 (s_lputW (v := 0) (hs.fr f3') hx W3 (by rw [List.length_append, List.length_append]; omega) (fun S4 f4 W4 => ?_))
      rw [List.append_assoc ts us, List.append_assoc ts] at W4
      refine h.2 (us ++ w.1 ++ [(c, 0)], w.2) ?_ S4 (f3'.tr f4) W4
      show fst_ (sumD t n k (skp t n p + 1)) _ = _
      rw [ew]; rfl
  · unfold cmpD at h
    rw [ec] at h
    exact r_bad W1 (fun S2 f2 a2 b2 => h.1 _ rfl S2 _ (f1.tr f2) a2 b2 (by rw [List.length_append]; omega))
/-- going on with & -/
theorem r_and {u : Nat → lrs} {us : List tok} (hn : n ≤ 240) (hD : 8 ≤ D) (hx : x ≤ 4) (hu : CRR L x d t n u (M_X11_unit l G D 89)) (hrk : ∀ q, q ≤ n → rok n q (u q)) (hs : Sh L S) (W : RLW S t n p x d (ts ++ us)) (hl : ts.length + us.length ≤ p) (hl0 : us.length + p0 ≤ p) (h : rres x d t n S p0 ts (andO t n u us p) Q) : M_X11_goOnAnd l G (D + 1) 89 S Q :=
  e_X11_goOnAnd (r_lt (kd := kdA) (c := 38) (e := 10) (MB := M_X11_unit l G D 89) (V := fun S => V_X11_goOnAnd_0 l G D 89 S Q) hx (fun _ => rfl) rfl hrk hu (fun S hk hh => b_X11_goOnAnd_0 hD hk hh) 240 0 us p S rfl (by omega) hs W hl hl0 h)
theorem r_andF {j : Nat} (hD : 8 ≤ D) (hs : Sh L S) (ej : m_gi S 89 4 = nI j) (hj : j < 1000) (h : Q S) : M_X11_goOnAnd l G (D + 1) 89 S Q :=
  e_X11_goOnAnd (b_X11_goOnAnd_0 hD hs.k89 ⟨fun _ => h, fun z => by rw [ej] at z; exact absurd z (nI_m1 (by omega))⟩)
theorem r_orF {j : Nat} (hD : 8 ≤ D) (hs : Sh L S) (ej : m_gi S 89 4 = nI j) (hj : j < 1000) (h : Q S) : M_X11_goOnOr l G (D + 1) 89 S Q :=
  e_X11_goOnOr (b_X11_goOnOr_0 hD hs.k89 ⟨fun _ => h, fun z => by rw [ej] at z; exact absurd z (nI_m1 (by omega))⟩)
theorem r_tru {u : Nat → lrs} (hn : n ≤ 240) (hD : 8 ≤ D) (hx : x ≤ 4) (hu : CRR L x d t n u (M_X11_unit l G D 89)) (hu1 : CRR L x d t n u (M_X11_unit l G (D + 1) 89)) (hrk : ∀ q, q ≤ n → rok n q (u q)) : CRR L x d t n (truO t n u) (fun S Q => M_X11_unit l G (D + 1) 89 S (fun S4 => M_X11_goOnAnd l G (D + 1) 89 S4 Q)) := by
  intro S p ts Q hs W hl h
  have hro := hrk p W.pn.1
  refine hu1 S p ts _ hs W hl ⟨fun j ej S1 c f1 a1 b1 hc => ?_, fun w ew S1 f1 W1 => ?_⟩
  · rw [ej] at hro
    exact r_andF hD (hs.fr f1) a1 hro (h.1 j (by unfold truO; rw [ej]; rfl) S1 c f1 a1 b1 hc)
  · rw [ew] at hro
    have hro' : p < w.2 ∧ w.2 ≤ n ∧ w.1.length + p ≤ w.2 := hro
    have eh : truO t n u p = andO t n u w.1 w.2 := by unfold truO; rw [ew]; rfl
    rw [eh] at h
    exact r_and hn hD hx hu hrk (hs.fr f1) W1 (by omega) (by omega) (h.fr f1)
theorem r_or {u : Nat → lrs} {us : List tok} (hn : n ≤ 240) (hD : 8 ≤ D) (hx : x ≤ 4) (hu : CRR L x d t n u (M_X11_unit l G D 89)) (hu1 : CRR L x d t n u (M_X11_unit l G (D + 1) 89)) (hrk : ∀ q, q ≤ n → rok n q (u q)) (hs : Sh L S) (W : RLW S t n p x d (ts ++ us)) (hl : ts.length + us.length ≤ p) (hl0 : us.length + p0 ≤ p) (h : rres x d t n S p0 ts (orsO t n u us p) Q) : M_X11_goOnOr l G (D + 2) 89 S Q :=
  e_X11_goOnOr (r_lt (kd := kdO) (c := 124) (e := 11) (MB := fun S Q => M_X11_unit l G (D + 1) 89 S (fun S4 => M_X11_goOnAnd l G (D + 1) 89 S4 Q)) (V := fun S => V_X11_goOnOr_0 l G (D + 1) 89 S Q) hx (fun _ => rfl) rfl (fun q hq => truO_ok hn hrk q hq) (r_tru hn hD hx hu hu1 hrk) (fun S hk hh => b_X11_goOnOr_0 (by omega) hk hh) 240 0 us p S rfl (by omega) hs W hl hl0 h)
/-- what goes on after a unit -/
theorem r_cnd {u : Nat → lrs} {us : List tok} (hn : n ≤ 240) (hD : 8 ≤ D) (hx : x ≤ 4) (hu : ∀ D', D ≤ D' → CRR L x d t n u (M_X11_unit l G D' 89)) (hrk : ∀ q, q ≤ n → rok n q (u q)) (hs : Sh L S) (W : RLW S t n p x d (ts ++ us)) (hl : ts.length + us.length ≤ p) (hl0 : us.length + p0 ≤ p) (h : rres x d t n S p0 ts (cndO t n u us p) Q) : M_X11_goOnAnd l G (D + 2) 89 S (fun S2 => M_X11_goOnOr l G (D + 2) 89 S2 Q) := by
  have hro := lpp_ok (t := t) (kd := kdA) hn rfl hrk 240 us p W.pn.1
  refine r_and (D := D + 1) hn (by omega) hx (hu _ (by omega)) hrk hs W hl hl0 ⟨fun j ej S1 c f1 a1 b1 hc => ?_, fun w ew S1 f1 W1 => ?_⟩
  · have ej' : lpp t n kdA u 240 us p = .inl j := ej
    rw [ej'] at hro
    exact r_orF (by omega) (hs.fr f1) a1 hro (h.1 j (by unfold cndO; rw [ej]; rfl) S1 c f1 a1 b1 hc)
  · have ew' : lpp t n kdA u 240 us p = .inr w := ew
    rw [ew'] at hro
    have hro' : p ≤ w.2 ∧ w.2 ≤ n ∧ w.1.length + p ≤ w.2 + us.length := hro
    have eh : cndO t n u us p = orsO t n u w.1 w.2 := by unfold cndO; rw [ew]; rfl
    rw [eh] at h
    exact r_or hn hD hx (hu D (by omega)) (hu (D + 1) (by omega)) hrk (hs.fr f1) W1 (by omega) (by omega) (h.fr f1)
theorem r_cndF {j : Nat} (hD : 8 ≤ D) (hs : Sh L S) (ej : m_gi S 89 4 = nI j) (hj : j < 1000) (h : Q S) : M_X11_goOnAnd l G (D + 1) 89 S (fun S2 => M_X11_goOnOr l G (D + 1) 89 S2 Q) := r_andF hD hs ej hj (r_orF hD hs ej hj h)
theorem r_cond {u : Nat → lrs} (hn : n ≤ 240) (hD : 8 ≤ D) (hx : x ≤ 4) (hu : ∀ D', D ≤ D' → CRR L x d t n u (M_X11_unit l G D' 89)) (hrk : ∀ q, q ≤ n → rok n q (u q)) : CRR L x d t n (fun p => fst_ (u p) (cndO t n u)) (M_X11_condition l G (D + 3) 89) := by
  intro S p ts Q hs W hl h
  have hro := hrk p W.pn.1
  refine e_X11_condition (b_X11_condition_0 (by omega) hs.k89 (hu _ (by omega) S p ts _ hs W hl ⟨fun j ej S1 c f1 a1 b1 hc => ?_, fun w ew S1 f1 W1 => ?_⟩))
  · rw [ej] at hro
    exact r_cndF (by omega) (hs.fr f1) a1 hro (h.1 j (by show fst_ (u p) _ = _; rw [ej]; rfl) S1 c f1 a1 b1 hc)
  · rw [ew] at hro
    have hro' : p < w.2 ∧ w.2 ≤ n ∧ w.1.length + p ≤ w.2 := hro
    have eh : fst_ (u p) (cndO t n u) = cndO t n u w.1 w.2 := by rw [ew]; rfl
    have h' : rres x d t n S p ts (fst_ (u p) (cndO t n u)) Q := h
    rw [eh] at h'
    exact r_cnd hn hD hx hu hrk (hs.fr f1) W1 (by omega) (by omega) (h'.fr f1)
theorem r_leaf {k : Nat} (hx : x ≤ 4) (hk : k + d = 6) (hDk : 12 + 3 * k ≤ D) (hs : Sh L S) (W : RLW S t n p x d ts) (hp0 : p0 ≤ p) (hl : ts.length ≤ p) (h : rres x d t n S p0 ts (fst_ (sumD t n k p) (fun us e => cmpD t n k us e)) Q) : M_X11_sum l G D 89 S (fun S3 => ((¬ (m_gi S3 89 4) = (-1 : Int32)) → Q S3) ∧ (((m_gi S3 89 4) = (-1 : Int32)) → M_X11_compare l G D 89 S3 (fun S4 => Q S4))) := by
  have hpn := W.pn
  have hro := sumD_ok hpn.2 W.1.tw k p hpn.1
  refine r_sumD hx hpn.2 W.1.tw k d D hk (by omega) S p ts _ hs W hl ⟨fun j ej S1 c f1 a1 b1 hc => ⟨fun _ => h.1 j (by rw [ej]; rfl) S1 c f1 a1 b1 (by omega), fun z => ?_⟩, fun w ew S1 f1 W1 => ⟨fun z => absurd W1.2.1 z, fun _ => ?_⟩⟩
  · rw [ej] at hro
    have hj : j < 1000 := hro
    rw [a1] at z; exact absurd z (nI_m1 (by omega))
  · rw [ew] at hro
    have hro' : p < w.2 ∧ w.2 ≤ n ∧ w.1.length + p ≤ w.2 := hro
    obtain ⟨D', rfl⟩ : ∃ D', D = D' + 1 := ⟨D - 1, by omega⟩
    have eh : fst_ (sumD t n k p) (fun us e => cmpD t n k us e) = cmpD t n k w.1 w.2 := by rw [ew]; rfl
    rw [eh] at h
    exact r_cmp (by omega) hx (r_sumD hx hpn.2 W.1.tw k d D' hk (by omega)) (hs.fr f1) W1 (by omega) (by omega) (h.fr f1)
theorem r_unit (hx : x ≤ 4) (hn : n ≤ 240) (ht : ∀ i, i < n → t i < 256) : ∀ (k d D : Nat), k + d = 6 → 14 + 4 * k ≤ D → CRR L x d t n (unD t n k) (M_X11_unit l G D 89)
  | 0, d, D, hd, hD => by
    intro S p ts Q hs W hl h
    obtain ⟨D', rfl⟩ : ∃ D', D = D' + 1 := ⟨D - 1, by omega⟩
    have hq := skp_b (t := t) W.pn.1
    have h' : rres x d t n S p ts (if cr t n (skp t n p) = 33 ∨ cr t n (skp t n p) = 40 then .inl (skp t n p) else fst_ (sumD t n 0 p) (fun ts e => cmpD t n 0 ts e)) Q := h
    refine e_X11_unit (b_X11_unit_0 (by omega) hs.k89 (r_look W (fun S1 f1 W1 => ?_)))
    have hno : ∀ {Q1 : mj_S → Prop}, (cr t n (skp t n p) = 33 ∨ cr t n (skp t n p) = 40) → M_X11_opens l G 89 S1 (fun S8 => ((¬ (m_gi S8 89 4) = (-1 : Int32)) → Q S8) ∧ (((m_gi S8 89 4) = (-1 : Int32)) → Q1 S8)) := by
      intro Q1 z
      rw [if_pos z] at h'
      have hlt : skp t n p < n := by
        rcases z with z | z
        · exact ((cr_is ht (k := 33) (by omega)).mp z).1
        · exact ((cr_is ht (k := 40) (by omega)).mp z).1
      refine r_opens (hs.fr f1) W1 (by omega) hlt (fun _ S2 f2 a2 b2 => ⟨fun _ => h'.1 _ rfl S2 _ (f1.tr f2) a2 b2 (by omega), fun y => ?_⟩) (fun e => by omega)
      rw [a2] at y; exact absurd y (nI_m1 (by omega))
    refine ⟨fun z => ⟨fun z2 => ?_, fun z2 => hno (Or.inr z2)⟩, fun z => hno (Or.inl z)⟩
    rw [if_neg (fun y => y.elim z z2), ← sumD_sk W.pn.1] at h'
    exact r_leaf (k := 0) hx hd (by omega) (hs.fr f1) W1 hq.1 (by omega) (h'.fr f1)
  | k + 1, d, D, hd, hD => by
    intro S p ts Q hs W hl h
    obtain ⟨D', rfl⟩ : ∃ D', D = D' + 4 := ⟨D - 4, by omega⟩
    have hq := skp_b (t := t) W.pn.1
    have hn' := W.pn
    have h' : rres x d t n S p ts (if cr t n (skp t n p) = 33 then fst_ (unD t n k (skp t n p + 1)) (fun ts e => .inr (ts ++ [(9, 0)], e)) else if cr t n (skp t n p) = 40 then cld t n 41 (fst_ (unD t n k (skp t n p + 1)) (fun ts e => cndO t n (unD t n k) ts e)) else fst_ (sumD t n (k + 1) p) (fun ts e => cmpD t n (k + 1) ts e)) Q := h
    refine e_X11_unit (b_X11_unit_0 (by omega) hs.k89 (r_look W (fun S1 f1 W1 => ⟨fun z => ⟨fun z2 => ?_, fun z2 => ?_⟩, fun z => ?_⟩)))
    · rw [if_neg z, if_neg z2, ← sumD_sk W.pn.1] at h'
      exact r_leaf (k := k + 1) hx hd (by omega) (hs.fr f1) W1 hq.1 (by omega) (h'.fr f1)
    · rw [if_neg z, if_pos z2] at h'
      have hlt := ((cr_is ht (k := 40) (by omega)).mp z2).1
      refine r_opens (hs.fr f1) W1 (by omega) hlt (fun e => by omega) (fun _ S2 f2 W2 => ⟨fun y => absurd W2.2.1 y, fun _ => ?_⟩)
      have f2' := f1.tr f2
      have hro : rok n (skp t n p + 1) (fst_ (unD t n k (skp t n p + 1)) (cndO t n (unD t n k))) := (unD_ok hn ht k (skp t n p + 1) hlt).fst (fun ts e _ he => cndO_ok hn (unD_ok hn ht k) ts e he)
      exact r_cond (D := D') hn (by omega) hx (fun D2 hD2 => r_unit hx hn ht k (d + 1) D2 (by omega) (by omega)) (unD_ok hn ht k) S2 _ ts _ (hs.fr f2') W2 (by omega) (r_cld (c := 41) (hs.fr f2') (by omega) hro (by omega) (by omega) (h'.fr f2'))
    · rw [if_pos z] at h'
      have hlt := ((cr_is ht (k := 33) (by omega)).mp z).1
      refine r_opens (hs.fr f1) W1 (by omega) hlt (fun e => by omega) (fun _ S2 f2 W2 => ⟨fun y => absurd W2.2.1 y, fun _ => ?_⟩)
      have f2' := f1.tr f2
      have hro := unD_ok hn ht k (skp t n p + 1) hlt
      refine r_unit hx hn ht k (d + 1) (D' + 3) (by omega) (by omega) S2 _ ts _ (hs.fr f2') W2 (by omega) ⟨fun j ej S3 c f3 a3 b3 hc => ?_, fun w ew S3 f3 W3 => ?_⟩
      · have f3' := f2'.tr f3
        refine s_lputF (hs.fr f3') hx (f3'.tx.trans W.2.2.2.1) a3 b3 (by omega) (fun S4 f4 a4 b4 S5 e5 => h'.1 j (by rw [ej]; rfl) S5 (c + 1) ((f3'.tr f4).tr (by rw [e5]; exact fr.si (Dl_t (by omega)))) ?_ ?_ (by omega))
        · rw [e5, m_gi_si, if_neg (by omega)]; exact a4
        · rw [e5, m_gi_si, if_neg (by omega)]; exact b4
      · rw [ew] at hro
        have hro' : skp t n p + 1 < w.2 ∧ w.2 ≤ n ∧ w.1.length + (skp t n p + 1) ≤ w.2 := hro
        have f3' := f2'.tr f3
        refine s_lputW (c := 9) (v := 0) (hs.fr f3') hx W3 (by rw [List.length_append]; omega) (fun S4 f4 W4 S5 e5 => ?_)
        rw [W4.2.2.1, nI_pred] at e5
        refine h'.2 (w.1 ++ [(9, 0)], w.2) (by rw [ew]; rfl) S5 ((f3'.tr f4).tr (by rw [e5]; exact fr.si (Dl_t (by omega)))) ?_
        rw [List.append_assoc] at W4
        rw [e5]; exact W4.dp
end RI_
