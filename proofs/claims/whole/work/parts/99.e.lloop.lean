/-! the class reads a law: loops -/
section LE
variable {l : Launch} {G : mj_G} {L D : Nat} {S : mj_S} {t : Nat → Nat} {n p : Nat} {ss : List Int32} {Q : mj_S → Int32 → Prop}
theorem l_lp {kd : Int32 → Option Nat} {c1 c2 : Int32} {e1 e2 : Nat} {body : Nat → lrs} {MB : mj_S → (mj_S → Int32 → Prop) → Prop} {V : Int32 → mj_S → Prop} {Z : Int32 → Int32 → mj_S → Prop} (hkd : ∀ x, kd x = if x = c1 then some e1 else if x = c2 then some e2 else none) (hm1 : kd (-1) = none) (hc1 : c1 = nI (sgn e1) ∧ sgn e1 < 256) (hc2 : c2 = nI (sgn e2) ∧ sgn e2 < 256) (hrk : ∀ q, q ≤ n → rok n q (body q)) (hb : CRD L t n body MB)
    (b1 : ∀ x S, m_kd S 20 = 1 → (((240 : Int32) ≤ x) → Q S 1) ∧ ((¬ ((240 : Int32) ≤ x)) → M_X5_peek l G 20 S (fun S1 r2 => ((r2 = c1) → Z x r2 S1) ∧ ((¬ (r2 = c1)) → ((r2 = c2) → Z x r2 S1) ∧ ((¬ (r2 = c2)) → Q S1 1)))) → V x S)
    (b2 : ∀ x r S, m_kd S 20 = 1 → (∀ S1 : mj_S, S1 = m_si S 20 2 ((m_gi S 20 2) + (1 : Int32)) → MB S1 (fun S2 r3 => ((¬ r3 = 0) → M_X1_write l G 20 r (0 : Int32) S2 (fun S4 => ∀ v5 : Int32, v5 = x + (1 : Int32) → V v5 S4)) ∧ ((r3 = 0) → Q S2 (0 : Int32)))) → Z x r S) :
    ∀ (g i : Nat) (ts : List tok) (p : Nat) (S : mj_S), g + i = 240 → i ≤ p → Sh L S → TBL S → LW S t n p (ss ++ ts.map enc) → ss.length + ts.length ≤ p → cres t n S ss (lpp t n kd body g ts p) Q → V (nI i) S
  | 0, i, ts, p, S, hg, hi, hs, hT, W, hl, h => by
    have hpn := W.pn
    refine b1 _ _ hs.k20 ⟨fun _ => h.2 (ts, skp t n p) rfl S fr.rf ?_, fun z => absurd (nI_le (a := 240) (by omega) (by omega)) z⟩
    rw [skp_no (by omega)]; exact W
  | g + 1, i, ts, p, S, hg, hi, hs, hT, W, hl, h => by
    have hpn := W.pn
    have hq := skp_b (t := t) hpn.1
    refine b1 _ _ hs.k20 ⟨fun z => absurd z (nI_ge (b := 240) (by omega) (by omega)), fun _ => s_peek W.1 (fun S1 e1 T1 => ?_)⟩
    have f1 : fr D20 S S1 := by rw [e1]; exact fr.si rfl
    have W1 : LW S1 t n (skp t n p) (ss ++ ts.map enc) := by rw [e1]; exact W.mv hq.2
    have hs1 := hs.fr f1
    have go : ∀ c, kd (cr t n (skp t n p)) = some c → cr t n (skp t n p) = nI (sgn c) → sgn c < 256 → Z (nI i) (cr t n (skp t n p)) S1 := by
      intro c ek er hc
      have hlt := cr_pos hm1 ek
      have hro := hrk (skp t n p + 1) hlt
      refine b2 _ _ _ hs1.k20 (fun S2 e2 => ?_)
      have f2 : fr D20 S S2 := f1.tr (by rw [e2]; exact fr.si rfl)
      have W2 : LW S2 t n (skp t n p + 1) (ss ++ ts.map enc) := by rw [e2, W1.1.at_, nI_1]; exact W1.mv hlt
      refine hb S2 _ _ _ (hs.fr f2) (hT.f20 f2) W2 (by rw [List.length_append, List.length_map]; omega) ⟨fun j ej S3 f3 a3 => ?_, fun w ew S3 f3 W3 => ?_⟩
      · exact ⟨fun z => absurd rfl z, fun _ => h.1 j (lpp_l ek ej) S3 (f2.tr f3) a3⟩
      · rw [ew] at hro
        have hro' : skp t n p + 1 < w.2 ∧ w.2 ≤ n ∧ w.1.length + (skp t n p + 1) ≤ w.2 := hro
        refine ⟨fun _ => ?_, fun z => absurd z (by decide)⟩
        rw [er]
        refine s_write (b := 0) (hs.fr (f2.tr f3)) W3 (by rw [List.length_append, List.length_append, List.length_map, List.length_map]; omega) hc (by omega) (fun S4 f4 W4 v5 e5 => ?_)
        rw [e5, nI_1]
        have f4' := (f2.tr f3).tr f4
        rw [enc_app] at W4
        rw [lpp_r ek ew] at h
        exact l_lp hkd hm1 hc1 hc2 hrk hb b1 b2 g (i + 1) _ w.2 S4 (by omega) (by omega) (hs.fr f4') (hT.f20 f4') W4 (by rw [List.length_append, List.length_append, List.length_singleton]; omega) (h.fr f4')
    refine ⟨fun z => go _ ?_ ?_ hc1.2, fun z => ⟨fun z2 => go _ ?_ ?_ hc2.2, fun z2 => h.2 _ (lpp_0 ?_) S1 f1 W1⟩⟩
    · rw [hkd, if_pos z]
    · rw [z]; exact hc1.1
    · rw [hkd, if_neg z, if_pos z2]
    · rw [z2]; exact hc2.1
    · rw [hkd, if_neg z, if_neg z2]
theorem l_lt {kd : Int32 → Option Nat} {e c : Nat} {body : Nat → lrs} {MB : mj_S → (mj_S → Int32 → Prop) → Prop} {V : Int32 → mj_S → Prop} (hkd : ∀ x, kd x = if x = nI c then some e else none) (hm1 : kd (-1) = none) (hc : sgn e = c ∧ c < 256) (hrk : ∀ q, q ≤ n → rok n q (body q)) (hb : CRD L t n body MB)
    (b1 : ∀ x S, m_kd S 20 = 1 → (((240 : Int32) ≤ x) → Q S 1) ∧ ((¬ ((240 : Int32) ≤ x)) → M_X1_take l G 20 (nI c) S (fun S1 r2 => ((r2 = 0) → Q S1 (1 : Int32)) ∧ ((¬ (r2 = 0)) → MB S1 (fun S3 r4 => ((¬ r4 = 0) → M_X1_write l G 20 (nI c) (0 : Int32) S3 (fun S5 => ∀ v6 : Int32, v6 = x + (1 : Int32) → V v6 S5)) ∧ ((r4 = 0) → Q S3 (0 : Int32)))))) → V x S) :
    ∀ (g i : Nat) (ts : List tok) (p : Nat) (S : mj_S), g + i = 240 → i ≤ p → Sh L S → TBL S → LW S t n p (ss ++ ts.map enc) → ss.length + ts.length ≤ p → cres t n S ss (lpp t n kd body g ts p) Q → V (nI i) S
  | 0, i, ts, p, S, hg, hi, hs, hT, W, hl, h => by
    have hpn := W.pn
    refine b1 _ _ hs.k20 ⟨fun _ => h.2 (ts, skp t n p) rfl S fr.rf ?_, fun z => absurd (nI_le (a := 240) (by omega) (by omega)) z⟩
    rw [skp_no (by omega)]; exact W
  | g + 1, i, ts, p, S, hg, hi, hs, hT, W, hl, h => by
    have hpn := W.pn
    have hq := skp_b (t := t) hpn.1
    refine b1 _ _ hs.k20 ⟨fun z => absurd z (nI_ge (b := 240) (by omega) (by omega)), fun _ => s_take hs W hc.2 (fun z hlt S1 e1 W1 => ?_) (fun z S1 e1 W1 => ?_)⟩
    · have f1 : fr D20 S S1 := by rw [e1]; exact fr.si rfl
      have ek : kd (cr t n (skp t n p)) = some e := by rw [hkd, if_pos z]
      have hro := hrk (skp t n p + 1) hlt
      refine ⟨fun z => absurd z (by decide), fun _ => ?_⟩
      refine hb S1 _ _ _ (hs.fr f1) (hT.f20 f1) W1 (by rw [List.length_append, List.length_map]; omega) ⟨fun j ej S3 f3 a3 => ?_, fun w ew S3 f3 W3 => ?_⟩
      · exact ⟨fun z => absurd rfl z, fun _ => h.1 j (lpp_l ek ej) S3 (f1.tr f3) a3⟩
      · rw [ew] at hro
        have hro' : skp t n p + 1 < w.2 ∧ w.2 ≤ n ∧ w.1.length + (skp t n p + 1) ≤ w.2 := hro
        refine ⟨fun _ => ?_, fun z => absurd z (by decide)⟩
        refine s_write (b := 0) (hs.fr (f1.tr f3)) W3 (by rw [List.length_append, List.length_append, List.length_map, List.length_map]; omega) hc.2 (by omega) (fun S4 f4 W4 v5 e5 => ?_)
        rw [e5, nI_1]
        have f4' := (f1.tr f3).tr f4
        rw [← hc.1, enc_app] at W4
        rw [lpp_r ek ew] at h
        exact l_lt hkd hm1 hc hrk hb b1 g (i + 1) _ w.2 S4 (by omega) (by omega) (hs.fr f4') (hT.f20 f4') W4 (by rw [List.length_append, List.length_append, List.length_singleton]; omega) (h.fr f4')
    · exact ⟨fun _ => h.2 _ (lpp_0 (by rw [hkd, if_neg z])) S1 (by rw [e1]; exact fr.si rfl) W1, fun z => absurd rfl z⟩
end LE
