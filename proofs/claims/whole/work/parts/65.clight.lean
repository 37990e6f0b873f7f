/-! the class's light -/
def DZ (lo hi a _j : Nat) : Bool := Nat.ble lo a && Nat.ble a hi
theorem DZ_no {lo hi a j : Nat} (h : a < lo ∨ hi < a) : DZ lo hi a j = false := by
  unfold DZ
  rw [← Bool.not_eq_true, Bool.and_eq_true, Nat.ble_eq, Nat.ble_eq]; omega
theorem DZ_yes {lo hi a j : Nat} (h1 : lo ≤ a) (h2 : a ≤ hi) : DZ lo hi a j = true := by
  unfold DZ
  rw [Bool.and_eq_true, Nat.ble_eq, Nat.ble_eq]; exact ⟨h1, h2⟩
def DL (a j : Nat) : Bool := (Nat.ble 30 a && Nat.ble a 31) || (Nat.beq a 23 && Nat.beq j 6)
def DW (a j : Nat) : Bool := DL a j || Nat.beq a 82
theorem DC_of {a j : Nat} (h : DC a j = false) : (a < 79 ∨ 87 < a) ∧ DL a j = false := by
  unfold DC at h
  rw [Bool.or_assoc, Bool.or_eq_false_iff] at h
  refine ⟨?_, h.2⟩
  have := h.1
  rw [← Bool.not_eq_true, Bool.and_eq_true, Nat.ble_eq, Nat.ble_eq] at this
  omega
theorem DZ_DC {lo hi : Nat} {S S' : mj_S} (h1 : 79 ≤ lo) (h2 : hi ≤ 87) (f : fr (DZ lo hi) S S') : fr DC S S' := f.wid (fun a j h => DZ_no (by have := (DC_of h).1; omega))
theorem DL_DC {S S' : mj_S} (f : fr DL S S') : fr DC S S' := f.wid (fun a j h => (DC_of h).2)
theorem DW_DC {S S' : mj_S} (f : fr DW S S') : fr DC S S' := f.wid (fun a j h => by
  have := DC_of h
  unfold DW
  rw [this.2, Bool.false_or, ← Bool.not_eq_true, Nat.beq_eq]; omega)
theorem DL_DW {S S' : mj_S} (f : fr DL S S') : fr DW S S' := f.wid (fun a j h => by
  unfold DW at h
  rw [Bool.or_eq_false_iff] at h; exact h.1)
/-- what the curtains take, of the scene at x -/
def TKc (l : Launch) (G : mj_G) (S0 : mj_S) (x nc : Nat) (t : Nat → Nat) : Prop := ∀ (S : mj_S) (c : Nat) (Q : mj_S → Int32 → Prop), fr DC S0 S → c < nc → (∀ S', fr DL S S' → Q S' (nI (t c))) → M_X2_takes l G 23 x (nI c) S Q
theorem TKc.fr {l : Launch} {G : mj_G} {S S' : mj_S} {x nc : Nat} {t : Nat → Nat} (h : TKc l G S x nc t) (f : fr DC S S') : TKc l G S' x nc t := fun T c Q g => h T c Q (f.tr g)
theorem sub_v {a w : Nat} (h : w ≤ a) : nI a - nI w = nI (a - w) := by
  have : nI a = nI (a - w) + nI w := by rw [nI_add, Nat.sub_add_cancel h]
  rw [this, Int32.add_sub_cancel]
theorem sub_toInt {a w : Nat} (ha : a < 100000) (hw : w < 100000) : (nI a - nI w).toInt = (a : Int) - w := by
  rw [Int32.toInt_sub, nI_toInt (by omega), nI_toInt (by omega)]
  unfold Int.bmod
  simp only [Int.natCast_pow]
  omega
theorem sub_le {a w b : Nat} (ha : a < 100000) (hw : w < 100000) (hb : b < 100000) : (nI a - nI w ≤ nI b) ↔ a ≤ b + w := by
  rw [Int32.le_iff_toInt_le, sub_toInt ha hw, nI_toInt (by omega)]
  omega
theorem rx_M {f : Nat → Nat} {M : Nat} (h : ∀ x, f x ≤ M) (a b w x : Nat) : relax f a b w x ≤ M := rx_sound (g := fun _ => M) (Nat.le_add_right _ _) (Nat.le_add_right _ _) h x
def LM (S : mj_S) (f : Nat → Nat) : Prop := ∀ q, q < 20 → m_gi S 81 q = nI (f q)
section CL
variable {l : Launch} {G : mj_G} {L r x rs : Nat} {R : rm} {s : sc} {S : mj_S} {t : Nat → Nat}
theorem s_weigh {W : Int32} {Q : mj_S → Prop} (C : CI L S r x rs R s) (T : TKc l G S x (r_nc R) t) (h : ∀ S', fr DW S S' → (∀ c, c < r_nc R → bt W c = true → m_gi S' 82 c = nI (t c)) → Q S') : M_X3_weigh l G 80 x 23 W S Q := by
  have nc := C.rw.nc
  refine e_X3_weigh (b_X3_weigh_0 C.sh.k80 (C.sh.sk C.hx) C.sh.k23 ?_)
  refine dn (P := fun c => ∀ T', fr DW S T' → (∀ c', c' < c → bt W c' = true → m_gi T' 82 c' = nI (t c')) → V_X3_weigh_3 l G 80 x 23 W (nI c) T' Q) (r_nc R) ?_ ?_ S fr.rf (fun c z => absurd z (by omega))
  · intro T' f hT
    have D := C.fr (DW_DC f)
    refine b_X3_weigh_3 D.sh.k80 (D.sh.sk C.hx) D.sh.k23 ⟨rs, D.sn.p, fun _ => h T' f hT, fun z => absurd ?_ z⟩
    rw [D.sn.rc.nc]; exact nI_le (Nat.le_refl _) (by omega)
  · intro c hc ih T' f hT
    have D := C.fr (DW_DC f)
    have hin : vp_in (nI c) 10 := vp_nI (by omega) (by omega)
    refine b_X3_weigh_3 D.sh.k80 (D.sh.sk C.hx) D.sh.k23 ⟨rs, D.sn.p, fun z => absurd z (by rw [D.sn.rc.nc]; exact nI_ge hc (by omega)), fun _ => s_has (by omega) (fun hb => ?_) (fun hb => ?_)⟩
    · try simp only [Option.some.injEq, exists_eq_left', fi32, i10, i00, false_implies, true_implies, not_false_eq_true, not_true_eq_false, true_and, and_true, nI_1, lz0, lz1, ix0, ix11, ix2, D.sh.p80_1]
      refine T T' c _ (DW_DC f) hc (fun T2 f2 => ?_)
      have f2' := f.tr (DL_DW f2)
      refine ⟨by rw [(D.sh.fr f2).l82]; exact hin, fun T3 e3 => ?_⟩
      try simp only [Option.some.injEq, exists_eq_left', fi32, i10, i00, false_implies, true_implies, not_false_eq_true, not_true_eq_false, true_and, and_true, nI_1, lz0, lz1, ix0, ix11, ix2]
      rw [nI_clamp (by omega)] at e3
      refine ih T3 (f2'.tr (by rw [e3]; exact fr.si rfl)) (fun c' hc' hb' => ?_)
      rw [e3, m_gi_si]
      by_cases e : c' = c
      · rw [if_pos ⟨rfl, e⟩, e]
      · rw [if_neg (fun z => e z.2), f2.i _ _ rfl]
        exact hT c' (by omega) hb'
    · try simp only [Option.some.injEq, exists_eq_left', fi32, i10, i00, false_implies, true_implies, not_false_eq_true, not_true_eq_false, true_and, and_true, nI_1, lz0, lz1, ix0, ix11, ix2]
      refine ih T' f (fun c' hc' hb' => ?_)
      by_cases e : c' = c
      · rw [e, hb] at hb'; cases hb'
      · exact hT c' (by omega) hb'
theorem s_hang {H : Int32} {Q : mj_S → Prop} (hs : Sh L S) (hR : r_wf R) (hr : isRm r) (hr2 : 32 ≤ r ∧ r ≤ 51) (C : RC S r R) (hT : ∀ c, c < r_nc R → bt H c = true → m_gi S 82 c = nI (t c)) (h : ∀ S', fr (DZ 83 84) S S' → (∀ q, q < 20 → m_gi S' 83 q = nI (wk R H t 0 q (r_nc R)) ∧ m_gi S' 84 q = nI (wk R H t 1 q (r_nc R))) → Q S') : M_X3_hang l G 80 r H S Q := by
  have nc := hR.nc
  have hn := hR.n
  have keep : ∀ {S' : mj_S}, fr (DZ 83 84) S S' → RC S' r R := fun f => C.keep (fun a j q1 q2 => f.i a j (DZ_no (by omega)))
  refine e_X3_hang (b_X3_hang_0 hs.k80 (hs.rk hr) ⟨83, hs.p80_2, s_fill hs.k83 hs.l83 (by omega) (fun S1 e1 => ?_)⟩)
  have h1 : Sh L S1 := by rw [e1]; exact hs.row
  refine ⟨84, h1.p80_3, s_fill h1.k84 h1.l84 (by omega) (fun S2 e2 => ?_)⟩
  have f2 : fr (DZ 83 84) S S2 := by rw [e2, e1]; exact (fr.row (fun j => rfl)).tr (fr.row (fun j => rfl))
  refine dn (P := fun c => ∀ T, fr (DZ 83 84) S T → (∀ q, q < 20 → m_gi T 83 q = nI (wk R H t 0 q c) ∧ m_gi T 84 q = nI (wk R H t 1 q c)) → V_X3_hang_18 l G 80 r H (nI c) T Q) (r_nc R) ?_ ?_ S2 f2 (fun q hq => ?_)
  · intro T f g
    have K := keep f
    have hs' := hs.fr f
    refine b_X3_hang_18 hs'.k80 (hs'.rk hr) ⟨fun _ => h T f g, fun z => absurd ?_ z⟩
    rw [K.nc]; exact nI_le (Nat.le_refl _) (by omega)
  · intro c hc ih T f g
    have K := keep f
    have hs' := hs.fr f
    have hin : vp_in (nI c) 10 := vp_nI (by omega) (by omega)
    have hnr := hR.nr hc
    have hin2 : vp_in (nI (r_nr R c)) 20 := vp_nI (by omega) (by omega)
    refine b_X3_hang_18 hs'.k80 (hs'.rk hr) ⟨fun q => absurd q (by rw [K.nc]; exact nI_ge hc (by omega)), fun _ => s_has (by omega) (fun hb => ?_) (fun hb => ?_)⟩
    · have ht : m_gi T 82 c = nI (t c) := (f.i _ _ rfl).trans (hT c hc hb)
      try simp only [Option.some.injEq, exists_eq_left', fi32, i10, i00, false_implies, true_implies, not_false_eq_true, not_true_eq_false, true_and, and_true, nI_1, lz0, lz1, ix0, ix11, ix2, hs'.rp10 hr, hs'.rl10 hr, hin, nI_clamp (show c < 2 ^ 31 by omega), K.rl hc, hs'.p80_3, hs'.p80_2, hs'.p80_1, hs'.rp8 hr, hs'.rl8 hr, K.nr hc, hs'.l84, hs'.l83, hs'.l82, hin2, nI_clamp (show r_nr R c < 2 ^ 31 by omega), ht, (g (r_nr R c) (by omega)).1, (g (r_nr R c) (by omega)).2, nI_add]
      refine ⟨fun z T1 e1 => ?_, fun z T1 e1 => ?_⟩
      · have hrl : r_rl R c = 1 := by
          rcases hR.rl hc with y | y
          · exact absurd (by rw [y.1]; rfl) z
          · exact y.1
        refine ih T1 (f.tr (by rw [e1]; exact fr.si rfl)) (fun q hq => ?_)
        have g' := g q hq
        rw [e1, m_gi_si, m_gi_si, if_neg (show ¬ (83 = 84 ∧ q = r_nr R c) by omega)]
        refine ⟨?_, ?_⟩
        · rw [g'.1]
          show _ = nI (wk R H t 0 q c + _)
          rw [if_neg (fun y => by omega)]; rfl
        · show _ = nI (wk R H t 1 q c + _)
          by_cases e : q = r_nr R c
          · rw [if_pos ⟨rfl, e⟩, if_pos ⟨hb, hrl, e.symm⟩, e]
          · rw [if_neg (fun y => e y.2), if_neg (fun y => e y.2.2.symm), g'.2]; rfl
      · have hrl : r_rl R c = 0 := by
          rcases hR.rl hc with y | y
          · exact y.1
          · rw [y.1] at z; exact absurd z (by decide)
        refine ih T1 (f.tr (by rw [e1]; exact fr.si rfl)) (fun q hq => ?_)
        have g' := g q hq
        rw [e1, m_gi_si, m_gi_si, if_neg (show ¬ (84 = 83 ∧ q = r_nr R c) by omega)]
        refine ⟨?_, ?_⟩
        · show _ = nI (wk R H t 0 q c + _)
          by_cases e : q = r_nr R c
          · rw [if_pos ⟨rfl, e⟩, if_pos ⟨hb, hrl, e.symm⟩, e]
          · rw [if_neg (fun y => e y.2), if_neg (fun y => e y.2.2.symm), g'.1]; rfl
        · rw [g'.2]
          show _ = nI (wk R H t 1 q c + _)
          rw [if_neg (fun y => by omega)]; rfl
    · try simp only [Option.some.injEq, exists_eq_left', fi32, i10, i00, false_implies, true_implies, not_false_eq_true, not_true_eq_false, true_and, and_true, nI_1, lz0, lz1, ix0, ix11, ix2]
      refine ih T f (fun q hq => ?_)
      have g' := g q hq
      refine ⟨?_, ?_⟩
      · rw [g'.1]
        show _ = nI (wk R H t 0 q c + _)
        rw [if_neg (fun y => by rw [hb] at y; cases y.1)]; rfl
      · rw [g'.2]
        show _ = nI (wk R H t 1 q c + _)
        rw [if_neg (fun y => by rw [hb] at y; cases y.1)]; rfl
  · rw [e2, m_gi_row, m_gi_row, if_neg (by omega), if_pos rfl, e1, m_gi_row, if_pos rfl]
    simp only [hq, if_true]
    exact ⟨rfl, rfl⟩
theorem s_pass {f : Nat → Nat} {a b w : Nat} {Q : mj_S → Int32 → Prop} (hs : Sh L S) (hM : LM S f) (hf : ∀ q, f q ≤ 99) (ha : a < 20) (hb : b < 20) (hw : w < 1000) (h : ∀ S' v, fr (DZ 81 81) S S' → LM S' (relax f a b w) → (v = 0 ∨ v = 1) → (v = 0 → relax f a b w = f) → Q S' v) : M_X3_pass l G 80 (nI a) (nI b) (nI w) S Q := by
  have ia : vp_in (nI a) 20 := vp_nI (by omega) (by omega)
  have ib : vp_in (nI b) 20 := vp_nI (by omega) (by omega)
  have fa := hf a
  have fb := hf b
  refine e_X3_pass (b_X3_pass_0 hs.k80 ?_)
  try simp only [Option.some.injEq, exists_eq_left', fi32, i10, i00, false_implies, true_implies, not_false_eq_true, not_true_eq_false, true_and, and_true, nI_1, lz0, lz1, ix0, ix11, ix2, hs.p80_0, hs.l81, ia, ib, nI_clamp (show a < 2 ^ 31 by omega), nI_clamp (show b < 2 ^ 31 by omega), hM a ha, hM b hb, sub_le (show f a < 100000 by omega) (show w < 100000 by omega) (show f b < 100000 by omega), sub_le (show f b < 100000 by omega) (show w < 100000 by omega) (show f a < 100000 by omega)]
  refine ⟨fun z => ⟨fun z2 => ?_, fun z2 S1 e1 => ?_⟩, fun z S1 e1 => ?_⟩
  · have e : relax f a b w = f := by unfold relax; rw [if_neg (by omega), if_neg (by omega)]
    exact h S 0 fr.rf (by rw [e]; exact hM) (Or.inl rfl) (fun _ => e)
  · refine h S1 1 (by rw [e1]; exact fr.si rfl) (fun q hq => ?_) (Or.inr rfl) (fun y => absurd y (by decide))
    unfold relax
    rw [if_neg (by omega), if_pos (by omega), e1, m_gi_si, sub_v (by omega)]
    by_cases e : q = a
    · rw [if_pos ⟨rfl, e⟩, if_pos e]
    · rw [if_neg (fun y => e y.2), if_neg e]; exact hM q hq
  · refine h S1 1 (by rw [e1]; exact fr.si rfl) (fun q hq => ?_) (Or.inr rfl) (fun y => absurd y (by decide))
    unfold relax
    rw [if_pos (by omega), e1, m_gi_si, sub_v (by omega)]
    by_cases e : q = b
    · rw [if_pos ⟨rfl, e⟩, if_pos e]
    · rw [if_neg (fun y => e y.2), if_neg e]; exact hM q hq
theorem wgt_le (hR : r_wf R) {H : Int32} (ht : ∀ c, c < r_nc R → t c ≤ 99) (a b : Nat) : wgt R H t a b < 1000 := by
  unfold wgt
  cases e : bw R (min a b) (max a b) (r_nc R) with
  | none => dsimp only; omega
  | some c =>
    have := ht c (bw_some e).1
    dsimp only
    split <;> omega
theorem or01 {v w : Int32} (hv : v = 0 ∨ v = 1) (hw : w = 0 ∨ w = 1) : (v ||| w = 0 ∨ v ||| w = 1) ∧ (v ||| w = 0 → v = 0 ∧ w = 0) := by
  rcases hv with e | e <;> rcases hw with e2 | e2 <;> rw [e, e2] <;> decide
theorem bwi (hR : r_wf R) {q : Nat} (hq : q < r_n R) : bt (wi R) q = decide (q % r_w R + 1 < r_w R) := by
  have := hR.n
  unfold wi; rw [b_bs _ _ (by omega)]; simp [hq]
theorem bde (hR : r_wf R) {q : Nat} (hq : q < r_n R) : bt (de R) q = decide (q + r_w R < r_n R) := by
  have := hR.n
  unfold de; rw [b_bs _ _ (by omega)]; simp [hq]
theorem s_carry {f : Nat → Nat} {H : Int32} {Q : mj_S → Int32 → Prop} (hs : Sh L S) (hR : r_wf R) (hr : isRm r) (hr2 : 32 ≤ r ∧ r ≤ 51) (C : RC S r R) (ht : ∀ c, c < r_nc R → t c ≤ 99) (hW : ∀ q, q < 20 → m_gi S 83 q = nI (wk R H t 0 q (r_nc R)) ∧ m_gi S 84 q = nI (wk R H t 1 q (r_nc R))) (hM : LM S f) (hf : ∀ q, f q ≤ 99) (h : ∀ S' v, fr (DZ 81 81) S S' → LM S' (cry R (wgt R H t) (r_n R) f) → (v = 0 → cry R (wgt R H t) (r_n R) f = f) → Q S' v) : M_X3_carry l G 80 r S Q := by
  have hn := hR.n
  have keep : ∀ {S' : mj_S}, fr (DZ 81 81) S S' → RC S' r R := fun f => C.keep (fun a j q1 q2 => f.i a j (DZ_no (by omega)))
  have bnd : ∀ q, q ≤ r_n R → ∀ y, cry R (wgt R H t) q f y ≤ 99 := fun q hq y => cry_sound (wgt_s R H t) (g := fun _ => 99) (fun _ _ _ => Nat.le_add_right _ _) hf q hq y
  refine e_X3_carry (b_X3_carry_0 hs.k80 (hs.rk hr) ?_)
  refine dn (P := fun q => ∀ T v, fr (DZ 81 81) S T → LM T (cry R (wgt R H t) q f) → (v = 0 ∨ v = 1) → (v = 0 → cry R (wgt R H t) q f = f) → V_X3_carry_4 l G 80 r v (nI q) T Q) (r_n R) ?_ ?_ S 0 fr.rf hM (Or.inl rfl) (fun _ => rfl)
  · intro T v fT mT hv hv0
    have K := keep fT
    have hs' := hs.fr fT
    refine b_X3_carry_4 hs'.k80 (hs'.rk hr) ⟨fun _ => ⟨by rcases hv with e | e <;> rw [e] <;> first | exact nar0 | exact nar1, h T v fT mT hv0⟩, fun z => absurd ?_ z⟩
    rw [K.n]; exact nI_le (Nat.le_refl _) (by omega)
  · intro q hq ih T v fT mT hv hv0
    have K := keep fT
    have hs' := hs.fr fT
    have hin : vp_in (nI q) 20 := vp_nI (by omega) (by omega)
    have wq : ∀ {U : mj_S}, fr (DZ 81 81) S U → m_gi U 83 q = nI (wk R H t 0 q (r_nc R)) ∧ m_gi U 84 q = nI (wk R H t 1 q (r_nc R)) := fun g => ⟨(g.i _ _ rfl).trans (hW q (by omega)).1, (g.i _ _ rfl).trans (hW q (by omega)).2⟩
    have second : ∀ T v, fr (DZ 81 81) S T → LM T (ca R (wgt R H t) q (cry R (wgt R H t) q f)) → (v = 0 ∨ v = 1) → (v = 0 → ca R (wgt R H t) q (cry R (wgt R H t) q f) = f) → V_X3_carry_40 l G 80 r v (nI q) T Q := by
      intro T v fT mT hv hv0
      have K := keep fT
      have hs' := hs.fr fT
      refine b_X3_carry_40 hs'.k80 (hs'.rk hr) ?_
      rw [K.de]
      refine s_has (by omega) (fun hb => ?_) (fun hb => ?_)
      · rw [bde hR hq, decide_eq_true_iff] at hb
        have ec : cry R (wgt R H t) (q + 1) f = relax (ca R (wgt R H t) q (cry R (wgt R H t) q f)) q (q + r_w R) (wgt R H t q (q + r_w R)) := if_pos hb
        try simp only [Option.some.injEq, exists_eq_left', fi32, i10, i00, false_implies, true_implies, not_false_eq_true, not_true_eq_false, true_and, and_true, nI_1, lz0, lz1, ix0, ix11, ix2, hs'.p80_3, hs'.l84, hin, nI_clamp (show q < 2 ^ 31 by omega), (wq fT).2, K.w, nI_add, wk_1 hR]
        refine s_pass hs' mT (fun y => ?_) (by omega) (by omega) (wgt_le hR ht _ _) (fun T2 v2 f2 m2 hv2 hv20 => ?_)
        · unfold ca
          split
          · exact rx_M (bnd q (by omega)) _ _ _ _
          · exact bnd q (by omega) y
        · have o := or01 hv hv2
          try simp only [Option.some.injEq, exists_eq_left', fi32, i10, i00, false_implies, true_implies, not_false_eq_true, not_true_eq_false, true_and, and_true, nI_1, lz0, lz1, ix0, ix11, ix2]
          refine ih T2 (v ||| v2) (fT.tr f2) (by rw [ec]; exact m2) o.1 (fun z => ?_)
          have := o.2 z
          rw [ec, hv20 this.2, hv0 this.1]
      · rw [bde hR hq, decide_eq_false_iff_not] at hb
        have ec : cry R (wgt R H t) (q + 1) f = ca R (wgt R H t) q (cry R (wgt R H t) q f) := if_neg hb
        try simp only [Option.some.injEq, exists_eq_left', fi32, i10, i00, false_implies, true_implies, not_false_eq_true, not_true_eq_false, true_and, and_true, nI_1, lz0, lz1, ix0, ix11, ix2]
        exact ih T v fT (by rw [ec]; exact mT) hv (by rw [ec]; exact hv0)
    refine b_X3_carry_4 hs'.k80 (hs'.rk hr) ⟨fun z => absurd z (by rw [K.n]; exact nI_ge hq (by omega)), fun _ => ?_⟩
    rw [K.wi]
    refine s_has (by omega) (fun hb => ?_) (fun hb => ?_)
    · rw [bwi hR hq, decide_eq_true_iff] at hb
      have hq1 := r_right hq hb
      have hq1' : q + 1 < r_n R := hq1
      have ec : ca R (wgt R H t) q (cry R (wgt R H t) q f) = relax (cry R (wgt R H t) q f) q (q + 1) (wgt R H t q (q + 1)) := if_pos hb
      try simp only [Option.some.injEq, exists_eq_left', fi32, i10, i00, false_implies, true_implies, not_false_eq_true, not_true_eq_false, true_and, and_true, nI_1, lz0, lz1, ix0, ix11, ix2, hs'.p80_2, hs'.l83, hin, nI_clamp (show q < 2 ^ 31 by omega), (wq fT).1, wk_0 hR hb]
      refine s_pass hs' mT (bnd q (by omega)) (by omega) (by omega) (wgt_le hR ht _ _) (fun T2 v2 f2 m2 hv2 hv20 => ?_)
      have o := or01 hv hv2
      try simp only [Option.some.injEq, exists_eq_left', fi32, i10, i00, false_implies, true_implies, not_false_eq_true, not_true_eq_false, true_and, and_true, nI_1, lz0, lz1, ix0, ix11, ix2]
      refine second T2 (v ||| v2) (fT.tr f2) (by rw [ec]; exact m2) o.1 (fun z => ?_)
      have := o.2 z
      rw [ec, hv20 this.2, hv0 this.1]
    · rw [bwi hR hq, decide_eq_false_iff_not] at hb
      have ec : ca R (wgt R H t) q (cry R (wgt R H t) q f) = cry R (wgt R H t) q f := if_neg hb
      try simp only [Option.some.injEq, exists_eq_left', fi32, i10, i00, false_implies, true_implies, not_false_eq_true, not_true_eq_false, true_and, and_true, nI_1, lz0, lz1, ix0, ix11, ix2]
      exact second T v fT (by rw [ec]; exact mT) hv (by rw [ec]; exact hv0)
theorem s_spread {a n : Nat} {H : Int32} {Q : mj_S → Prop} (hs : Sh L S) (hR : r_wf R) (hr : isRm r) (hr2 : 32 ≤ r ∧ r ≤ 51) (C : RC S r R) (ht : ∀ c, c < r_nc R → t c ≤ 99) (hW : ∀ q, q < 20 → m_gi S 83 q = nI (wk R H t 0 q (r_nc R)) ∧ m_gi S 84 q = nI (wk R H t 1 q (r_nc R))) (ha : a < r_n R) (hn0 : n ≤ 99) (h : ∀ S', fr (DZ 81 81) S S' → LM S' (lit R H t a n) → Q S') : M_X3_spread l G 80 r (nI a) (nI n) S Q := by
  have hn := hR.n
  have keep : ∀ {S' : mj_S}, fr (DZ 81 81) S S' → RC S' r R := fun f => C.keep (fun a j q1 q2 => f.i a j (DZ_no (by omega)))
  refine e_X3_spread (b_X3_spread_0 hs.k80 (hs.rk hr) ⟨81, hs.p80_0, s_fill hs.k81 hs.l81 (by omega) (fun S1 e1 => ?_)⟩)
  have f1 : fr (DZ 81 81) S S1 := by rw [e1]; exact fr.row (fun j => rfl)
  have h1 := hs.fr f1
  have e0 : nI (r_n R) - 1 = nI (r_n R - 1) := sub_v (w := 1) (by omega)
  rw [(keep f1).n, e0]
  refine s_witN (by omega) (fun _ _ => ?_) (fun e => ?_)
  · try simp only [Option.some.injEq, exists_eq_left', fi32, i10, i00, false_implies, true_implies, not_false_eq_true, not_true_eq_false, true_and, and_true, nI_1, lz0, lz1, ix0, ix11, ix2, h1.p80_0, h1.l81, vp_nI (show a < 20 by omega) (show 20 < 2 ^ 31 by omega), nI_clamp (show a < 2 ^ 31 by omega)]
    intro S2 e2
    have f2 : fr (DZ 81 81) S S2 := f1.tr (by rw [e2]; exact fr.si rfl)
    have bnd : ∀ p y, it R (wgt R H t) p (f0 a n) y ≤ 99 := fun p y => it_sound (wgt_s R H t) (g := fun _ => 99) (fun _ _ _ => Nat.le_add_right _ _) (fun z => by unfold f0; split <;> omega) p y
    refine dn (P := fun p => ∀ T, fr (DZ 81 81) S T → LM T (it R (wgt R H t) p (f0 a n)) → V_X3_spread_33 l G 80 r (nI p) T Q) (r_n R) ?_ ?_ S2 f2 (fun q hq => ?_)
    · intro T fT mT
      have hs' := hs.fr fT
      refine b_X3_spread_33 hs'.k80 (hs'.rk hr) ⟨fun _ => h T fT mT, fun z => absurd ?_ z⟩
      rw [(keep fT).n]; exact nI_le (Nat.le_refl _) (by omega)
    · intro p hp ih T fT mT
      have hs' := hs.fr fT
      refine b_X3_spread_33 hs'.k80 (hs'.rk hr) ⟨fun z => absurd z (by rw [(keep fT).n]; exact nI_ge hp (by omega)), fun _ => s_carry hs' hR hr hr2 (keep fT) ht (fun q hq => ⟨(fT.i _ _ rfl).trans (hW q hq).1, (fT.i _ _ rfl).trans (hW q hq).2⟩) mT (bnd p) (fun T2 v g2 m2 hv => ⟨fun z => ?_, fun z => ?_⟩)⟩
      · try simp only [Option.some.injEq, exists_eq_left', fi32, i10, i00, false_implies, true_implies, not_false_eq_true, not_true_eq_false, true_and, and_true, nI_1, lz0, lz1, ix0, ix11, ix2]
        exact ih T2 (fT.tr g2) m2
      · have e := hv z
        have e3 := it_fix (R := R) (W := wgt R H t) (f := f0 a n) (k := p) e (r_n R) (by omega)
        refine h T2 (fT.tr g2) ?_
        unfold lit
        rw [e3]
        rw [e] at m2; exact m2
    · rw [e2, m_gi_si]
      show _ = nI (f0 a n q)
      unfold f0
      by_cases e : q = a
      · rw [if_pos ⟨rfl, e⟩, if_pos e]
      · rw [if_neg (fun z => e z.2), if_neg e, e1, m_gi_row, if_pos rfl, if_pos hq]; rfl
  · rw [ixn_nI (by omega) (by omega)] at e; cases e
/-- all the light -/
def lsum (f : Nat → Nat) : Nat → Nat
  | 0 => 0
  | q + 1 => lsum f q + f q
theorem s_lsum {f : Nat → Nat} {n : Nat} {Q : mj_S → Int32 → Prop} (hs : Sh L S) (hM : LM S f) (hn : n ≤ 20) (h : Q S (nI (lsum f n))) : M_X3_sum l G 80 (nI n) S Q := by
  refine e_X3_sum (b_X3_sum_0 hs.k80 ?_)
  refine dn (P := fun q => V_X3_sum_4 l G 80 (nI n) (nI (lsum f q)) (nI q) S Q) n ?_ ?_
  · exact b_X3_sum_4 hs.k80 ⟨fun _ => h, fun z => absurd (nI_le (Nat.le_refl _) (by omega)) z⟩
  · intro q hq ih
    refine b_X3_sum_4 hs.k80 ⟨fun z => absurd z (nI_ge hq (by omega)), fun _ => ⟨81, hs.p80_0, by rw [hs.l81]; exact vp_nI (by omega) (by omega), fun v ev w ew => ?_⟩⟩
    rw [ew, ev, nI_1, nI_clamp (by omega), hM q (by omega), nI_add]
    exact ih
theorem s_darkness {f : Nat → Nat} {n : Nat} {Q : mj_S → Int32 → Prop} (hs : Sh L S) (hM : LM S f) (hf : ∀ q, f q ≤ 99) (hn : n ≤ 20) (h : Q S (bs n (fun q => decide (f q = 0)))) : M_X3_darkness l G 80 (nI n) S Q := by
  refine e_X3_darkness (b_X3_darkness_0 hs.k80 ?_)
  refine dn (P := fun q => V_X3_darkness_4 l G 80 (nI n) (bs q (fun q => decide (f q = 0))) (nI q) S Q) n ?_ ?_
  · exact b_X3_darkness_4 hs.k80 ⟨fun _ => h, fun z => absurd (nI_le (Nat.le_refl _) (by omega)) z⟩
  · intro q hq ih
    have := hf q
    refine b_X3_darkness_4 hs.k80 ⟨fun z => absurd z (nI_ge hq (by omega)), fun _ => ?_⟩
    try simp only [Option.some.injEq, exists_eq_left', fi32, i10, i00, false_implies, true_implies, not_false_eq_true, not_true_eq_false, true_and, and_true, nI_1, lz0, lz1, ix0, ix11, ix2, hs.p80_0, hs.l81, vp_nI (show q < 20 by omega) (show 20 < 2 ^ 31 by omega), nI_clamp (show q < 2 ^ 31 by omega), hM q (by omega), nI_e0 (show f q < 2 ^ 31 by omega)]
    refine ⟨fun z => ?_, fun z => ?_⟩
    · rw [bs_s0 (by simp [z])] at ih; exact ih
    · rw [bs_s1 (by simp [z])] at ih; exact ih
theorem lit_99 {H : Int32} {a n : Nat} (hn0 : n ≤ 99) (q : Nat) : lit R H t a n q ≤ 99 := it_sound (wgt_s R H t) (g := fun _ => 99) (fun _ _ _ => Nat.le_add_right _ _) (fun z => by unfold f0; split <;> omega) _ q
theorem s_shine {Q : mj_S → Prop} (C : CI L S r x rs R s) (T : TKc l G S x (r_nc R) t) (ht : ∀ c, c < r_nc R → t c ≤ 99) (hpos : 0 < r_n R) (h : ∀ S', fr DC S S' → LM S' (lit R (hg R s) t 0 (r_li R)) → Q S') : M_X10_shine l G 6 x S Q := by
  refine e_X10_shine (b_X10_shine_0 C.sh.k6 (C.sh.sk C.hx) (s_hung C ?_))
  try simp only [Option.some.injEq, exists_eq_left', fi32, i10, i00, false_implies, true_implies, not_false_eq_true, not_true_eq_false, true_and, and_true, nI_1, lz0, lz1, ix0, ix11, ix2, C.p, C.sh.p6_0, C.sh.p6_4, C.sh.p6_7, C.sh.p6_8, C.sh.p6_9, C.sh.p6_10, C.sh.p6_11, C.sh.p6_12, C.sh.p6_13, C.sh.p50_1, C.sh.p50_2, C.sh.l60, C.sh.l61, C.rc.w, C.rc.h, C.rc.li, C.rc.mo, C.rc.n, C.rc.nc, C.rc.np, C.sh.rp8 C.irm, C.sh.rl8 C.irm, C.sh.rp9 C.irm, C.sh.rl9 C.irm, C.sh.rp10 C.irm, C.sh.rl10 C.irm, C.sh.rp11 C.irm, C.sh.rl11 C.irm, C.sh.rp12 C.irm, C.sh.rl12 C.irm, C.sh.rp16 C.irm, C.sh.rl16 C.irm]
  refine s_weigh C T (fun S1 f1 hT => ?_)
  have D := C.fr (DW_DC f1)
  try simp only [Option.some.injEq, exists_eq_left', fi32, i10, i00, false_implies, true_implies, not_false_eq_true, not_true_eq_false, true_and, and_true, nI_1, lz0, lz1, ix0, ix11, ix2, D.p, D.sh.p6_0, D.sh.p6_4, D.sh.p6_7, D.sh.p6_8, D.sh.p6_9, D.sh.p6_10, D.sh.p6_11, D.sh.p6_12, D.sh.p6_13, D.sh.p50_1, D.sh.p50_2, D.sh.l60, D.sh.l61, D.rc.w, D.rc.h, D.rc.li, D.rc.mo, D.rc.n, D.rc.nc, D.rc.np, D.sh.rp8 D.irm, D.sh.rl8 D.irm, D.sh.rp9 D.irm, D.sh.rl9 D.irm, D.sh.rp10 D.irm, D.sh.rl10 D.irm, D.sh.rp11 D.irm, D.sh.rl11 D.irm, D.sh.rp12 D.irm, D.sh.rl12 D.irm, D.sh.rp16 D.irm, D.sh.rl16 D.irm]
  refine s_hang D.sh D.rw D.irm D.r51 D.rc hT (fun S2 f2 hW => ?_)
  have g2 := DZ_DC (by omega) (by omega) f2
  have E := D.fr g2
  try simp only [Option.some.injEq, exists_eq_left', fi32, i10, i00, false_implies, true_implies, not_false_eq_true, not_true_eq_false, true_and, and_true, nI_1, lz0, lz1, ix0, ix11, ix2, E.p, E.sh.p6_0, E.sh.p6_4, E.sh.p6_7, E.sh.p6_8, E.sh.p6_9, E.sh.p6_10, E.sh.p6_11, E.sh.p6_12, E.sh.p6_13, E.sh.p50_1, E.sh.p50_2, E.sh.l60, E.sh.l61, E.rc.w, E.rc.h, E.rc.li, E.rc.mo, E.rc.n, E.rc.nc, E.rc.np, E.sh.rp8 E.irm, E.sh.rl8 E.irm, E.sh.rp9 E.irm, E.sh.rl9 E.irm, E.sh.rp10 E.irm, E.sh.rl10 E.irm, E.sh.rp11 E.irm, E.sh.rl11 E.irm, E.sh.rp12 E.irm, E.sh.rl12 E.irm, E.sh.rp16 E.irm, E.sh.rl16 E.irm]
  exact s_spread (a := 0) E.sh E.rw E.irm E.r51 E.rc ht hW hpos C.rw.li (fun S3 f3 hM => h S3 (((DW_DC f1).tr g2).tr (DZ_DC (by omega) (by omega) f3)) hM)
def A_lit (R : rm) (s : sc) (t : Nat → Nat) (x : Int32) : Int32 := match ixn (r_n R) x with
  | none => -1
  | some q => nI (lit R (hg R s) t 0 (r_li R) q)
theorem c_lit {x1 : Int32} {Q : mj_S → Int32 → Prop} (C : CI L S r 50 rs R s) (T : TKc l G S 50 (r_nc R) t) (ht : ∀ c, c < r_nc R → t c ≤ 99) (h : ∀ S', fr DC S S' → Q S' (A_lit R s t x1)) : M_X10_lit l G 6 x1 S Q := by
  have hn := C.rw.n
  unfold A_lit at h
  refine e_X10_lit (b_X10_lit_0 C.sh.k6 (s_isSquare C (fun q e => ?_) (fun e => ?_)))
  · obtain ⟨hq, ex⟩ := ixn_some (by omega) e
    rw [e] at h
    try simp only [Option.some.injEq, exists_eq_left', fi32, i10, i00, false_implies, true_implies, not_false_eq_true, not_true_eq_false, true_and, and_true, nI_1, lz0, lz1, ix0, ix11, ix2, C.p, C.sh.p6_0, C.sh.p6_4, C.sh.p6_7, C.sh.p6_8, C.sh.p6_9, C.sh.p6_10, C.sh.p6_11, C.sh.p6_12, C.sh.p6_13, C.sh.p50_1, C.sh.p50_2, C.sh.l60, C.sh.l61, C.rc.w, C.rc.h, C.rc.li, C.rc.mo, C.rc.n, C.rc.nc, C.rc.np, C.sh.rp8 C.irm, C.sh.rl8 C.irm, C.sh.rp9 C.irm, C.sh.rl9 C.irm, C.sh.rp10 C.irm, C.sh.rl10 C.irm, C.sh.rp11 C.irm, C.sh.rl11 C.irm, C.sh.rp12 C.irm, C.sh.rl12 C.irm, C.sh.rp16 C.irm, C.sh.rl16 C.irm]
    refine s_shine C T ht (by omega) (fun S' f hM => ?_)
    have D := C.fr f
    rw [ex]
    try simp only [Option.some.injEq, exists_eq_left', fi32, i10, i00, false_implies, true_implies, not_false_eq_true, not_true_eq_false, true_and, and_true, nI_1, lz0, lz1, ix0, ix11, ix2, D.p, D.sh.p6_0, D.sh.p6_4, D.sh.p6_7, D.sh.p6_8, D.sh.p6_9, D.sh.p6_10, D.sh.p6_11, D.sh.p6_12, D.sh.p6_13, D.sh.p50_1, D.sh.p50_2, D.sh.l60, D.sh.l61, D.rc.w, D.rc.h, D.rc.li, D.rc.mo, D.rc.n, D.rc.nc, D.rc.np, D.sh.rp8 D.irm, D.sh.rl8 D.irm, D.sh.rp9 D.irm, D.sh.rl9 D.irm, D.sh.rp10 D.irm, D.sh.rl10 D.irm, D.sh.rp11 D.irm, D.sh.rl11 D.irm, D.sh.rp12 D.irm, D.sh.rl12 D.irm, D.sh.rp16 D.irm, D.sh.rl16 D.irm, D.sh.p80_0, D.sh.l81, vp_nI (show q < 20 by omega) (show 20 < 2 ^ 31 by omega), nI_clamp (show q < 2 ^ 31 by omega), hM q (by omega)]
    exact h S' f
  · rw [e] at h
    try simp only [Option.some.injEq, exists_eq_left', fi32, i10, i00, false_implies, true_implies, not_false_eq_true, not_true_eq_false, true_and, and_true, nI_1, lz0, lz1, ix0, ix11, ix2]
    exact h S fr.rf
def A_dark (R : rm) (s : sc) (t : Nat → Nat) : Int32 := if r_n R = 0 then -1 else bs (r_n R) (fun q => decide (lit R (hg R s) t 0 (r_li R) q = 0))
theorem c_dark {Q : mj_S → Int32 → Prop} (C : CI L S r 50 rs R s) (T : TKc l G S 50 (r_nc R) t) (ht : ∀ c, c < r_nc R → t c ≤ 99) (h : ∀ S', fr DC S S' → Q S' (A_dark R s t)) : M_X10_dark l G 6 S Q := by
  have hn := C.rw.n
  unfold A_dark at h
  refine e_X10_dark (b_X10_dark_0 C.sh.k6 (s_hasRoom C (fun e => ?_) (fun e => ?_)))
  · rw [if_neg (by omega)] at h
    try simp only [Option.some.injEq, exists_eq_left', fi32, i10, i00, false_implies, true_implies, not_false_eq_true, not_true_eq_false, true_and, and_true, nI_1, lz0, lz1, ix0, ix11, ix2, C.p, C.sh.p6_0, C.sh.p6_4, C.sh.p6_7, C.sh.p6_8, C.sh.p6_9, C.sh.p6_10, C.sh.p6_11, C.sh.p6_12, C.sh.p6_13, C.sh.p50_1, C.sh.p50_2, C.sh.l60, C.sh.l61, C.rc.w, C.rc.h, C.rc.li, C.rc.mo, C.rc.n, C.rc.nc, C.rc.np, C.sh.rp8 C.irm, C.sh.rl8 C.irm, C.sh.rp9 C.irm, C.sh.rl9 C.irm, C.sh.rp10 C.irm, C.sh.rl10 C.irm, C.sh.rp11 C.irm, C.sh.rl11 C.irm, C.sh.rp12 C.irm, C.sh.rl12 C.irm, C.sh.rp16 C.irm, C.sh.rl16 C.irm]
    refine s_shine C T ht e (fun S' f hM => ?_)
    have D := C.fr f
    try simp only [Option.some.injEq, exists_eq_left', fi32, i10, i00, false_implies, true_implies, not_false_eq_true, not_true_eq_false, true_and, and_true, nI_1, lz0, lz1, ix0, ix11, ix2, D.p, D.sh.p6_0, D.sh.p6_4, D.sh.p6_7, D.sh.p6_8, D.sh.p6_9, D.sh.p6_10, D.sh.p6_11, D.sh.p6_12, D.sh.p6_13, D.sh.p50_1, D.sh.p50_2, D.sh.l60, D.sh.l61, D.rc.w, D.rc.h, D.rc.li, D.rc.mo, D.rc.n, D.rc.nc, D.rc.np, D.sh.rp8 D.irm, D.sh.rl8 D.irm, D.sh.rp9 D.irm, D.sh.rl9 D.irm, D.sh.rp10 D.irm, D.sh.rl10 D.irm, D.sh.rp11 D.irm, D.sh.rl11 D.irm, D.sh.rp12 D.irm, D.sh.rl12 D.irm, D.sh.rp16 D.irm, D.sh.rl16 D.irm]
    exact s_darkness D.sh hM (lit_99 C.rw.li) (by omega) (h S' f)
  · rw [if_pos e] at h
    try simp only [Option.some.injEq, exists_eq_left', fi32, i10, i00, false_implies, true_implies, not_false_eq_true, not_true_eq_false, true_and, and_true, nI_1, lz0, lz1, ix0, ix11, ix2]
    exact h S fr.rf
def A_seen (R : rm) (s : sc) (t : Nat → Nat) (x y : Int32) : Int32 := match ixn (r_n R) x with
  | none => -1
  | some q => if y < 1 ∨ 99 < y then -1 else bs (r_n R) (fun p => !decide (lit R (hg R s) t q y.toNatClampNeg p = 0))
theorem y99 {y : Int32} (h1 : ¬ y < 1) (h2 : ¬ 99 < y) : ∃ n, 1 ≤ n ∧ n ≤ 99 ∧ y = nI n := by
  have h0 : ¬ y < 0 := fun z => h1 (by
    rw [Int32.lt_iff_toInt_lt] at z ⊢
    rw [show (0 : Int32).toInt = 0 by decide] at z
    rw [show (1 : Int32).toInt = 1 by decide]; omega)
  obtain ⟨j, hj, e⟩ := nI_of h0
  refine ⟨j, ?_, ?_, e⟩
  · rcases Nat.eq_zero_or_pos j with z | z
    · rw [e, z] at h1; exact absurd (by decide) h1
    · exact z
  · rw [e] at h2
    have := (nI_leI hj (show 99 < 2 ^ 31 by omega)).mp (Int32.not_lt.mp h2)
    exact this
theorem c_seen {x1 x2 : Int32} {Q : mj_S → Int32 → Prop} (C : CI L S r 50 rs R s) (T : TKc l G S 50 (r_nc R) t) (ht : ∀ c, c < r_nc R → t c ≤ 99) (h : ∀ S', fr DC S S' → Q S' (A_seen R s t x1 x2)) : M_X10_seen l G 6 x1 x2 S Q := by
  have hn := C.rw.n
  unfold A_seen at h
  refine e_X10_seen (b_X10_seen_0 C.sh.k6 (s_isSquare C (fun q e => ?_) (fun e => ?_)))
  · obtain ⟨hq, ex⟩ := ixn_some (by omega) e
    rw [e] at h
    dsimp only at h
    try simp only [Option.some.injEq, exists_eq_left', fi32, i10, i00, false_implies, true_implies, not_false_eq_true, not_true_eq_false, true_and, and_true, nI_1, lz0, lz1, ix0, ix11, ix2]
    refine s_wit (fun q1 q2 => ?_) (fun q => ?_)
    · obtain ⟨n, n1, n2, en⟩ := y99 q1 q2
      rw [if_neg (fun z => by rcases z with z | z; exact q1 z; exact q2 z), en, nI_clamp (by omega)] at h
      try simp only [Option.some.injEq, exists_eq_left', fi32, i10, i00, false_implies, true_implies, not_false_eq_true, not_true_eq_false, true_and, and_true, nI_1, lz0, lz1, ix0, ix11, ix2, C.p, C.sh.p6_0, C.sh.p6_4, C.sh.p6_7, C.sh.p6_8, C.sh.p6_9, C.sh.p6_10, C.sh.p6_11, C.sh.p6_12, C.sh.p6_13, C.sh.p50_1, C.sh.p50_2, C.sh.l60, C.sh.l61, C.rc.w, C.rc.h, C.rc.li, C.rc.mo, C.rc.n, C.rc.nc, C.rc.np, C.sh.rp8 C.irm, C.sh.rl8 C.irm, C.sh.rp9 C.irm, C.sh.rl9 C.irm, C.sh.rp10 C.irm, C.sh.rl10 C.irm, C.sh.rp11 C.irm, C.sh.rl11 C.irm, C.sh.rp12 C.irm, C.sh.rl12 C.irm, C.sh.rp16 C.irm, C.sh.rl16 C.irm]
      refine s_hung C ?_
      try simp only [Option.some.injEq, exists_eq_left', fi32, i10, i00, false_implies, true_implies, not_false_eq_true, not_true_eq_false, true_and, and_true, nI_1, lz0, lz1, ix0, ix11, ix2, C.p, C.sh.p6_0, C.sh.p6_4, C.sh.p6_7, C.sh.p6_8, C.sh.p6_9, C.sh.p6_10, C.sh.p6_11, C.sh.p6_12, C.sh.p6_13, C.sh.p50_1, C.sh.p50_2, C.sh.l60, C.sh.l61, C.rc.w, C.rc.h, C.rc.li, C.rc.mo, C.rc.n, C.rc.nc, C.rc.np, C.sh.rp8 C.irm, C.sh.rl8 C.irm, C.sh.rp9 C.irm, C.sh.rl9 C.irm, C.sh.rp10 C.irm, C.sh.rl10 C.irm, C.sh.rp11 C.irm, C.sh.rl11 C.irm, C.sh.rp12 C.irm, C.sh.rl12 C.irm, C.sh.rp16 C.irm, C.sh.rl16 C.irm]
      refine s_weigh C T (fun S1 f1 hT => ?_)
      have D := C.fr (DW_DC f1)
      try simp only [Option.some.injEq, exists_eq_left', fi32, i10, i00, false_implies, true_implies, not_false_eq_true, not_true_eq_false, true_and, and_true, nI_1, lz0, lz1, ix0, ix11, ix2, D.p, D.sh.p6_0, D.sh.p6_4, D.sh.p6_7, D.sh.p6_8, D.sh.p6_9, D.sh.p6_10, D.sh.p6_11, D.sh.p6_12, D.sh.p6_13, D.sh.p50_1, D.sh.p50_2, D.sh.l60, D.sh.l61, D.rc.w, D.rc.h, D.rc.li, D.rc.mo, D.rc.n, D.rc.nc, D.rc.np, D.sh.rp8 D.irm, D.sh.rl8 D.irm, D.sh.rp9 D.irm, D.sh.rl9 D.irm, D.sh.rp10 D.irm, D.sh.rl10 D.irm, D.sh.rp11 D.irm, D.sh.rl11 D.irm, D.sh.rp12 D.irm, D.sh.rl12 D.irm, D.sh.rp16 D.irm, D.sh.rl16 D.irm]
      refine s_hang D.sh D.rw D.irm D.r51 D.rc hT (fun S2 f2 hW => ?_)
      have g2 := DZ_DC (by omega) (by omega) f2
      have E := D.fr g2
      rw [ex, en]
      try simp only [Option.some.injEq, exists_eq_left', fi32, i10, i00, false_implies, true_implies, not_false_eq_true, not_true_eq_false, true_and, and_true, nI_1, lz0, lz1, ix0, ix11, ix2, E.p, E.sh.p6_0, E.sh.p6_4, E.sh.p6_7, E.sh.p6_8, E.sh.p6_9, E.sh.p6_10, E.sh.p6_11, E.sh.p6_12, E.sh.p6_13, E.sh.p50_1, E.sh.p50_2, E.sh.l60, E.sh.l61, E.rc.w, E.rc.h, E.rc.li, E.rc.mo, E.rc.n, E.rc.nc, E.rc.np, E.sh.rp8 E.irm, E.sh.rl8 E.irm, E.sh.rp9 E.irm, E.sh.rl9 E.irm, E.sh.rp10 E.irm, E.sh.rl10 E.irm, E.sh.rp11 E.irm, E.sh.rl11 E.irm, E.sh.rp12 E.irm, E.sh.rl12 E.irm, E.sh.rp16 E.irm, E.sh.rl16 E.irm]
      refine s_spread E.sh E.rw E.irm E.r51 E.rc ht hW hq n2 (fun S3 f3 hM => ?_)
      have g3 := DZ_DC (by omega) (by omega) f3
      have F := E.fr g3
      try simp only [Option.some.injEq, exists_eq_left', fi32, i10, i00, false_implies, true_implies, not_false_eq_true, not_true_eq_false, true_and, and_true, nI_1, lz0, lz1, ix0, ix11, ix2, F.p, F.sh.p6_0, F.sh.p6_4, F.sh.p6_7, F.sh.p6_8, F.sh.p6_9, F.sh.p6_10, F.sh.p6_11, F.sh.p6_12, F.sh.p6_13, F.sh.p50_1, F.sh.p50_2, F.sh.l60, F.sh.l61, F.rc.w, F.rc.h, F.rc.li, F.rc.mo, F.rc.n, F.rc.nc, F.rc.np, F.sh.rp8 F.irm, F.sh.rl8 F.irm, F.sh.rp9 F.irm, F.sh.rl9 F.irm, F.sh.rp10 F.irm, F.sh.rl10 F.irm, F.sh.rp11 F.irm, F.sh.rl11 F.irm, F.sh.rp12 F.irm, F.sh.rl12 F.irm, F.sh.rp16 F.irm, F.sh.rl16 F.irm]
      refine s_allS F.sh F.irm F.rc ?_
      try simp only [Option.some.injEq, exists_eq_left', fi32, i10, i00, false_implies, true_implies, not_false_eq_true, not_true_eq_false, true_and, and_true, nI_1, lz0, lz1, ix0, ix11, ix2, F.p, F.sh.p6_0, F.sh.p6_4, F.sh.p6_7, F.sh.p6_8, F.sh.p6_9, F.sh.p6_10, F.sh.p6_11, F.sh.p6_12, F.sh.p6_13, F.sh.p50_1, F.sh.p50_2, F.sh.l60, F.sh.l61, F.rc.w, F.rc.h, F.rc.li, F.rc.mo, F.rc.n, F.rc.nc, F.rc.np, F.sh.rp8 F.irm, F.sh.rl8 F.irm, F.sh.rp9 F.irm, F.sh.rl9 F.irm, F.sh.rp10 F.irm, F.sh.rl10 F.irm, F.sh.rp11 F.irm, F.sh.rl11 F.irm, F.sh.rp12 F.irm, F.sh.rl12 F.irm, F.sh.rp16 F.irm, F.sh.rl16 F.irm]
      refine s_darkness F.sh hM (lit_99 n2) (by omega) ?_
      have e5 : al (r_n R) &&& (bs (r_n R) (fun p => decide (lit R (hg R s) t q n p = 0)) ^^^ (-1)) = bs (r_n R) (fun p => !decide (lit R (hg R s) t q n p = 0)) := by
        apply b_ext
        intro i hi
        rw [b_and, b_not _ hi, b_al hn, b_bs _ _ (by omega), b_bs _ _ (by omega)]
        cases decide (i < r_n R) <;> cases decide (lit R (hg R s) t q n i = 0) <;> rfl
      rw [e5]
      exact h S3 (((DW_DC f1).tr g2).tr g3)
    · rw [if_pos q] at h
      try simp only [Option.some.injEq, exists_eq_left', fi32, i10, i00, false_implies, true_implies, not_false_eq_true, not_true_eq_false, true_and, and_true, nI_1, lz0, lz1, ix0, ix11, ix2]
      exact h S fr.rf
  · rw [e] at h
    try simp only [Option.some.injEq, exists_eq_left', fi32, i10, i00, false_implies, true_implies, not_false_eq_true, not_true_eq_false, true_and, and_true, nI_1, lz0, lz1, ix0, ix11, ix2]
    exact h S fr.rf
/-! hiding -/
theorem lit_anti {H H' : Int32} {a n : Nat} (hR : r_wf R) (hH : cp_ge H H') (ha : a < r_n R) (q : Nat) : lit R H' t a n q ≤ lit R H t a n q := by
  have g := lt_is hR (wgt_s R H t) (wgt_1 R H t) (n := n) ha
  have g' := lt_is hR (wgt_s R H' t) (wgt_1 R H' t) (n := n) ha
  refine g'.2.2 _ (fun u v huv => ?_) g.2.1 q
  have h1 := g.1 u v huv
  have h2 : wgt R H t u v ≤ wgt R H' t u v := by
    unfold wgt
    cases e : bw R (min u v) (max u v) (r_nc R) with
    | none => exact Nat.le_refl _
    | some c =>
      dsimp only
      by_cases hb : bt H c = true
      · rw [if_pos hb, if_pos (hH c hb)]; exact Nat.le_refl _
      · rw [if_neg hb]; omega
  omega
def hdP (R : rm) (s : sc) (t : Nat → Nat) (a b n k : Nat) : Bool := decide (lit R (hg R s ||| nI k) t a n b = 0)
def hd (R : rm) (s : sc) (t : Nat → Nat) (a b n : Nat) : Nat → Int32
  | 0 => -1
  | k + 1 => if ¬ (nI k &&& (db R s ^^^ (-1))) = 0 ∨ (¬ hd R s t a b n k = -1 ∧ ¬ bc (nI k) < bc (hd R s t a b n k)) then hd R s t a b n k else if hdP R s t a b n k = true then nI k else hd R s t a b n k
def A_hide (R : rm) (s : sc) (t : Nat → Nat) (x y z : Int32) : Int32 := match ixn (r_n R) x, ixn (r_n R) y with
  | some a, some b => if z < 1 ∨ 99 < z then -1 else hd R s t a b z.toNatClampNeg (2 ^ r_nc R)
  | _, _ => -1
theorem s_brightWith {a b n : Nat} {H : Int32} {Q : mj_S → Int32 → Prop} (C : CI L S r 50 rs R s) (hT : ∀ c, c < r_nc R → bt H c = true → m_gi S 82 c = nI (t c)) (ht : ∀ c, c < r_nc R → t c ≤ 99) (ha : a < r_n R) (hb : b < r_n R) (hn0 : n ≤ 99) (h : ∀ S', fr (DZ 81 81) S S' ∨ fr (DZ 81 84) S S' → (∀ c, m_gi S' 82 c = m_gi S 82 c) → fr DC S S' → Q S' (nI (lit R H t a n b))) : M_X10_brightWith l G 6 H (nI a) (nI b) (nI n) S Q := by
  have hn := C.rw.n
  refine e_X10_brightWith (b_X10_brightWith_0 C.sh.k6 ?_)
  try simp only [Option.some.injEq, exists_eq_left', fi32, i10, i00, false_implies, true_implies, not_false_eq_true, not_true_eq_false, true_and, and_true, nI_1, lz0, lz1, ix0, ix11, ix2, C.p, C.sh.p6_0, C.sh.p6_4, C.sh.p6_7, C.sh.p6_8, C.sh.p6_9, C.sh.p6_10, C.sh.p6_11, C.sh.p6_12, C.sh.p6_13, C.sh.p50_1, C.sh.p50_2, C.sh.l60, C.sh.l61, C.rc.w, C.rc.h, C.rc.li, C.rc.mo, C.rc.n, C.rc.nc, C.rc.np, C.sh.rp8 C.irm, C.sh.rl8 C.irm, C.sh.rp9 C.irm, C.sh.rl9 C.irm, C.sh.rp10 C.irm, C.sh.rl10 C.irm, C.sh.rp11 C.irm, C.sh.rl11 C.irm, C.sh.rp12 C.irm, C.sh.rl12 C.irm, C.sh.rp16 C.irm, C.sh.rl16 C.irm]
  refine s_hang C.sh C.rw C.irm C.r51 C.rc hT (fun S2 f2 hW => ?_)
  have g2 := DZ_DC (by omega) (by omega) f2
  have E := C.fr g2
  try simp only [Option.some.injEq, exists_eq_left', fi32, i10, i00, false_implies, true_implies, not_false_eq_true, not_true_eq_false, true_and, and_true, nI_1, lz0, lz1, ix0, ix11, ix2, E.p, E.sh.p6_0, E.sh.p6_4, E.sh.p6_7, E.sh.p6_8, E.sh.p6_9, E.sh.p6_10, E.sh.p6_11, E.sh.p6_12, E.sh.p6_13, E.sh.p50_1, E.sh.p50_2, E.sh.l60, E.sh.l61, E.rc.w, E.rc.h, E.rc.li, E.rc.mo, E.rc.n, E.rc.nc, E.rc.np, E.sh.rp8 E.irm, E.sh.rl8 E.irm, E.sh.rp9 E.irm, E.sh.rl9 E.irm, E.sh.rp10 E.irm, E.sh.rl10 E.irm, E.sh.rp11 E.irm, E.sh.rl11 E.irm, E.sh.rp12 E.irm, E.sh.rl12 E.irm, E.sh.rp16 E.irm, E.sh.rl16 E.irm]
  refine s_spread E.sh E.rw E.irm E.r51 E.rc ht hW ha hn0 (fun S3 f3 hM => ?_)
  have g3 := DZ_DC (by omega) (by omega) f3
  have F := E.fr g3
  try simp only [Option.some.injEq, exists_eq_left', fi32, i10, i00, false_implies, true_implies, not_false_eq_true, not_true_eq_false, true_and, and_true, nI_1, lz0, lz1, ix0, ix11, ix2, F.p, F.sh.p6_0, F.sh.p6_4, F.sh.p6_7, F.sh.p6_8, F.sh.p6_9, F.sh.p6_10, F.sh.p6_11, F.sh.p6_12, F.sh.p6_13, F.sh.p50_1, F.sh.p50_2, F.sh.l60, F.sh.l61, F.rc.w, F.rc.h, F.rc.li, F.rc.mo, F.rc.n, F.rc.nc, F.rc.np, F.sh.rp8 F.irm, F.sh.rl8 F.irm, F.sh.rp9 F.irm, F.sh.rl9 F.irm, F.sh.rp10 F.irm, F.sh.rl10 F.irm, F.sh.rp11 F.irm, F.sh.rl11 F.irm, F.sh.rp12 F.irm, F.sh.rl12 F.irm, F.sh.rp16 F.irm, F.sh.rl16 F.irm, F.sh.p80_0, F.sh.l81, vp_nI (show b < 20 by omega) (show 20 < 2 ^ 31 by omega), nI_clamp (show b < 2 ^ 31 by omega), hM b (by omega)]
  refine h S3 (Or.inr ((f2.wid (fun a j q => ?_)).tr (f3.wid (fun a j q => ?_)))) (fun c => (f3.i _ _ rfl).trans (f2.i _ _ rfl)) (g2.tr g3)
  · rw [← Bool.not_eq_true] at q ⊢
    intro z
    unfold DZ at q z
    rw [Bool.and_eq_true, Nat.ble_eq, Nat.ble_eq] at q z
    omega
  · rw [← Bool.not_eq_true] at q ⊢
    intro z
    unfold DZ at q z
    rw [Bool.and_eq_true, Nat.ble_eq, Nat.ble_eq] at q z
    omega
theorem sub_bits {x y : Int32} : x &&& (y ^^^ (-1)) = 0 ↔ cp_ge x y := by
  rw [z_and]
  constructor
  · intro h i hi
    have := h i
    rw [b_not _ (b_lt hi)] at this
    cases e : bt y i with
    | true => rfl
    | false => exact absurd ⟨hi, by rw [e]; rfl⟩ this
  · intro h i ⟨h1, h2⟩
    rw [b_not _ (b_lt h1), h i h1] at h2
    cases h2
theorem sub_nI {k m : Nat} (hk : k < 1024) (hm : m < 1024) (h : cp_ge (nI k) (nI m)) : k ≤ m ∧ (k ≠ m → bc (nI k) < bc (nI m)) := by
  have hand : k &&& m = k := by
    apply Nat.eq_of_testBit_eq
    intro i
    rw [Nat.testBit_and]
    cases e : k.testBit i with
    | false => rfl
    | true =>
      have hi : i < 10 := by
        rcases Nat.lt_or_ge i 10 with z | z
        · exact z
        · rw [Nat.testBit_lt_two_pow (Nat.lt_of_lt_of_le (show k < 2 ^ 10 by omega) (Nat.pow_le_pow_right (by omega) z))] at e; cases e
      have := h i (by rw [b_nI _ (by omega)]; exact e)
      rw [b_nI _ (by omega)] at this
      rw [this]; rfl
  have hle : k ≤ m := by
    have := Nat.and_le_right (n := k) (m := m)
    omega
  refine ⟨hle, fun hne => ?_⟩
  rw [bc_10 k hk, bc_10 m hm]
  have l1 := cp_n_le (nI k) 10
  have l2 := cp_n_le (nI m) 10
  refine nI_lt ?_ (by omega)
  by_cases e : ∃ i, bt (nI k) i = false ∧ bt (nI m) i = true
  · obtain ⟨i, h1, h2⟩ := e
    exact cp_n_lt h h1 h2 10 (nI_cp (n := 10) hm i h2)
  · have : nI k = nI m := cp_anti h (fun i hi => by
      cases e2 : bt (nI k) i with
      | true => rfl
      | false => exact absurd ⟨i, e2, hi⟩ e)
    exact absurd ((nI_eq (by omega) (by omega)).mp this) hne
/-- the class's search -/
def hc_ (R : rm) (s : sc) (t : Nat → Nat) (a b n m : Nat) : Nat → Int32
  | 0 => nI m
  | k + 1 => if ¬ (nI k &&& (nI m ^^^ (-1))) = 0 ∨ ¬ bc (nI k) < bc (hc_ R s t a b n m k) then hc_ R s t a b n m k else if hdP R s t a b n k = true then nI k else hc_ R s t a b n m k
theorem hd_rng {a b n : Nat} : ∀ k, hd R s t a b n k = -1 ∨ ∃ j, j < k ∧ hd R s t a b n k = nI j ∧ cp_ge (nI j) (db R s)
  | 0 => Or.inl rfl
  | k + 1 => by
    have ih := hd_rng (a := a) (b := b) (n := n) k
    have keep : hd R s t a b n k = -1 ∨ ∃ j, j < k + 1 ∧ hd R s t a b n k = nI j ∧ cp_ge (nI j) (db R s) := by
      rcases ih with e | ⟨j, h1, h2⟩
      · exact Or.inl e
      · exact Or.inr ⟨j, by omega, h2⟩
    unfold hd
    split
    · exact keep
    · rename_i h
      split
      · refine Or.inr ⟨k, by omega, rfl, ?_⟩
        exact sub_bits.mp (Classical.byContradiction (fun z => h (Or.inl z)))
      · exact keep
theorem hd_no {a b n m : Nat} (hR : r_wf R) (ha : a < r_n R) (hm : db R s = nI m) (hP : hdP R s t a b n m = false) : ∀ k, hd R s t a b n k = -1
  | 0 => rfl
  | k + 1 => by
    have ih := hd_no hR ha hm hP k
    unfold hd
    rw [ih]
    split
    · rfl
    · rename_i h
      have hsub : cp_ge (nI k) (db R s) := sub_bits.mp (Classical.byContradiction (fun z => h (Or.inl z)))
      rw [if_neg]
      intro z
      unfold hdP at z hP
      rw [decide_eq_true_iff] at z
      rw [decide_eq_false_iff_not] at hP
      rw [hm] at hsub
      have := lit_anti (R := R) (t := t) (H := hg R s ||| nI k) (H' := hg R s ||| nI m) (n := n) hR (ge_or (ge_l _ _) (fun i hi => ge_r _ _ i (hsub i hi))) ha b
      omega
theorem hd_hc {a b n m : Nat} (hm : db R s = nI m) (hm2 : m < 1024) : ∀ k, k ≤ m → (hd R s t a b n k = -1 ∧ hc_ R s t a b n m k = nI m) ∨ (¬ hd R s t a b n k = -1 ∧ hc_ R s t a b n m k = hd R s t a b n k)
  | 0, _ => Or.inl ⟨rfl, rfl⟩
  | k + 1, hk => by
    have ih := hd_hc (a := a) (b := b) (n := n) hm hm2 k (by omega)
    unfold hd hc_
    rw [hm]
    by_cases hs : (nI k &&& (nI m ^^^ (-1))) = 0
    · have hsub : cp_ge (nI k) (nI m) := sub_bits.mp hs
      have hlt := (sub_nI (by omega) hm2 hsub).2 (by omega)
      rcases ih with ⟨e1, e2⟩ | ⟨e1, e2⟩
      · have c1 : ¬ (¬ (nI k &&& (nI m ^^^ (-1))) = 0 ∨ (¬ (-1 : Int32) = -1 ∧ ¬ bc (nI k) < bc (-1))) := by
          rintro (z | z)
          · exact z hs
          · exact z.1 rfl
        have c2 : ¬ (¬ (nI k &&& (nI m ^^^ (-1))) = 0 ∨ ¬ bc (nI k) < bc (nI m)) := by
          rintro (z | z)
          · exact z hs
          · exact z hlt
        rw [e1, e2, if_neg c1, if_neg c2]
        by_cases hp : hdP R s t a b n k = true
        · rw [if_pos hp, if_pos hp]; exact Or.inr ⟨nI_m1 (by omega), rfl⟩
        · rw [if_neg hp, if_neg hp]; exact Or.inl ⟨rfl, rfl⟩
      · rw [e2]
        by_cases hb : bc (nI k) < bc (hd R s t a b n k)
        · have c1 : ¬ (¬ (nI k &&& (nI m ^^^ (-1))) = 0 ∨ (¬ hd R s t a b n k = -1 ∧ ¬ bc (nI k) < bc (hd R s t a b n k))) := by
            rintro (z | z)
            · exact z hs
            · exact z.2 hb
          have c2 : ¬ (¬ (nI k &&& (nI m ^^^ (-1))) = 0 ∨ ¬ bc (nI k) < bc (hd R s t a b n k)) := by
            rintro (z | z)
            · exact z hs
            · exact z hb
          rw [if_neg c1, if_neg c2]
          by_cases hp : hdP R s t a b n k = true
          · rw [if_pos hp]; exact Or.inr ⟨nI_m1 (by omega), rfl⟩
          · rw [if_neg hp]; exact Or.inr ⟨e1, rfl⟩
        · rw [if_pos (Or.inr ⟨e1, hb⟩), if_pos (Or.inr hb)]; exact Or.inr ⟨e1, rfl⟩
    · rw [if_pos (Or.inl hs), if_pos (Or.inl hs)]; exact ih
theorem hd_end {a b n m : Nat} (hm : db R s = nI m) (hm2 : m < 1024) (hP : hdP R s t a b n m = true) : ∀ k, m < k → k ≤ 1024 → hd R s t a b n k = hc_ R s t a b n m m
  | 0, h, _ => absurd h (by omega)
  | k + 1, h, hk => by
    by_cases e : k = m
    · subst e
      have hh := hd_hc (a := a) (b := b) (n := n) (t := t) hm hm2 k (Nat.le_refl _)
      have hself : (nI k &&& (db R s ^^^ (-1))) = 0 := by rw [hm]; exact sub_bits.mpr (fun _ z => z)
      rcases hh with ⟨e1, e2⟩ | ⟨e1, e2⟩
      · rw [e2, hd, e1, if_neg (fun z => by rcases z with z | z; exact z hself; exact z.1 rfl), if_pos hP]
      · rw [e2, hd]
        rcases hd_rng (R := R) (s := s) (t := t) (a := a) (b := b) (n := n) k with z | ⟨j, j1, j2, j3⟩
        · exact absurd z e1
        · rw [hm] at j3
          have := (sub_nI (by omega) hm2 j3).2 (by omega)
          rw [← j2] at this
          rw [if_pos (Or.inr ⟨e1, fun z => Int32.lt_asymm z this⟩)]
    · have ih := hd_end hm hm2 hP k (by omega) (by omega)
      rw [hd, ← ih, if_pos]
      refine Or.inl (fun z => ?_)
      rw [hm] at z
      have := (sub_nI (by omega) hm2 (sub_bits.mp z)).1
      omega
theorem db_nI (hR : r_wf R) (hs : s_wf R s) : ∃ m, m < 2 ^ r_nc R ∧ db R s = nI m := by
  have nc := hR.nc
  have : cp_in (db R s) (r_nc R) := fun i hi => by
    unfold db at hi
    rw [b_and, Bool.and_eq_true] at hi
    exact hs.bk i hi.1
  exact this.nI (by omega)
theorem c_hide {x1 x2 x3 : Int32} {Q : mj_S → Int32 → Prop} (C : CI L S r 50 rs R s) (T : TKc l G S 50 (r_nc R) t) (ht : ∀ c, c < r_nc R → t c ≤ 99) (h : ∀ S', fr DC S S' → Q S' (A_hide R s t x1 x2 x3)) : M_X10_hide l G 6 x1 x2 x3 S Q := by
  have hn := C.rw.n
  have nc := C.rw.nc
  have h10 := pow10 nc
  obtain ⟨m, hm2, hm⟩ := db_nI C.rw C.sw
  unfold A_hide at h
  refine e_X10_hide (b_X10_hide_0 C.sh.k6 (s_isSquare C (fun a e => ?_) (fun e => ?_)))
  · obtain ⟨ha, ex⟩ := ixn_some (by omega) e
    try simp only [Option.some.injEq, exists_eq_left', fi32, i10, i00, false_implies, true_implies, not_false_eq_true, not_true_eq_false, true_and, and_true, nI_1, lz0, lz1, ix0, ix11, ix2]
    refine s_isSquare C (fun b e2 => ?_) (fun e2 => ?_)
    · obtain ⟨hb, ex2⟩ := ixn_some (by omega) e2
      rw [e, e2] at h
      dsimp only at h
      try simp only [Option.some.injEq, exists_eq_left', fi32, i10, i00, false_implies, true_implies, not_false_eq_true, not_true_eq_false, true_and, and_true, nI_1, lz0, lz1, ix0, ix11, ix2]
      refine s_wit (fun q1 q2 => ?_) (fun q => ?_)
      · obtain ⟨n, n1, n2, en⟩ := y99 q1 q2
        rw [if_neg (fun z => by rcases z with z | z; exact q1 z; exact q2 z), en, nI_clamp (by omega)] at h
        try simp only [Option.some.injEq, exists_eq_left', fi32, i10, i00, false_implies, true_implies, not_false_eq_true, not_true_eq_false, true_and, and_true, nI_1, lz0, lz1, ix0, ix11, ix2, C.p, C.sh.p6_0, C.sh.p6_4, C.sh.p6_7, C.sh.p6_8, C.sh.p6_9, C.sh.p6_10, C.sh.p6_11, C.sh.p6_12, C.sh.p6_13, C.sh.p50_1, C.sh.p50_2, C.sh.l60, C.sh.l61, C.rc.w, C.rc.h, C.rc.li, C.rc.mo, C.rc.n, C.rc.nc, C.rc.np, C.sh.rp8 C.irm, C.sh.rl8 C.irm, C.sh.rp9 C.irm, C.sh.rl9 C.irm, C.sh.rp10 C.irm, C.sh.rl10 C.irm, C.sh.rp11 C.irm, C.sh.rl11 C.irm, C.sh.rp12 C.irm, C.sh.rl12 C.irm, C.sh.rp16 C.irm, C.sh.rl16 C.irm]
        refine s_hung C ?_
        try simp only [Option.some.injEq, exists_eq_left', fi32, i10, i00, false_implies, true_implies, not_false_eq_true, not_true_eq_false, true_and, and_true, nI_1, lz0, lz1, ix0, ix11, ix2, C.p, C.sh.p6_0, C.sh.p6_4, C.sh.p6_7, C.sh.p6_8, C.sh.p6_9, C.sh.p6_10, C.sh.p6_11, C.sh.p6_12, C.sh.p6_13, C.sh.p50_1, C.sh.p50_2, C.sh.l60, C.sh.l61, C.rc.w, C.rc.h, C.rc.li, C.rc.mo, C.rc.n, C.rc.nc, C.rc.np, C.sh.rp8 C.irm, C.sh.rl8 C.irm, C.sh.rp9 C.irm, C.sh.rl9 C.irm, C.sh.rp10 C.irm, C.sh.rl10 C.irm, C.sh.rp11 C.irm, C.sh.rl11 C.irm, C.sh.rp12 C.irm, C.sh.rl12 C.irm, C.sh.rp16 C.irm, C.sh.rl16 C.irm]
        refine s_drawnBack C ?_
        rw [hm, ex, ex2, en]
        try simp only [Option.some.injEq, exists_eq_left', fi32, i10, i00, false_implies, true_implies, not_false_eq_true, not_true_eq_false, true_and, and_true, nI_1, lz0, lz1, ix0, ix11, ix2, C.p, C.sh.p6_0, C.sh.p6_4, C.sh.p6_7, C.sh.p6_8, C.sh.p6_9, C.sh.p6_10, C.sh.p6_11, C.sh.p6_12, C.sh.p6_13, C.sh.p50_1, C.sh.p50_2, C.sh.l60, C.sh.l61, C.rc.w, C.rc.h, C.rc.li, C.rc.mo, C.rc.n, C.rc.nc, C.rc.np, C.sh.rp8 C.irm, C.sh.rl8 C.irm, C.sh.rp9 C.irm, C.sh.rl9 C.irm, C.sh.rp10 C.irm, C.sh.rl10 C.irm, C.sh.rp11 C.irm, C.sh.rl11 C.irm, C.sh.rp12 C.irm, C.sh.rl12 C.irm, C.sh.rp16 C.irm, C.sh.rl16 C.irm]
        refine s_weigh C T (fun S1 f1 hT => ?_)
        have D := C.fr (DW_DC f1)
        have tk : ∀ U, (∀ c, m_gi U 82 c = m_gi S1 82 c) → ∀ X, cp_ge X (hg R s ||| nI m) → ∀ c, c < r_nc R → bt X c = true → m_gi U 82 c = nI (t c) := fun U hU X hX c hc hb => (hU c).trans (hT c hc (hX c hb))
        refine s_brightWith D (tk S1 (fun _ => rfl) _ (fun _ z => z)) ht ha hb n2 (fun S2 _ k2 f2 => ⟨fun z => ?_, fun z => ?_⟩)
        · have hP : hdP R s t a b n m = true := by
            unfold hdP
            rw [decide_eq_true_iff]
            have hl := lit_99 (R := R) (t := t) (H := hg R s ||| nI m) (a := a) n2 b
            have := (nI_leI (b := 0) (by omega) (by omega)).mp z
            omega
          rw [hd_end hm (by omega) hP (2 ^ r_nc R) hm2 h10] at h
          refine dn (P := fun k => ∀ U, fr DC S U → (∀ c, m_gi U 82 c = m_gi S1 82 c) → V_X10_hide_90 l G 6 (nI a) (nI b) (nI n) (hg R s) (nI m) (hc_ R s t a b n m k) (nI k) U Q) m ?_ ?_ S2 ((DW_DC f1).tr f2) k2
          · intro U fU kU
            have E := C.fr fU
            exact b_X10_hide_90 E.sh.k6 ⟨fun _ => h U fU, fun z => absurd (nI_le (Nat.le_refl _) (by omega)) z⟩
          · intro k hk ih U fU kU
            have E := C.fr fU
            have ih2 := ih U fU kU
            unfold hc_ at ih2
            refine b_X10_hide_90 E.sh.k6 ⟨fun z => absurd z (nI_ge hk (by omega)), fun _ => ⟨fun z => ?_, fun z => s_bc (s_bc ⟨fun z2 => ?_, fun z2 => ?_⟩)⟩⟩
            · rw [if_pos (Or.inl z)] at ih2
              try simp only [Option.some.injEq, exists_eq_left', fi32, i10, i00, false_implies, true_implies, not_false_eq_true, not_true_eq_false, true_and, and_true, nI_1, lz0, lz1, ix0, ix11, ix2]
              exact ih2
            · have hsub := sub_bits.mp z
              refine s_brightWith E (tk U kU _ (ge_or (ge_l _ _) (fun i hi => ge_r _ _ i (hsub i hi)))) ht ha hb n2 (fun U2 _ k3 f3 => ?_)
              have ih3 := ih U2 (fU.tr f3) (fun c => (k3 c).trans (kU c))
              unfold hc_ at ih3
              rw [if_neg (fun y => by rcases y with y | y; exact y z; exact y z2)] at ih3
              have hl := lit_99 (R := R) (t := t) (H := hg R s ||| nI k) (a := a) n2 b
              try simp only [Option.some.injEq, exists_eq_left', fi32, i10, i00, false_implies, true_implies, not_false_eq_true, not_true_eq_false, true_and, and_true, nI_1, lz0, lz1, ix0, ix11, ix2, nI_e0 (show lit R (hg R s ||| nI k) t a n b < 2 ^ 31 by omega)]
              refine ⟨fun y => ?_, fun y => ?_⟩
              · rw [if_neg (by unfold hdP; simp [y])] at ih3; exact ih3
              · rw [if_pos (by unfold hdP; simp [y])] at ih3; exact ih3
            · rw [if_pos (Or.inr z2)] at ih2
              try simp only [Option.some.injEq, exists_eq_left', fi32, i10, i00, false_implies, true_implies, not_false_eq_true, not_true_eq_false, true_and, and_true, nI_1, lz0, lz1, ix0, ix11, ix2]
              exact ih2
        · have hP : hdP R s t a b n m = false := by
            unfold hdP
            rw [decide_eq_false_iff_not]
            intro y
            rw [y] at z
            exact z (by decide)
          rw [hd_no C.rw ha hm hP] at h
          exact h S2 ((DW_DC f1).tr f2)
      · rw [if_pos q] at h
        try simp only [Option.some.injEq, exists_eq_left', fi32, i10, i00, false_implies, true_implies, not_false_eq_true, not_true_eq_false, true_and, and_true, nI_1, lz0, lz1, ix0, ix11, ix2]
        exact h S fr.rf
    · rw [e, e2] at h
      try simp only [Option.some.injEq, exists_eq_left', fi32, i10, i00, false_implies, true_implies, not_false_eq_true, not_true_eq_false, true_and, and_true, nI_1, lz0, lz1, ix0, ix11, ix2]
      exact h S fr.rf
  · rw [e] at h
    try simp only [Option.some.injEq, exists_eq_left', fi32, i10, i00, false_implies, true_implies, not_false_eq_true, not_true_eq_false, true_and, and_true, nI_1, lz0, lz1, ix0, ix11, ix2]
    exact h S fr.rf
end CL
