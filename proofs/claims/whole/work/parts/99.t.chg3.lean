/-! fault, text, person -/
section CT_
variable {l : Launch} {G : mj_G} {L r rs nx q : Nat} {S S' : mj_S} {a : ast} {R : rm} {s : sc} {H : hy} {I : imt} {Q : mj_S → Int32 → Prop} {x1 x2 x3 x4 x5 : Int32}
theorem cv_fq {D : Nat → Nat → Bool} (w : AW a) (C : CI L S r 50 rs (a_R a) (a_s a)) (P : CHS S (a_R a) (a_s a) nx (a_H a) (a_I a)) (X : CX S a r) (hq : isQ q) (hqr : q ≠ r) (hrs : rs = r ∨ rs = 51) (f : fq D E8 S S') (k1 : ∀ b j, 32 ≤ b → b ≤ 78 → ¬ (q ≤ b ∧ b ≤ q + 8) → D b j = false) (k2 : ∀ b j, xc b j → D b j = false) : KC S S' ∧ CV L S' a := by
  have hq' : q = 32 ∨ q = 41 := hq
  refine ⟨kc_of (fun b j z => f.2.1 b j (k2 b j z)), r, rs, nx, ci_z C (C.sh.fq8 f) hq hqr hrs (fun b j h1 h2 h3 => f.2.1 b j (k1 b j h1 h2 h3)) (f.2.2.2 _ _ rfl) (f.2.2.2 _ _ rfl), P.keep C.rw (fun b j h1 h2 => f.2.1 b j (k1 b j (by omega) h2 (by omega))) rfl, X.keep w (fun b j z => f.2.1 b j (k2 b j z)) (f.2.2.2 _ _ rfl) (f.2.2.2 _ _ rfl)⟩
theorem D8_z {b j : Nat} (hq : isQ q) (h : b ≠ 8 ∧ b ≠ 19 ∧ ¬ (q ≤ b ∧ b ≤ q + 8)) : D8 q b j = false := by
  rw [← Bool.not_eq_true]
  simp only [D8, Bool.or_eq_true, Bool.and_eq_true, Nat.beq_eq, Nat.ble_eq]
  omega
theorem cv_f0 (w : AW a) (C : CI L S r 50 rs (a_R a) (a_s a)) (P : CHS S (a_R a) (a_s a) nx (a_H a) (a_I a)) (X : CX S a r) (hq : isQ q) (hqr : q ≠ r) (hrs : rs = r ∨ rs = 51) (f : fq (D8 q) E8 S S') : KC S S' ∧ CV L S' a := by
  have hq' : q = 32 ∨ q = 41 := hq
  exact cv_fq w C P X hq hqr hrs f (fun b j h1 h2 h3 => D8_z hq ⟨by omega, by omega, h3⟩) (fun b j z => D8_z hq (by unfold xc at z; omega))
theorem cv_f1 (w : AW a) (C : CI L S r 50 rs (a_R a) (a_s a)) (P : CHS S (a_R a) (a_s a) nx (a_H a) (a_I a)) (X : CX S a r) (hq : isQ q) (hqr : q ≠ r) (hrs : rs = r ∨ rs = 51) (f : fq D20w E8 S S') : KC S S' ∧ CV L S' a :=
  cv_fq w C P X hq hqr hrs f (fun b j h1 h2 h3 => D20w_f (by omega) (by omega)) (fun b j z => D20w_f (by unfold xc at z; omega) (by unfold xc at z; omega))
theorem lrf_do {x : Nat} {ls : List (List cls)} (K : LRf S ls) (hl : lok ls) (f : fr (Do x) S S') (hx : ls.length ≤ x) : LRf S' ls := by
  refine ⟨(f.i _ _ (Do_no (by omega))).trans K.1, fun i hi => ?_⟩
  have hc := hl.2 _ (List.getElem_mem hi)
  have eE : enA [] ls[i] = enL 0 ls[i] := by rw [enA_enL]; rfl
  have tl := tks_le ls[i] 0
  have t2 := enL_2 ls[i] 0 hc.1
  rw [eE] at hc
  exact (K.2 i hi).ox f (by omega) (by omega) (by omega)
theorem rv_do {x : Nat} (w : AW a) (d : RV L S a) (f : fr (Do x) S S') (hx : (a_l a).length ≤ x) : KR S S' ∧ RV L S' a := by
  have hD : ∀ b j, ¬ ((b = 89 ∧ (j = 3 ∨ j = 4 ∨ j = 5 ∨ j = 14)) ∨ (91 ≤ b ∧ b ≤ 97)) → m_gi S' b j = m_gi S b j := fun b j z => f.i b j (Do_no z)
  have kz : ∀ b j, zr b j → m_gi S' b j = m_gi S b j := fun b j z => hD b j (by unfold zr at z; omega)
  obtain ⟨C, P, hF, hT, hL, ho, hv, hf⟩ := d
  exact ⟨⟨f.1, fun b j hb => hD b j (by omega), f.2.2.2⟩, ri_z C (C.sh.fr f) kz, rhs_z C.rw P kz, ⟨(hD _ _ (by omega)).trans hF.1, fun j hj => ⟨(hD _ _ (by omega)).trans (hF.2 j hj).1, (hD _ _ (by omega)).trans (hF.2 j hj).2⟩⟩, hT.k (hD _ _ (by omega)) (fun j => hD _ _ (by omega)), lrf_do hL w.2.2.2.2.1 f hx, (hD _ _ (by omega)).trans ho, (hD _ _ (by omega)).trans hv, fun i hi => (hD _ _ (by omega)).trans (hf i hi)⟩
theorem D100_z {b j : Nat} (h : ¬ ((b = 89 ∧ (j = 3 ∨ j = 4 ∨ j = 20 ∨ j = 21)) ∨ (100 ≤ b ∧ b ≤ 102))) : D100 b j = false := by
  rw [← Bool.not_eq_true]
  simp only [D100, Bool.or_eq_true, Bool.and_eq_true, Nat.beq_eq, Nat.ble_eq]
  omega
theorem rv_100 (d : RV L S a) (f : fr D100 S S') : KR S S' ∧ RV L S' a := by
  have kz : ∀ b j, zr b j → m_gi S' b j = m_gi S b j := fun b j z => f.i b j (D100_z (by unfold zr at z; omega))
  exact ⟨⟨f.1, fun b j hb => f.i b j (D100_z (by omega)), f.2.2.2⟩, ri_z d.1 (d.1.sh.fr f) kz, rhs_z d.1.rw d.2.1 kz, d.2.2.keep (fun b j z => f.i b j (D100_z (by unfold xr at z; omega)))⟩
/-! fault -/
def V_fau (x : Int32) (a : ast) : Int32 := if x = 0 then (match rdr (a_T a).1 (a_T a).2 18 p_0 0 with
    | .inl j => nI j
    | .inr _ => -1) else if x = 1 then (match lawD (a_T a).1 (a_T a).2 240 [] 0 with
    | .inl j => nI j
    | .inr _ => -1) else -2
theorem p_fault (V : INV L S) (h : PH L S (M_X11_fault l G 89 x1) Q) : M_X10_fault l G 6 x1 S Q := by
  refine p_u (A := V_fau x1) (B := fun a => a) (Mc := M_X10_fault l G 6 x1) (Mr := M_X11_fault l G 89 x1) (fun a S Q w c h => ?_) (fun a S Q w d h => ?_) (fun a S w c => w) V h
  · have c0 := c
    obtain ⟨r, rs, nx, C, P, X⟩ := c
    obtain ⟨q, hq, hr, hqr, p6, hrs⟩ := cx_rs C X
    have hB : TBL S := X.2.2.2.2.2.2.2
    unfold V_fau at h
    by_cases z0 : x1 = 0
    · subst z0
      rw [if_pos rfl] at h
      refine c_fault0 C.sh hB X.2.2.1 w.2.2.2.1 hq p6 (fun j ej S' f => ?_) (fun s' es S' f => ?_)
      · rw [ej] at h
        have k := cv_f0 w C P X hq hqr hrs f
        exact h S' k.1 k.2
      · rw [es] at h
        have k := cv_f0 w C P X hq hqr hrs f
        exact h S' k.1 k.2
    · rw [if_neg z0] at h
      by_cases z1 : x1 = 1
      · subst z1
        rw [if_pos rfl] at h
        refine c_fault1 C.sh hB X.2.2.1 w.2.2.2.1 (fun j ej S' f => ?_) (fun s' es S' f => ?_)
        · rw [ej] at h
          have k := cv_f1 w C P X hq hqr hrs f
          exact h S' k.1 k.2
        · rw [es] at h
          have k := cv_f1 w C P X hq hqr hrs f
          exact h S' k.1 k.2
      · rw [if_neg z1] at h
        exact c_fault2 C.sh z0 z1 (h S (fun _ _ _ => rfl) c0)
  · unfold V_fau at h
    have hl4 := w.2.2.2.2.1.1
    by_cases z0 : x1 = 0
    · subst z0
      rw [if_pos rfl] at h
      refine d_fault0 d.1.sh d.2.2.2.1 w.2.2.2.1 (fun j ej S' f => ?_) (fun s' es S' f => ?_)
      · rw [ej] at h
        have k := rv_100 d f
        exact h S' k.1 k.2
      · rw [es] at h
        have k := rv_100 d f
        exact h S' k.1 k.2
    · rw [if_neg z0] at h
      by_cases z1 : x1 = 1
      · subst z1
        rw [if_pos rfl] at h
        refine d_fault1 d.1.sh d.2.2.2.1 w.2.2.2.1 (fun j ej S' f => ?_) (fun s' es S' f => ?_)
        · rw [ej] at h
          have k := rv_do w d f hl4
          exact h S' k.1 k.2
        · rw [es] at h
          have k := rv_do w d f hl4
          exact h S' k.1 k.2
      · rw [if_neg z1] at h
        exact d_fault2 d.1.sh z0 z1 (h S ⟨rfl, fun _ _ _ => rfl, fun _ _ => rfl⟩ d)
/-! text -/
def a_tx0 (a : ast) (t : ps) : ast := (p_R t, p_s t, (0, (a_H a).2.1, (a_H a).2.2.1, 0), (false, (a_I a).2), (0, (a_F a).2), ((a_T a).1, 0), a_l a, a_o a, a_v a, a_f a)
def a_tx1 (a : ast) (ds : List cls) : ast := (a_R a, a_s a, a_H a, a_I a, a_F a, ((a_T a).1, 0), a_l a ++ [ds], a_o a, a_v a, a_f a)
def B_txt (x : Int32) (a : ast) : ast := if x = 0 then (match rdr (a_T a).1 (a_T a).2 18 p_0 0 with
    | .inl _ => a
    | .inr t => a_tx0 a t) else if x = 1 then (if (a_l a).length = 4 then a else match lawD (a_T a).1 (a_T a).2 240 [] 0 with
    | .inl _ => a
    | .inr ds => a_tx1 a ds) else a
def V_txt (x : Int32) (a : ast) : Int32 := if x = 0 then (match rdr (a_T a).1 (a_T a).2 18 p_0 0 with
    | .inl _ => -1
    | .inr t => nI (p_n t)) else if x = 1 then (if (a_l a).length = 4 then -1 else match lawD (a_T a).1 (a_T a).2 240 [] 0 with
    | .inl _ => -1
    | .inr _ => nI (a_l a).length) else -1
theorem Dtx_z {b j : Nat} (hq : isQ q) (h : b ≠ 8 ∧ b ≠ 19 ∧ ¬ (q ≤ b ∧ b ≤ q + 8) ∧ ¬ (b = 6 ∧ (j = 1 ∨ (16 ≤ j ∧ j ≤ 18))) ∧ b ≠ 50 ∧ b ≠ 60 ∧ b ≠ 61 ∧ ¬ (b = 74 ∧ (j = 0 ∨ j = 4))) : Dtx q b j = false := by
  unfold Dtx
  rw [D8_z hq ⟨h.1, h.2.1, h.2.2.1⟩, ← Bool.not_eq_true]
  simp only [Den, Bool.or_eq_true, Bool.and_eq_true, Nat.beq_eq, Nat.ble_eq, Bool.false_eq_true, false_or]
  omega
theorem Drx_z {b j : Nat} (h : ¬ ((b = 89 ∧ (j = 2 ∨ j = 3 ∨ j = 4 ∨ j = 20 ∨ j = 21 ∨ (25 ≤ j ∧ j ≤ 27) ∨ j = 37 ∨ j = 44 ∨ j = 46)) ∨ (100 ≤ b ∧ b ≤ 106) ∨ b = 108 ∨ b = 109)) : Drx b j = false := by
  unfold Drx
  rw [D100_z (by omega), ← Bool.not_eq_true]
  simp only [Dtk, Bool.or_eq_true, Bool.and_eq_true, Nat.beq_eq, Nat.ble_eq, Bool.false_eq_true, false_or, Bool.not_eq_true', ← Bool.not_eq_true]
  omega
theorem p_text (V : INV L S) (h : PH L S (M_X11_text l G 89 x1) Q) : M_X10_text l G 6 x1 S Q := by
  refine p_u (A := V_txt x1) (B := B_txt x1) (Mc := M_X10_text l G 6 x1) (Mr := M_X11_text l G 89 x1) (fun a S Q w c h => ?_) (fun a S Q w d h => ?_) (fun a S w c => ?_) V h
  · have c0 := c
    obtain ⟨r, rs, nx, C, P, X⟩ := c
    obtain ⟨q, hq, hr, hqr, p6, hrs⟩ := cx_rs C X
    have hq' : q = 32 ∨ q = 41 := hq
    have hB : TBL S := X.2.2.2.2.2.2.2
    unfold B_txt V_txt at h
    by_cases z0 : x1 = 0
    · subst z0
      rw [if_pos rfl, if_pos rfl] at h
      refine c_text0 C.sh hB X.2.2.1 w.2.2.2.1 hq hr hqr C.p p6 (fun j ej S' f => ?_) (fun t es hw hk S' f C' g6 e1 e740 e744 e16 e17 e18 => ?_)
      · rw [ej] at h
        have k := cv_f0 w C P X hq hqr hrs f
        exact h S' k.1 k.2
      · rw [es] at h
        have hD : ∀ b j, b ≠ 8 ∧ b ≠ 19 ∧ ¬ (q ≤ b ∧ b ≤ q + 8) ∧ ¬ (b = 6 ∧ (j = 1 ∨ (16 ≤ j ∧ j ≤ 18))) ∧ b ≠ 50 ∧ b ≠ 60 ∧ b ≠ 61 ∧ ¬ (b = 74 ∧ (j = 0 ∨ j = 4)) → m_gi S' b j = m_gi S b j := fun b j z => f.2.1 b j (Dtx_z hq z)
        obtain ⟨⟨q2, h1, h2, h3, h4, h5⟩, hF, hT, hL, ho, hv, hf, hB⟩ := X
        have hl4 := w.2.2.2.2.1.1
        refine h S' (fun b j hb => hD b j (by omega)) ⟨q, q, nx, C', ⟨⟨⟨e740, (hD _ _ (by omega)).trans P.1.1.2.1, P.1.1.2.2.1, Nat.zero_le _⟩, fun i hi => absurd hi (Nat.not_lt_zero i)⟩, fun y w' y1 y2 y3 y4 => ?_, e744, fun z => by cases z⟩, ?_⟩
        · have y3' : y ≤ 0 := y3
          omega
        · have hL' : LC S' (a_l a) := ⟨(hD _ _ (by omega)).trans hL.1, fun i hi => ⟨(hD _ _ (by omega)).trans (hL.2 i hi).1, fun j hj => (hD _ _ (by omega)).trans ((hL.2 i hi).2 j hj)⟩⟩
          exact ⟨⟨r, hr, hq, fun z => hqr z.symm, g6, Or.inl C'.sn.p⟩, ⟨e16, e17, e18⟩, ⟨e1, fun i hi => absurd hi (Nat.not_lt_zero i)⟩, hL', (hD _ _ (by omega)).trans ho, (hD _ _ (by omega)).trans hv, fun i hi => (hD _ _ (by omega)).trans (hf i hi), hB.keep (fun b j hb => hD _ _ (by omega))⟩
    · rw [if_neg z0, if_neg z0] at h
      by_cases z1 : x1 = 1
      · subst z1
        rw [if_pos rfl, if_pos rfl] at h
        refine c_text1 C.sh hB X.2.2.1 w.2.2.2.1 X.2.2.2.1 w.2.2.2.2.1 (fun e4 => ?_) (fun e4 j ej S' f => ?_) (fun e4 ds es S' f e1 L' => ?_)
        · rw [if_pos e4, if_pos e4] at h
          exact h S (fun _ _ _ => rfl) c0
        · rw [if_neg (by omega), if_neg (by omega), ej] at h
          have k := cv_f1 w C P X hq hqr hrs f
          exact h S' k.1 k.2
        · rw [if_neg (by omega), if_neg (by omega), es] at h
          have hD : ∀ b j, b ≠ 20 → b ≠ 22 → ¬ (b = 6 ∧ j = 1) → ¬ (b = 23 ∧ j = 0) → ¬ (25 ≤ b ∧ b ≤ 29) → m_gi S' b j = m_gi S b j := fun b j h1 h2 h3 h4 h5 => f.2.1 b j (by
            rw [← Bool.not_eq_true]
            simp only [Dt1, Bool.or_eq_true, Bool.and_eq_true, Nat.beq_eq, Nat.ble_eq]
            omega)
          obtain ⟨⟨q2, h1, h2, h3, h4, h5⟩, hF, hT, hL, ho, hv, hf, hB⟩ := X
          refine h S' (fun b j hb => hD b j (by omega) (by omega) (by omega) (by omega) (by omega)) ⟨r, rs, nx, ci_z C (C.sh.fq8 f) hq hqr hrs (fun b j h1 h2 h3 => hD b j (by omega) (by omega) (by omega) (by omega) (by omega)) (f.2.2.2 _ _ rfl) (f.2.2.2 _ _ rfl), P.keep C.rw (fun b j h1 h2 => hD b j (by omega) (by omega) (by omega) (by omega) (by omega)) rfl, ?_⟩
          exact ⟨⟨q2, h1, h2, h3, (f.2.2.2 _ _ rfl).trans h4, by rw [f.2.2.2 50 0 rfl]; exact h5⟩, ⟨(hD _ _ (by omega) (by omega) (by omega) (by omega) (by omega)).trans hF.1, (hD _ _ (by omega) (by omega) (by omega) (by omega) (by omega)).trans hF.2.1, (hD _ _ (by omega) (by omega) (by omega) (by omega) (by omega)).trans hF.2.2⟩, ⟨e1, fun i hi => absurd hi (Nat.not_lt_zero i)⟩, L', (hD _ _ (by omega) (by omega) (by omega) (by omega) (by omega)).trans ho, (hD _ _ (by omega) (by omega) (by omega) (by omega) (by omega)).trans hv, fun i hi => (hD _ _ (by omega) (by omega) (by omega) (by omega) (by omega)).trans (hf i hi), hB.keep (fun b j hb => hD _ _ (by omega) (by omega) (by omega) (by omega) (by omega))⟩
      · rw [if_neg z1, if_neg z1] at h
        exact c_text2 C.sh z0 z1 (h S (fun _ _ _ => rfl) c0)
  · unfold B_txt V_txt at h
    by_cases z0 : x1 = 0
    · subst z0
      rw [if_pos rfl, if_pos rfl] at h
      refine d_text0 d.1.sh d.2.2.2.1 w.2.2.2.1 (fun j ej S' f => ?_) (fun t es hw hk S' f C' e2 e44 e37 e46 e106 => ?_)
      · rw [ej] at h
        have k := rv_100 d f
        exact h S' k.1 k.2
      · rw [es] at h
        have hD : ∀ b j, ¬ ((b = 89 ∧ (j = 2 ∨ j = 3 ∨ j = 4 ∨ j = 20 ∨ j = 21 ∨ (25 ≤ j ∧ j ≤ 27) ∨ j = 37 ∨ j = 44 ∨ j = 46)) ∨ (100 ≤ b ∧ b ≤ 106) ∨ b = 108 ∨ b = 109) → m_gi S' b j = m_gi S b j := fun b j z => f.i b j (Drx_z z)
        obtain ⟨C, P, hF, hT, hL, ho, hv, hf⟩ := d
        refine h S' ⟨f.1, fun b j hb => hD b j (by omega), f.2.2.2⟩ ⟨C', ⟨⟨⟨e37, Nat.zero_le _⟩, fun i hi => absurd hi (Nat.not_lt_zero i)⟩, ⟨C'.rs, ?_, fun j w' h1 h2 => ?_⟩, e46, fun z => by cases z⟩, ⟨e44, fun j hj => absurd hj (Nat.not_lt_zero j)⟩, ⟨e2, fun i hi => absurd hi (Nat.not_lt_zero i)⟩, hL.keep (fun b j q1 q2 => hD _ _ (by omega)) (hD _ _ (by omega)), (hD _ _ (by omega)).trans ho, (hD _ _ (by omega)).trans hv, fun i hi => (hD _ _ (by omega)).trans (hf i hi)⟩
        · exact e106 18 (by omega) (by omega)
        · have h1' : j < min 0 60 := h1
          omega
    · rw [if_neg z0, if_neg z0] at h
      by_cases z1 : x1 = 1
      · subst z1
        rw [if_pos rfl, if_pos rfl] at h
        refine d_text1 d.1.sh d.2.2.2.1 w.2.2.2.1 d.2.2.2.2.1 w.2.2.2.2.1 (fun e4 => ?_) (fun e4 j ej S' f L' => ?_) (fun e4 ds es S' f e2 L' => ?_)
        · rw [if_pos e4, if_pos e4] at h
          exact h S ⟨rfl, fun _ _ _ => rfl, fun _ _ => rfl⟩ d
        · rw [if_neg (by omega), if_neg (by omega), ej] at h
          have k := rv_do w d f (Nat.le_refl _)
          exact h S' k.1 k.2
        · rw [if_neg (by omega), if_neg (by omega), es] at h
          have hD : ∀ b j, ¬ ((b = 89 ∧ (j = 2 ∨ j = 3 ∨ j = 4 ∨ j = 5 ∨ j = 13 ∨ j = 14)) ∨ (91 ≤ b ∧ b ≤ 97)) → m_gi S' b j = m_gi S b j := fun b j z => f.i b j (decide_eq_false z)
          have kz : ∀ b j, zr b j → m_gi S' b j = m_gi S b j := fun b j z => hD b j (by unfold zr at z; omega)
          obtain ⟨C, P, hF, hT, hL, ho, hv, hf⟩ := d
          exact h S' ⟨f.1, fun b j hb => hD b j (by omega), f.2.2.2⟩ ⟨ri_z C (C.sh.fr f) kz, rhs_z C.rw P kz, ⟨(hD _ _ (by omega)).trans hF.1, fun j hj => ⟨(hD _ _ (by omega)).trans (hF.2 j hj).1, (hD _ _ (by omega)).trans (hF.2 j hj).2⟩⟩, ⟨e2, fun i hi => absurd hi (Nat.not_lt_zero i)⟩, L', (hD _ _ (by omega)).trans ho, (hD _ _ (by omega)).trans hv, fun i hi => (hD _ _ (by omega)).trans (hf i hi)⟩
      · rw [if_neg z1, if_neg z1] at h
        exact d_text2 d.1.sh z0 z1 (h S ⟨rfl, fun _ _ _ => rfl, fun _ _ => rfl⟩ d)
  · unfold B_txt
    have hl4 := w.2.2.2.2.1.1
    by_cases z0 : x1 = 0
    · rw [if_pos z0]
      cases e : rdr (a_T a).1 (a_T a).2 18 p_0 0 with
      | inl j => exact w
      | inr t => exact ⟨⟨⟨Nat.zero_le _, Nat.zero_le _, Nat.le_refl 0, Nat.zero_le _⟩, fun z => absurd z (Nat.lt_irrefl 0), fun i hi => absurd hi (Nat.not_lt_zero _), fun i hi => absurd hi (Nat.not_lt_zero i)⟩, (fun z => by cases z), ⟨Nat.zero_le _, fun j hj => absurd hj (Nat.not_lt_zero j)⟩, ⟨Nat.zero_le _, fun i hi => absurd hi (Nat.not_lt_zero i)⟩, w.2.2.2.2⟩
    · rw [if_neg z0]
      by_cases z1 : x1 = 1
      · rw [if_pos z1]
        by_cases e4 : (a_l a).length = 4
        · rw [if_pos e4]; exact w
        · rw [if_neg e4]
          cases e : lawD (a_T a).1 (a_T a).2 240 [] 0 with
          | inl j => exact w
          | inr ds =>
            have ok := lawD_ok w.2.2.2.1.1 w.2.2.2.1.2 240 [] 0 ds (Nat.zero_le _) (Nat.le_refl 0) (fun c hc => by cases hc) e
            refine ⟨w.1, w.2.1, w.2.2.1, ⟨Nat.zero_le _, fun i hi => absurd hi (Nat.not_lt_zero i)⟩, ⟨?_, fun cs hm => ?_⟩, ?_, w.2.2.2.2.2.2⟩
            · show (a_l a ++ [ds]).length ≤ 4
              rw [List.length_append, List.length_singleton]; omega
            · rcases List.mem_append.mp hm with g | g
              · exact w.2.2.2.2.1.2 cs g
              · rw [List.mem_singleton] at g; rw [g]; exact ok
            · have o := w.2.2.2.2.2.1
              unfold lw_ok at o ⊢
              show -1 ≤ (a_o a).toInt ∧ (a_o a).toInt < (((a_l a ++ [ds]).length : Nat) : Int)
              rw [List.length_append, List.length_singleton]; omega
      · rw [if_neg z1]; exact w
/-! person -/
theorem p_person (hl : l.stackTraces = false) (V : INV L S) (h : ∀ S1 k, K5 S S1 → Sh L S1 → (∀ Q2 : mj_S → Int32 → Prop, (∀ S2 v, K5 S S2 → INV L S2 → m_ln S2 119 = 1 → m_gi S2 89 0 = k → (k = 0 → m_gl S2 119 0 = v.toInt64) → Q2 S2 v) → M_X11_person l G 89 x1 x2 S1 Q2) → Q S1 k) : M_L_person l G 6 x1 x2 119 S Q := by
  obtain ⟨a, w, c, d⟩ := V
  have c0 := c
  obtain ⟨r, rs, nx, C, P, X⟩ := c
  have D890_z : ∀ {b j : Nat}, ¬ (b = 89 ∧ j = 0) → D890 b j = false := by
    intro b j z
    rw [← Bool.not_eq_true]
    simp only [D890, Bool.and_eq_true, Nat.beq_eq]
    exact z
  have rvk : ∀ {S1 S2 : mj_S}, RV L S1 a → fr D890 S1 S2 → RV L S2 a := by
    intro S1 S2 d f
    have kz : ∀ b j, zr b j → m_gi S2 b j = m_gi S1 b j := fun b j z => f.i b j (D890_z (by unfold zr at z; omega))
    exact ⟨ri_z d.1 (d.1.sh.fr f) kz, rhs_z d.1.rw d.2.1 kz, d.2.2.keep (fun b j z => f.i b j (D890_z (by unfold xr at z; omega)))⟩
  refine m_L_person C.sh.k6 C.sh.k119 (c_person hl C (fun v ev S1 f1 => ?_) (fun ev => ?_))
  · have c1 := c0.dc w f1
    have hs1 := c1.sh
    refine ⟨by rw [hs1.l119]; exact vp_nI (p := 0) (by omega) (by omega), ?_⟩
    have d1 := d.keep hs1 (kc_of (fun b j q => f1.i b j (x_DC q)))
    have c2 : CV L (m_sl S1 119 (0 : Int32).toNatClampNeg v.toInt64) a := c1.keep w ⟨rfl, fun _ _ _ => rfl, fun _ _ => rfl⟩
    have d2 : RV L (m_sl S1 119 (0 : Int32).toNatClampNeg v.toInt64) a := d1.keep c2.sh (fun _ _ _ => rfl)
    have k1 : K5 S (m_sl S1 119 (0 : Int32).toNatClampNeg v.toInt64) := fun j => f1.i 5 j (x_DC (by unfold xc; omega))
    refine h _ 0 k1 c2.sh (fun Q2 h2 => d_person d2.1 (fun v' ev' S2 f2 e0 => ?_) (fun ev' => ?_))
    · have e : v' = v := by rw [ev] at ev'; cases ev'; rfl
      subst e
      refine h2 S2 v' (fun j => (f2.i 5 j (D890_z (by omega))).trans (k1 j)) ⟨a, w, c2.keep w ⟨f2.1, fun b j hb => f2.i b j (D890_z (by omega)), f2.2.2.2⟩, rvk d2 f2⟩ (d2.1.sh.fr f2).l119 e0 (fun _ => ?_)
      rw [f2.2.2.1]
      show (m_gl (m_sl S1 119 (0 : Int32).toNatClampNeg v'.toInt64) 119 0) = _
      rw [m_gl_sl, if_pos ⟨rfl, rfl⟩]
    · rw [ev] at ev'; cases ev'
  · refine h S 1 (fun _ => rfl) C.sh (fun Q2 h2 => d_person d.1 (fun v' ev' => ?_) (fun ev' S2 f2 e1 => ?_))
    · rw [ev] at ev'; cases ev'
    · exact h2 S2 0 (fun j => f2.i 5 j (D890_z (by omega))) ⟨a, w, c0.keep w ⟨f2.1, fun b j hb => f2.i b j (D890_z (by omega)), f2.2.2.2⟩, rvk d f2⟩ (d.1.sh.fr f2).l119 e1 (fun z => absurd z (by decide))
end CT_
