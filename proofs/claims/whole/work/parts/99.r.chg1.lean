/-! calls that change something: tape, laws, heat, fades -/
def zr (b j : Nat) : Prop := (b = 89 ∧ ((25 ≤ j ∧ j ≤ 27) ∨ j = 37 ∨ j = 46)) ∨ (103 ≤ b ∧ b ≤ 106) ∨ b = 108 ∨ b = 109 ∨ b = 112 ∨ b = 118
section CH
variable {l : Launch} {G : mj_G} {L r rs nx q : Nat} {S S' : mj_S} {a : ast} {R : rm} {s : sc} {H : hy} {I : imt} {Q : mj_S → Int32 → Prop} {x1 x2 x3 x4 x5 : Int32}
theorem ri_z (C : RI L S R s) (hs : Sh L S') (k : ∀ b j, zr b j → m_gi S' b j = m_gi S b j) : RI L S' R s := by
  have g : ∀ b j, 103 ≤ b → b ≤ 106 → m_gi S' b j = m_gi S b j := fun b j h1 h2 => k b j (Or.inr (Or.inl ⟨h1, h2⟩))
  have g9 : ∀ j, 25 ≤ j → j ≤ 27 → m_gi S' 89 j = m_gi S 89 j := fun j h1 h2 => k 89 j (Or.inl ⟨rfl, Or.inl ⟨h1, h2⟩⟩)
  obtain ⟨⟨a1, a2, a3⟩, ⟨b1, b2, b3, b4⟩, c, d, e⟩ := C.rr
  refine ⟨hs, C.rw, C.sw, ⟨⟨(g9 _ (by omega) (by omega)).trans a1, (g9 _ (by omega) (by omega)).trans a2, (g9 _ (by omega) (by omega)).trans a3⟩, ⟨(g _ _ (by omega) (by omega)).trans b1, (g _ _ (by omega) (by omega)).trans b2, (g _ _ (by omega) (by omega)).trans b3, (g _ _ (by omega) (by omega)).trans b4⟩, fun i hi => ⟨(g _ _ (by omega) (by omega)).trans (c i hi).1, (g _ _ (by omega) (by omega)).trans (c i hi).2.1, (g _ _ (by omega) (by omega)).trans (c i hi).2.2.1, (g _ _ (by omega) (by omega)).trans (c i hi).2.2.2⟩, fun i hi => (g _ _ (by omega) (by omega)).trans (d i hi), fun u w hu hw => ⟨(k _ _ (by unfold zr; omega)).trans (e u w hu hw).1, (k _ _ (by unfold zr; omega)).trans (e u w hu hw).2⟩⟩, C.rs.keep (fun j => g _ _ (by omega) (by omega))⟩
theorem rhs_z (hR : r_wf R) (P : RHS S R s H I) (k : ∀ b j, zr b j → m_gi S' b j = m_gi S b j) : RHS S' R s H I :=
  ⟨⟨⟨(k _ _ (by unfold zr; omega)).trans P.1.1.1, P.1.1.2⟩, fun i hi => (P.1.2 i hi).cong hR (fun j _ => k _ _ (by unfold zr; omega))⟩, P.2.1.cong hR (fun j _ => k _ _ (by unfold zr; omega)), (k _ _ (by unfold zr; omega)).trans P.2.2.1, fun z => (P.2.2.2 z).cong hR (fun j _ => k _ _ (by unfold zr; omega))⟩
theorem ci_z (C : CI L S r 50 rs R s) (hs : Sh L S') (hq : isQ q) (hqr : q ≠ r) (hrs : rs = r ∨ rs = 51) (k : ∀ b j, 32 ≤ b → b ≤ 78 → ¬ (q ≤ b ∧ b ≤ q + 8) → m_gi S' b j = m_gi S b j) (p1 : m_gp S' 6 5 = m_gp S 6 5) (p2 : m_gp S' 50 0 = m_gp S 50 0) : CI L S' r 50 rs R s := by
  have hr : r = 32 ∨ r = 41 := C.hr
  have hq' : q = 32 ∨ q = 41 := hq
  refine ⟨hs, C.rw, C.sw, C.hr, C.hx, p1.trans C.p, C.rc.keep (fun b j q1 q2 => k b j (by omega) (by omega) (by omega)), ⟨p2.trans C.sn.p, C.sn.hrs, C.sn.rc.keep (fun b j q1 q2 => k b j (by omega) (by omega) (by omega))⟩, fun c hc => (k _ _ (by omega) (by omega) (by omega)).trans (C.sn.cl hc), (k _ _ (by omega) (by omega) (by omega)).trans C.sn.bk, fun p hp => (k _ _ (by omega) (by omega) (by omega)).trans (C.sn.pl hp), (k _ _ (by omega) (by omega) (by omega)).trans C.sn.yr⟩
theorem cx_rs (C : CI L S r 50 rs R s) (X : CX S a r) : ∃ q, isQ q ∧ isQ r ∧ q ≠ r ∧ m_gp S 6 6 = some q ∧ (rs = r ∨ rs = 51) := by
  obtain ⟨q, h1, h2, h3, h4, h5⟩ := X.1
  refine ⟨q, h1, h2, h3, h4, ?_⟩
  have p := C.sn.p
  rcases h5 with h5 | h5
  · rw [p] at h5; exact Or.inl (Option.some.inj h5)
  · rw [p] at h5; exact Or.inr (Option.some.inj h5)
/-! feed -/
def B_feed (x1 x2 x3 x4 x5 : Int32) (a : ast) : ast := if (a_T a).2 + A_fcnt x1 x2 x3 x4 x5 ≤ 240 then (a_R a, a_s a, a_H a, a_I a, a_F a, A_feed x1 x2 x3 x4 x5 (a_T a), a_l a, a_o a, a_v a, a_f a) else a
def V_feed (x1 x2 x3 x4 x5 : Int32) (a : ast) : Int32 := if (a_T a).2 + A_fcnt x1 x2 x3 x4 x5 ≤ 240 then nI ((a_T a).2 + A_fcnt x1 x2 x3 x4 x5) else -1
theorem apd_ok {T : tpe} {v : Nat} (hT : ∀ i, i < T.2 → T.1 i < 256) (hv : v < 256) : ∀ i, i < (apd T v).2 → (apd T v).1 i < 256 := by
  intro i hi
  rw [apd_2] at hi
  unfold apd
  by_cases h : v = 0
  · rw [if_pos h] at hi ⊢
    exact hT i hi
  · rw [if_neg h] at hi ⊢
    show (if i = T.2 then v else T.1 i) < 256
    by_cases e : i = T.2
    · rw [if_pos e]; exact hv
    · rw [if_neg e]; exact hT i (by omega)
theorem apn_ok (x : Int32) : ∀ (m : Nat) (T : tpe), (∀ i, i < T.2 → T.1 i < 256) → ∀ i, i < (apn x m T).2 → (apn x m T).1 i < 256
  | 0, T, h => h
  | m + 1, T, h => apn_ok x m (apd T (bte x (3 - m))) (apd_ok h (bte_u x).2)
theorem p_feed (V : INV L S) (h : PH L S (M_X11_feed l G 89 x1 x2 x3 x4 x5) Q) : M_X10_feed l G 6 x1 x2 x3 x4 x5 S Q := by
  refine p_u (A := V_feed x1 x2 x3 x4 x5) (B := B_feed x1 x2 x3 x4 x5) (Mc := M_X10_feed l G 6 x1 x2 x3 x4 x5) (Mr := M_X11_feed l G 89 x1 x2 x3 x4 x5) (fun a S Q w c h => ?_) (fun a S Q w d h => ?_) (fun a S w c => ?_) V h
  · obtain ⟨r, rs, nx, C, P, X⟩ := c
    obtain ⟨q, hq, hr, hqr, p6, hrs⟩ := cx_rs C X
    refine c_feed C.sh X.2.2.1 w.2.2.2.1.1 (fun hle S' f T' => ?_) (fun hgt => ?_)
    · unfold B_feed V_feed at h
      rw [if_pos hle, if_pos hle] at h
      have hD : ∀ b j, ¬ (b = 6 ∧ j = 1) → b ≠ 7 → m_gi S' b j = m_gi S b j := fun b j h1 h2 => f.i b j (by
        rw [← Bool.not_eq_true]
        simp only [DT7, Bool.or_eq_true, Bool.and_eq_true, Nat.beq_eq]
        omega)
      refine h S' (fun b j hb => hD b j (by omega) (by omega)) ⟨r, rs, nx, ci_z C (C.sh.fr f) hq hqr hrs (fun b j h1 h2 _ => hD b j (by omega) (by omega)) (f.p _ _) (f.p _ _), P.keep C.rw (fun b j h1 h2 => hD b j (by omega) (by omega)) rfl, ?_⟩
      obtain ⟨⟨q, h1, h2, h3, h4, h5⟩, hF, hT, hL, ho, hv, hf, hB⟩ := X
      have hl4 := w.2.2.2.2.1.1
      exact ⟨⟨q, h1, h2, h3, (f.p _ _).trans h4, by rw [f.p]; exact h5⟩, ⟨(hD _ _ (by omega) (by omega)).trans hF.1, (hD _ _ (by omega) (by omega)).trans hF.2.1, (hD _ _ (by omega) (by omega)).trans hF.2.2⟩, T', ⟨(hD _ _ (by omega) (by omega)).trans hL.1, fun i hi => ⟨(hD _ _ (by omega) (by omega)).trans (hL.2 i hi).1, fun j hj => (hD _ _ (by omega) (by omega)).trans ((hL.2 i hi).2 j hj)⟩⟩, (hD _ _ (by omega) (by omega)).trans ho, (hD _ _ (by omega) (by omega)).trans hv, fun i hi => (hD _ _ (by omega) (by omega)).trans (hf i hi), hB.keep (fun b j hb => hD _ _ (by omega) (by omega))⟩
    · unfold B_feed V_feed at h
      rw [if_neg (by omega), if_neg (by omega)] at h
      exact h S (fun _ _ _ => rfl) ⟨r, rs, nx, C, P, X⟩
  · refine d_feed d.1.sh d.2.2.2.1 w.2.2.2.1.1 (fun hle S' f T' => ?_) (fun hgt => ?_)
    · unfold B_feed V_feed at h
      rw [if_pos hle, if_pos hle] at h
      have hD : ∀ b j, ¬ (b = 89 ∧ j = 2) → b ≠ 90 → m_gi S' b j = m_gi S b j := fun b j h1 h2 => f.i b j (by
        rw [← Bool.not_eq_true]
        simp only [DT90, Bool.or_eq_true, Bool.and_eq_true, Nat.beq_eq]
        omega)
      have kz : ∀ b j, zr b j → m_gi S' b j = m_gi S b j := fun b j z => hD b j (by unfold zr at z; omega) (by unfold zr at z; omega)
      obtain ⟨C, P, hF, hT, hL, ho, hv, hf⟩ := d
      exact h S' ⟨f.1, fun b j hb => hD b j (by omega) (by omega), f.2.2.2⟩ ⟨ri_z C (C.sh.fr f) kz, rhs_z C.rw P kz, ⟨(hD _ _ (by omega) (by omega)).trans hF.1, fun j hj => ⟨(hD _ _ (by omega) (by omega)).trans (hF.2 j hj).1, (hD _ _ (by omega) (by omega)).trans (hF.2 j hj).2⟩⟩, T', hL.keep (fun b j q1 q2 => hD _ _ (by omega) (by omega)) (hD _ _ (by omega) (by omega)), (hD _ _ (by omega) (by omega)).trans ho, (hD _ _ (by omega) (by omega)).trans hv, fun i hi => (hD _ _ (by omega) (by omega)).trans (hf i hi)⟩
    · unfold B_feed V_feed at h
      rw [if_neg (by omega), if_neg (by omega)] at h
      exact h S ⟨rfl, fun _ _ _ => rfl, fun _ _ => rfl⟩ d
  · unfold B_feed
    by_cases hle : (a_T a).2 + A_fcnt x1 x2 x3 x4 x5 ≤ 240
    · rw [if_pos hle]
      refine ⟨w.1, w.2.1, w.2.2.1, ⟨?_, ?_⟩, w.2.2.2.2⟩
      · show (A_feed x1 x2 x3 x4 x5 (a_T a)).2 ≤ 240
        rw [A_feed_2]; exact hle
      · exact apn_ok _ 4 _ (apn_ok _ 4 _ (apn_ok _ 4 _ (apn_ok _ 4 _ (apn_ok _ 4 _ w.2.2.2.1.2))))
    · rw [if_neg hle]; exact w
/-! end -/
def B_end (x : Int32) (a : ast) : ast := match ixn ((a_T a).2 + 1) x with
  | some k => (a_R a, a_s a, a_H a, a_I a, a_F a, ((a_T a).1, k), a_l a, a_o a, a_v a, a_f a)
  | none => a
def V_end (x : Int32) (a : ast) : Int32 := match ixn ((a_T a).2 + 1) x with
  | some _ => 1
  | none => 0
theorem p_end (V : INV L S) (h : PH L S (M_X11_end l G 89 x1) Q) : M_X10_end l G 6 x1 S Q := by
  refine p_u (A := V_end x1) (B := B_end x1) (Mc := M_X10_end l G 6 x1) (Mr := M_X11_end l G 89 x1) (fun a S Q w c h => ?_) (fun a S Q w d h => ?_) (fun a S w c => ?_) V h
  · obtain ⟨r, rs, nx, C, P, X⟩ := c
    obtain ⟨q, hq, hr, hqr, p6, hrs⟩ := cx_rs C X
    unfold B_end V_end at h
    refine c_end C.sh X.2.2.1.1 w.2.2.2.1.1 (fun k ek S' e' => ?_) (fun ek => ?_)
    · rw [ek] at h
      have hk := (ixn_some (by have := w.2.2.2.1.1; omega) ek).1
      have hD : ∀ b j, ¬ (b = 6 ∧ j = 1) → m_gi S' b j = m_gi S b j := fun b j h1 => by rw [e', m_gi_si, if_neg h1]
      have f : S'.1 = S.1 := by rw [e']; rfl
      have fp : ∀ b j, m_gp S' b j = m_gp S b j := fun b j => by rw [e']; rfl
      have hs' : Sh L S' := by rw [e']; exact C.sh.si
      refine h S' (fun b j hb => hD b j (by omega)) ⟨r, rs, nx, ci_z C hs' hq hqr hrs (fun b j h1 h2 _ => hD b j (by omega)) (fp _ _) (fp _ _), P.keep C.rw (fun b j h1 h2 => hD b j (by omega)) rfl, ?_⟩
      obtain ⟨⟨q, h1, h2, h3, h4, h5⟩, hF, hT, hL, ho, hv, hf, hB⟩ := X
      have hl4 := w.2.2.2.2.1.1
      exact ⟨⟨q, h1, h2, h3, (fp _ _).trans h4, by rw [fp]; exact h5⟩, ⟨(hD _ _ (by omega)).trans hF.1, (hD _ _ (by omega)).trans hF.2.1, (hD _ _ (by omega)).trans hF.2.2⟩, ⟨by rw [e', m_gi_si, if_pos ⟨rfl, rfl⟩], fun i hi => (hD _ _ (by omega)).trans (hT.2 i (by have hi' : i < k := hi; omega))⟩, ⟨(hD _ _ (by omega)).trans hL.1, fun i hi => ⟨(hD _ _ (by omega)).trans (hL.2 i hi).1, fun j hj => (hD _ _ (by omega)).trans ((hL.2 i hi).2 j hj)⟩⟩, (hD _ _ (by omega)).trans ho, (hD _ _ (by omega)).trans hv, fun i hi => (hD _ _ (by omega)).trans (hf i hi), hB.keep (fun b j hb => hD _ _ (by omega))⟩
    · rw [ek] at h
      exact h S (fun _ _ _ => rfl) ⟨r, rs, nx, C, P, X⟩
  · unfold B_end V_end at h
    refine d_end d.1.sh d.2.2.2.1.1 w.2.2.2.1.1 (fun k ek S' e' => ?_) (fun ek => ?_)
    · rw [ek] at h
      have hk := (ixn_some (by have := w.2.2.2.1.1; omega) ek).1
      have hD : ∀ b j, ¬ (b = 89 ∧ j = 2) → m_gi S' b j = m_gi S b j := fun b j h1 => by rw [e', m_gi_si, if_neg h1]
      have hs' : Sh L S' := by rw [e']; exact d.1.sh.si
      have kz : ∀ b j, zr b j → m_gi S' b j = m_gi S b j := fun b j z => hD b j (by unfold zr at z; omega)
      obtain ⟨C, P, hF, hT, hL, ho, hv, hf⟩ := d
      exact h S' ⟨by rw [e']; rfl, fun b j hb => hD b j (by omega), fun b j => by rw [e']; rfl⟩ ⟨ri_z C hs' kz, rhs_z C.rw P kz, ⟨(hD _ _ (by omega)).trans hF.1, fun j hj => ⟨(hD _ _ (by omega)).trans (hF.2 j hj).1, (hD _ _ (by omega)).trans (hF.2 j hj).2⟩⟩, ⟨by rw [e', m_gi_si, if_pos ⟨rfl, rfl⟩], fun i hi => (hD _ _ (by omega)).trans (hT.2 i (by have hi' : i < k := hi; omega))⟩, hL.keep (fun b j q1 q2 => hD _ _ (by omega)) (hD _ _ (by omega)), (hD _ _ (by omega)).trans ho, (hD _ _ (by omega)).trans hv, fun i hi => (hD _ _ (by omega)).trans (hf i hi)⟩
    · rw [ek] at h
      exact h S ⟨rfl, fun _ _ _ => rfl, fun _ _ => rfl⟩ d
  · unfold B_end
    cases ek : ixn ((a_T a).2 + 1) x1 with
    | none => exact w
    | some k =>
      have hk := (ixn_some (by have := w.2.2.2.1.1; omega) ek).1
      exact ⟨w.1, w.2.1, w.2.2.1, ⟨by have := w.2.2.2.1.1; show k ≤ 240; omega, fun i hi => w.2.2.2.1.2 i (by have hi' : i < k := hi; omega)⟩, w.2.2.2.2⟩
/-! law -/
def B_law (x : Int32) (a : ast) : ast := if -1 ≤ x.toInt ∧ x.toInt < ((a_l a).length : Int) then (a_R a, a_s a, a_H a, a_I a, a_F a, a_T a, a_l a, x, a_v a, a_f a) else a
def V_law (x : Int32) (a : ast) : Int32 := if -1 ≤ x.toInt ∧ x.toInt < ((a_l a).length : Int) then 1 else 0
theorem p_law (V : INV L S) (h : PH L S (M_X11_law l G 89 x1) Q) : M_X10_law l G 6 x1 S Q := by
  refine p_u (A := V_law x1) (B := B_law x1) (Mc := M_X10_law l G 6 x1) (Mr := M_X11_law l G 89 x1) (fun a S Q w c h => ?_) (fun a S Q w d h => ?_) (fun a S w c => ?_) V h
  · obtain ⟨r, rs, nx, C, P, X⟩ := c
    obtain ⟨q, hq, hr, hqr, p6, hrs⟩ := cx_rs C X
    unfold B_law V_law at h
    refine c_law C.sh X.2.2.2.1.1 w.2.2.2.2.1.1 (fun ok S' e' => ?_) (fun ok => ?_)
    · unfold lw_ok at ok
      rw [if_pos ok, if_pos ok] at h
      have hD : ∀ b j, ¬ (b = 23 ∧ j = 1) → m_gi S' b j = m_gi S b j := fun b j h1 => by rw [e', m_gi_si, if_neg h1]
      have fp : ∀ b j, m_gp S' b j = m_gp S b j := fun b j => by rw [e']; rfl
      have hs' : Sh L S' := by rw [e']; exact C.sh.si
      refine h S' (fun b j hb => hD b j (by omega)) ⟨r, rs, nx, ci_z C hs' hq hqr hrs (fun b j h1 h2 _ => hD b j (by omega)) (fp _ _) (fp _ _), P.keep C.rw (fun b j h1 h2 => hD b j (by omega)) rfl, ?_⟩
      obtain ⟨⟨q, h1, h2, h3, h4, h5⟩, hF, hT, hL, ho, hv, hf, hB⟩ := X
      have hl4 := w.2.2.2.2.1.1
      exact ⟨⟨q, h1, h2, h3, (fp _ _).trans h4, by rw [fp]; exact h5⟩, ⟨(hD _ _ (by omega)).trans hF.1, (hD _ _ (by omega)).trans hF.2.1, (hD _ _ (by omega)).trans hF.2.2⟩, hT.k (hD _ _ (by omega)) (fun j => hD _ _ (by omega)), ⟨(hD _ _ (by omega)).trans hL.1, fun i hi => ⟨(hD _ _ (by omega)).trans (hL.2 i hi).1, fun j hj => (hD _ _ (by omega)).trans ((hL.2 i hi).2 j hj)⟩⟩, by rw [e', m_gi_si, if_pos ⟨rfl, rfl⟩], (hD _ _ (by omega)).trans hv, fun i hi => (hD _ _ (by omega)).trans (hf i hi), hB.keep (fun b j hb => hD _ _ (by omega))⟩
    · unfold lw_ok at ok
      rw [if_neg ok, if_neg ok] at h
      exact h S (fun _ _ _ => rfl) ⟨r, rs, nx, C, P, X⟩
  · unfold B_law V_law at h
    refine d_law d.1.sh d.2.2.2.2.1.1 w.2.2.2.2.1.1 (fun ok S' e' => ?_) (fun ok => ?_)
    · unfold lw_ok at ok
      rw [if_pos ok, if_pos ok] at h
      have hD : ∀ b j, ¬ (b = 89 ∧ j = 30) → m_gi S' b j = m_gi S b j := fun b j h1 => by rw [e', m_gi_si, if_neg h1]
      have hs' : Sh L S' := by rw [e']; exact d.1.sh.si
      have kz : ∀ b j, zr b j → m_gi S' b j = m_gi S b j := fun b j z => hD b j (by unfold zr at z; omega)
      obtain ⟨C, P, hF, hT, hL, ho, hv, hf⟩ := d
      exact h S' ⟨by rw [e']; rfl, fun b j hb => hD b j (by omega), fun b j => by rw [e']; rfl⟩ ⟨ri_z C hs' kz, rhs_z C.rw P kz, ⟨(hD _ _ (by omega)).trans hF.1, fun j hj => ⟨(hD _ _ (by omega)).trans (hF.2 j hj).1, (hD _ _ (by omega)).trans (hF.2 j hj).2⟩⟩, hT.k (hD _ _ (by omega)) (fun j => hD _ _ (by omega)), hL.keep (fun b j q1 q2 => hD _ _ (by omega)) (hD _ _ (by omega)), by rw [e', m_gi_si, if_pos ⟨rfl, rfl⟩], (hD _ _ (by omega)).trans hv, fun i hi => (hD _ _ (by omega)).trans (hf i hi)⟩
    · unfold lw_ok at ok
      rw [if_neg ok, if_neg ok] at h
      exact h S ⟨rfl, fun _ _ _ => rfl, fun _ _ => rfl⟩ d
  · unfold B_law
    by_cases ok : -1 ≤ x1.toInt ∧ x1.toInt < ((a_l a).length : Int)
    · rw [if_pos ok]; exact ⟨w.1, w.2.1, w.2.2.1, w.2.2.2.1, w.2.2.2.2.1, ok, w.2.2.2.2.2.2⟩
    · rw [if_neg ok]; exact w
/-! heat -/
def B_heat (x : Int32) (a : ast) : ast := match ixn 100 x with
  | some k => (a_R a, a_s a, a_H a, a_I a, a_F a, a_T a, a_l a, a_o a, k, a_f a)
  | none => a
def V_heat (x : Int32) (a : ast) : Int32 := match ixn 100 x with
  | some k => if k = a_v a then 0 else 1
  | none => 0
theorem p_heat (V : INV L S) (h : PH L S (M_X11_heat l G 89 x1) Q) : M_X10_heat l G 6 x1 S Q := by
  refine p_u (A := V_heat x1) (B := B_heat x1) (Mc := M_X10_heat l G 6 x1) (Mr := M_X11_heat l G 89 x1) (fun a S Q w c h => ?_) (fun a S Q w d h => ?_) (fun a S w c => ?_) V h
  · obtain ⟨r, rs, nx, C, P, X⟩ := c
    obtain ⟨q, hq, hr, hqr, p6, hrs⟩ := cx_rs C X
    unfold B_heat V_heat at h
    refine c_heat C.sh X.2.2.2.2.2.1 w.2.2.2.2.2.2 (fun k ek hne S' e' => ?_) (fun hno => ?_)
    · rw [ek] at h
      simp only [if_neg hne] at h
      have hD : ∀ b j, ¬ (b = 6 ∧ j = 14) → m_gi S' b j = m_gi S b j := fun b j h1 => by rw [e', m_gi_si, if_neg h1]
      have fp : ∀ b j, m_gp S' b j = m_gp S b j := fun b j => by rw [e']; rfl
      have hs' : Sh L S' := by rw [e']; exact C.sh.si
      refine h S' (fun b j hb => hD b j (by omega)) ⟨r, rs, nx, ci_z C hs' hq hqr hrs (fun b j h1 h2 _ => hD b j (by omega)) (fp _ _) (fp _ _), P.keep C.rw (fun b j h1 h2 => hD b j (by omega)) rfl, ?_⟩
      obtain ⟨⟨q, h1, h2, h3, h4, h5⟩, hF, hT, hL, ho, hv, hf, hB⟩ := X
      have hl4 := w.2.2.2.2.1.1
      exact ⟨⟨q, h1, h2, h3, (fp _ _).trans h4, by rw [fp]; exact h5⟩, ⟨(hD _ _ (by omega)).trans hF.1, (hD _ _ (by omega)).trans hF.2.1, (hD _ _ (by omega)).trans hF.2.2⟩, hT.k (hD _ _ (by omega)) (fun j => hD _ _ (by omega)), ⟨(hD _ _ (by omega)).trans hL.1, fun i hi => ⟨(hD _ _ (by omega)).trans (hL.2 i hi).1, fun j hj => (hD _ _ (by omega)).trans ((hL.2 i hi).2 j hj)⟩⟩, (hD _ _ (by omega)).trans ho, by rw [e', m_gi_si, if_pos ⟨rfl, rfl⟩], fun i hi => (hD _ _ (by omega)).trans (hf i hi), hB.keep (fun b j hb => hD _ _ (by omega))⟩
    · have e : ∀ {v}, ixn 100 x1 = v → Q S 0 := by
        intro v ev
        cases v with
        | none => rw [ev] at h; exact h S (fun _ _ _ => rfl) ⟨r, rs, nx, C, P, X⟩
        | some k =>
          rw [ev] at h
          have hk := hno k ev
          simp only [if_pos hk] at h
          subst hk
          exact h S (fun _ _ _ => rfl) ⟨r, rs, nx, C, P, X⟩
      exact e rfl
  · unfold B_heat V_heat at h
    refine d_heat d.1.sh d.2.2.2.2.2.2.1 w.2.2.2.2.2.2 (fun k ek hne S' e' => ?_) (fun hno => ?_)
    · rw [ek] at h
      simp only [if_neg hne] at h
      have hD : ∀ b j, ¬ (b = 89 ∧ j = 31) → m_gi S' b j = m_gi S b j := fun b j h1 => by rw [e', m_gi_si, if_neg h1]
      have hs' : Sh L S' := by rw [e']; exact d.1.sh.si
      have kz : ∀ b j, zr b j → m_gi S' b j = m_gi S b j := fun b j z => hD b j (by unfold zr at z; omega)
      obtain ⟨C, P, hF, hT, hL, ho, hv, hf⟩ := d
      exact h S' ⟨by rw [e']; rfl, fun b j hb => hD b j (by omega), fun b j => by rw [e']; rfl⟩ ⟨ri_z C hs' kz, rhs_z C.rw P kz, ⟨(hD _ _ (by omega)).trans hF.1, fun j hj => ⟨(hD _ _ (by omega)).trans (hF.2 j hj).1, (hD _ _ (by omega)).trans (hF.2 j hj).2⟩⟩, hT.k (hD _ _ (by omega)) (fun j => hD _ _ (by omega)), hL.keep (fun b j q1 q2 => hD _ _ (by omega)) (hD _ _ (by omega)), (hD _ _ (by omega)).trans ho, by rw [e', m_gi_si, if_pos ⟨rfl, rfl⟩], fun i hi => (hD _ _ (by omega)).trans (hf i hi)⟩
    · have e : ∀ {v}, ixn 100 x1 = v → Q S 0 := by
        intro v ev
        cases v with
        | none => rw [ev] at h; exact h S ⟨rfl, fun _ _ _ => rfl, fun _ _ => rfl⟩ d
        | some k =>
          rw [ev] at h
          have hk := hno k ev
          simp only [if_pos hk] at h
          subst hk
          exact h S ⟨rfl, fun _ _ _ => rfl, fun _ _ => rfl⟩ d
      exact e rfl
  · unfold B_heat
    cases ek : ixn 100 x1 with
    | none => exact w
    | some k =>
      have hk := (ixn_some (by omega) ek).1
      exact ⟨w.1, w.2.1, w.2.2.1, w.2.2.2.1, w.2.2.2.2.1, w.2.2.2.2.2.1, by show k ≤ 99; omega⟩
end CH
