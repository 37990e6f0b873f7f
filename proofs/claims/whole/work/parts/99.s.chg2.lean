/-! calls that change something: acts, years, the past, fades -/
section CS
variable {l : Launch} {G : mj_G} {L r rs nx q : Nat} {S S' : mj_S} {a : ast} {R : rm} {s : sc} {H : hy} {I : imt} {Q : mj_S → Int32 → Prop} {x1 x2 x3 x4 x5 : Int32}
/-- a refusal -/
def a_ref (a : ast) (j : Nat) : ast := (a_R a, a_s a, a_H a, a_I a, a_F a, a_T a, a_l a, a_o a, a_v a, fun i => if i = j then a_f a i + 1 else a_f a i)
def B_act (a : ast) : Nat ⊕ (sc × Int32) → ast
  | .inl j => a_ref a j
  | .inr p => (a_R a, p.1, hpush (a_s a) (a_H a), a_I a, a_F a, a_T a, a_l a, a_o a, a_v a, a_f a)
def V_act : Nat ⊕ (sc × Int32) → Int32
  | .inl _ => -1
  | .inr p => p.2
theorem cv_ref {j : Nat} (w : AW a) (c : CV L S a) (f : fr DQ S S') (g : ∀ i, m_gi S' 88 i = if i = j then m_gi S 88 i + 1 else m_gi S 88 i) : KC S S' ∧ CV L S' (a_ref a j) := by
  obtain ⟨r, rs, nx, C, P, X⟩ := c
  obtain ⟨q, hq, hr, hqr, p6, hrs⟩ := cx_rs C X
  have hD : ∀ b j, DC b j = false → b ≠ 88 → m_gi S' b j = m_gi S b j := fun b j h1 h2 => f.i b j (by
    unfold DQ
    rw [h1, Bool.false_or, ← Bool.not_eq_true, Nat.beq_eq]; exact h2)
  have hx : ∀ b j, xc b j → b ≠ 88 → m_gi S' b j = m_gi S b j := fun b j h1 h2 => hD b j (x_DC h1) h2
  refine ⟨fun b j hb => hx b j (by unfold xc; omega) (by omega), r, rs, nx, ci_z C (C.sh.fr f) hq hqr hrs (fun b j h1 h2 _ => hD b j ?_ (by omega)) (f.p _ _) (f.p _ _), P.keep C.rw (fun b j h1 h2 => hD b j (DC_74 h1 h2) (by omega)) rfl, ?_⟩
  · rw [← Bool.not_eq_true]
    simp only [DC, Bool.or_eq_true, Bool.and_eq_true, Nat.beq_eq, Nat.ble_eq]
    omega
  · obtain ⟨⟨q, h1, h2, h3, h4, h5⟩, hF, hT, hL, ho, hv, hf, hB⟩ := X
    have hl4 := w.2.2.2.2.1.1
    have hL' : LC S' (a_l a) := ⟨(hx _ _ (by unfold xc; omega) (by omega)).trans hL.1, fun i hi => ⟨(hx _ _ (by unfold xc; omega) (by omega)).trans (hL.2 i hi).1, fun j hj => (hx _ _ (by unfold xc; omega) (by omega)).trans ((hL.2 i hi).2 j hj)⟩⟩
    refine ⟨⟨q, h1, h2, h3, (f.p _ _).trans h4, by rw [f.p]; exact h5⟩, ⟨(hx _ _ (by unfold xc; omega) (by omega)).trans hF.1, (hx _ _ (by unfold xc; omega) (by omega)).trans hF.2.1, (hx _ _ (by unfold xc; omega) (by omega)).trans hF.2.2⟩, hT.k (hx _ _ (by unfold xc; omega) (by omega)) (fun j => hx _ _ (by unfold xc; omega) (by omega)), hL', (hx _ _ (by unfold xc; omega) (by omega)).trans ho, (hx _ _ (by unfold xc; omega) (by omega)).trans hv, fun i hi => ?_, hB.keep (fun b j hb => hx _ _ (by unfold xc; omega) (by omega))⟩
    rw [g]
    show _ = if i = j then a_f a i + 1 else a_f a i
    by_cases e : i = j
    · rw [if_pos e, if_pos e, hf i hi]
    · rw [if_neg e, if_neg e, hf i hi]
theorem rv_ref {j : Nat} (d : RV L S a) (f : fr DRQ S S') (g : ∀ i, m_gi S' 107 i = if i = j then m_gi S 107 i + 1 else m_gi S 107 i) : KR S S' ∧ RV L S' (a_ref a j) := by
  have hD : ∀ b j, DR b j = false → b ≠ 107 → m_gi S' b j = m_gi S b j := fun b j h1 h2 => f.i b j (by
    unfold DRQ
    rw [h1, Bool.false_or, ← Bool.not_eq_true, Nat.beq_eq]; exact h2)
  have hx : ∀ b j, xr b j → b ≠ 107 → m_gi S' b j = m_gi S b j := fun b j h1 h2 => hD b j (x_DR h1) h2
  have kz : ∀ b j, zr b j → m_gi S' b j = m_gi S b j := fun b j z => hD b j (by
    unfold zr at z
    rw [← Bool.not_eq_true]
    simp only [DR, Bool.or_eq_true, Bool.and_eq_true, Nat.beq_eq, Nat.ble_eq]
    omega) (by unfold zr at z; omega)
  obtain ⟨C, P, hF, hT, hL, ho, hv, hf⟩ := d
  refine ⟨⟨f.1, fun b j hb => hx b j (Or.inl hb) (by omega), f.2.2.2⟩, ri_z C (C.sh.fr f) kz, rhs_z C.rw P kz, ⟨(hx _ _ (by unfold xr; omega) (by omega)).trans hF.1, fun j hj => ⟨(hx _ _ (by unfold xr; omega) (by omega)).trans (hF.2 j hj).1, (hx _ _ (by unfold xr; omega) (by omega)).trans (hF.2 j hj).2⟩⟩, hT.k (hx _ _ (by unfold xr; omega) (by omega)) (fun j => hx _ _ (by unfold xr; omega) (by omega)), hL.keep (fun b j q1 q2 => hx _ _ (by unfold xr; omega) (by omega)) (hx _ _ (by unfold xr; omega) (by omega)), (hx _ _ (by unfold xr; omega) (by omega)).trans ho, (hx _ _ (by unfold xr; omega) (by omega)).trans hv, fun i hi => ?_⟩
  rw [g]
  show _ = if i = j then a_f a i + 1 else a_f a i
  by_cases e : i = j
  · rw [if_pos e, if_pos e, hf i hi]
  · rw [if_neg e, if_neg e, hf i hi]
/-- the scene or the past have changed -/
theorem cx_a {D : Nat → Nat → Bool} {s' : sc} {H' : hy} {I' : imt} (w : AW a) (X : CX S a r) (f : fg D S S') (k : ∀ b j, xc b j → D b j = false) : KC S S' ∧ CX S' (a_R a, s', H', I', a_F a, a_T a, a_l a, a_o a, a_v a, a_f a) r := ⟨kc_of (fun b j q => f.2.1 b j (k b j q)), X.keep w (fun b j q => f.2.1 b j (k b j q)) (f.2.2 _ _) (f.2.2 _ _)⟩
theorem rx_a {D : Nat → Nat → Bool} {s' : sc} {H' : hy} {I' : imt} (X : RX S a) (f : fg D S S') (k : ∀ b j, xr b j → D b j = false) : KR S S' ∧ RX S' (a_R a, s', H', I', a_F a, a_T a, a_l a, a_o a, a_v a, a_f a) := ⟨⟨f.1, fun b j h => f.2.1 b j (k b j (Or.inl h)), f.2.2⟩, X.keep (fun b j q => f.2.1 b j (k b j q))⟩
theorem act_c {P : Nat ⊕ (sc × Int32)} (w : AW a) (c : CV L S a) (hM : ∀ r rs nx, CI L S r 50 rs (a_R a) (a_s a) → CHS S (a_R a) (a_s a) nx (a_H a) (a_I a) → CQ L S r rs nx (a_R a) (a_s a) (a_H a) (a_I a) Q P → x1 = x1) (h : ∀ S', KC S S' → CV L S' (B_act a P) → Q S' (V_act P)) : ∃ r rs nx, CI L S r 50 rs (a_R a) (a_s a) ∧ CHS S (a_R a) (a_s a) nx (a_H a) (a_I a) ∧ CQ L S r rs nx (a_R a) (a_s a) (a_H a) (a_I a) Q P := by
  have c0 := c
  obtain ⟨r, rs, nx, C, P', X⟩ := c
  refine ⟨r, rs, nx, C, P', ?_⟩
  cases P with
  | inl j =>
    refine fun S' f g => ?_
    have q := cv_ref w c0 f g
    exact h S' q.1 q.2
  | inr p =>
    refine fun S' f C' P2 => ?_
    have q := cx_a (s' := p.1) (H' := hpush (a_s a) (a_H a)) (I' := a_I a) w X f.fg (fun b j z => x_DA z)
    exact h S' q.1 ⟨r, rs, _, C', P2, q.2⟩
theorem act_r {P : Nat ⊕ (sc × Int32)} (d : RV L S a) (h : ∀ S', KR S S' → RV L S' (B_act a P) → Q S' (V_act P)) : RQ L S (a_R a) (a_s a) (a_H a) (a_I a) Q P := by
  cases P with
  | inl j =>
    refine fun S' f g => ?_
    have q := rv_ref d f g
    exact h S' q.1 q.2
  | inr p =>
    refine fun S' f C' P2 => ?_
    have q := rx_a (s' := p.1) (H' := hpush (a_s a) (a_H a)) (I' := a_I a) d.2.2 f.fg (fun b j z => x_DRA z)
    exact h S' q.1 ⟨C', P2, q.2⟩
theorem act_w {P : Nat ⊕ (sc × Int32)} (w : AW a) (c : CV L S a) (he : ∀ p, P = .inr p → s_yr p.1 = s_yr (a_s a)) : AW (B_act a P) := by
  obtain ⟨r, rs, nx, C, P', X⟩ := c
  cases P with
  | inl j => exact w
  | inr p => exact ⟨w.1.push C.sw (he p rfl), w.2⟩
theorem pull_y {p : sc × Int32} (e : P_pull R s x1 x2 x3 = .inr p) : s_yr p.1 = s_yr s := by
  unfold P_pull at e
  cases e1 : ixn (r_np R) x1 with
  | none => simp only [e1] at e; cases e
  | some pp =>
    cases e2 : ixn (r_nc R) x2 with
    | none => simp only [e1, e2] at e; cases e
    | some c =>
      simp only [e1, e2] at e
      by_cases g : ri R (st R s (s_pl s pp)) c = false ∨ (if bt (s_bk s) c = true then (1 : Int32) else 0) = x3
      · rw [if_pos g] at e; cases e
      · rw [if_neg g] at e
        by_cases g2 : s_cl s c = 0
        · rw [if_pos g2] at e; cases e
        · rw [if_neg g2] at e; cases e; rfl
theorem go_y {p : sc × Int32} (e : P_go R s x1 x2 = .inr p) : s_yr p.1 = s_yr s := by
  unfold P_go at e
  split at e
  · split at e
    · cases e
    · cases e; rfl
  · cases e
theorem creep_y {p : sc × Int32} (e : P_creep R s x1 x2 = .inr p) : s_yr p.1 = s_yr s := by
  unfold P_creep at e
  split at e
  · split at e
    · cases e
    · cases e; rfl
  · cases e
theorem mend_y {p : sc × Int32} (e : P_mend R s x1 x2 = .inr p) : s_yr p.1 = s_yr s := by
  unfold P_mend at e
  split at e
  · split at e
    · cases e
    · split at e
      · cases e
      · cases e; rfl
  · cases e
theorem p_pull (V : INV L S) (h : PH L S (M_X11_pull l G 89 x1 x2 x3) Q) : M_X10_pull l G 6 x1 x2 x3 S Q :=
  p_u (A := fun a => V_act (P_pull (a_R a) (a_s a) x1 x2 x3)) (B := fun a => B_act a (P_pull (a_R a) (a_s a) x1 x2 x3)) (Mc := M_X10_pull l G 6 x1 x2 x3) (Mr := M_X11_pull l G 89 x1 x2 x3) (fun a S Q w c h => by
    obtain ⟨r, rs, nx, C, P, K⟩ := act_c (x1 := x1) w c (fun _ _ _ _ _ _ => rfl) h
    exact c_pull C P K) (fun a S Q w d h => d_pull d.1 d.2.1 (act_r d h)) (fun a S w c => act_w w c (fun p e => pull_y e)) V h
theorem p_go (V : INV L S) (h : PH L S (M_X11_go l G 89 x1 x2) Q) : M_X10_go l G 6 x1 x2 S Q :=
  p_u (A := fun a => V_act (P_go (a_R a) (a_s a) x1 x2)) (B := fun a => B_act a (P_go (a_R a) (a_s a) x1 x2)) (Mc := M_X10_go l G 6 x1 x2) (Mr := M_X11_go l G 89 x1 x2) (fun a S Q w c h => by
    obtain ⟨r, rs, nx, C, P, K⟩ := act_c (x1 := x1) w c (fun _ _ _ _ _ _ => rfl) h
    exact c_go C P K) (fun a S Q w d h => d_go d.1 d.2.1 (act_r d h)) (fun a S w c => act_w w c (fun p e => go_y e)) V h
theorem p_creep (V : INV L S) (h : PH L S (M_X11_creep l G 89 x1 x2) Q) : M_X10_creep l G 6 x1 x2 S Q :=
  p_u (A := fun a => V_act (P_creep (a_R a) (a_s a) x1 x2)) (B := fun a => B_act a (P_creep (a_R a) (a_s a) x1 x2)) (Mc := M_X10_creep l G 6 x1 x2) (Mr := M_X11_creep l G 89 x1 x2) (fun a S Q w c h => by
    obtain ⟨r, rs, nx, C, P, K⟩ := act_c (x1 := x1) w c (fun _ _ _ _ _ _ => rfl) h
    exact c_creep C P K) (fun a S Q w d h => d_creep d.1 d.2.1 (act_r d h)) (fun a S w c => act_w w c (fun p e => creep_y e)) V h
theorem p_mend (V : INV L S) (h : PH L S (M_X11_mend l G 89 x1 x2) Q) : M_X10_mend l G 6 x1 x2 S Q :=
  p_u (A := fun a => V_act (P_mend (a_R a) (a_s a) x1 x2)) (B := fun a => B_act a (P_mend (a_R a) (a_s a) x1 x2)) (Mc := M_X10_mend l G 6 x1 x2) (Mr := M_X11_mend l G 89 x1 x2) (fun a S Q w c h => by
    obtain ⟨r, rs, nx, C, P, K⟩ := act_c (x1 := x1) w c (fun _ _ _ _ _ _ => rfl) h
    exact c_mend C P K) (fun a S Q w d h => d_mend d.1 d.2.1 (act_r d h)) (fun a S w c => act_w w c (fun p e => mend_y e)) V h
/-! years -/
def B_yrs (a : ast) : Nat ⊕ Nat → ast
  | .inl j => a_ref a j
  | .inr m => (a_R a, (yit (a_R a) (a_tk a) m (a_s a) (a_H a)).1, (yit (a_R a) (a_tk a) m (a_s a) (a_H a)).2, a_I a, a_F a, a_T a, a_l a, a_o a, a_v a, a_f a)
def V_yrs (a : ast) : Nat ⊕ Nat → Int32
  | .inl _ => -1
  | .inr m => nI (s_yr (yit (a_R a) (a_tk a) m (a_s a) (a_H a)).1)
theorem years_m {m : Nat} {y : sc} (e : P_years R y x1 = .inr m) : s_yr y + m ≤ 999 := by
  unfold P_years at e
  split at e
  · cases e
  · split at e
    · cases e
    · split at e
      · cases e
      · cases e; omega
theorem p_years (V : INV L S) (h : PH L S (M_X11_years l G 89 x1) Q) : M_X10_years l G 6 x1 S Q :=
  p_u (A := fun a => V_yrs a (P_years (a_R a) (a_s a) x1)) (B := fun a => B_yrs a (P_years (a_R a) (a_s a) x1)) (Mc := M_X10_years l G 6 x1) (Mr := M_X11_years l G 89 x1) (fun a S Q w c h => by
    have c0 := c
    obtain ⟨r, rs, nx, C, P, X⟩ := c
    refine c_years C P (X.ck w) a_tok w.yr ?_
    cases e : P_years (a_R a) (a_s a) x1 with
    | inl j =>
      rw [e] at h
      refine fun S' f g => ?_
      have q := cv_ref w c0 f g
      exact h S' q.1 q.2
    | inr m =>
      rw [e] at h
      refine fun S' nx' f C' P2 => ?_
      have q := cx_a (s' := (yit (a_R a) (a_tk a) m (a_s a) (a_H a)).1) (H' := (yit (a_R a) (a_tk a) m (a_s a) (a_H a)).2) (I' := a_I a) w X f (fun b j z => x_DA z)
      exact h S' q.1 ⟨r, rs, nx', C', P2, q.2⟩) (fun a S Q w d h => by
    refine d_years d.1 d.2.1 w.1 (d.rk w) a_tok ?_
    cases e : P_years (a_R a) (a_s a) x1 with
    | inl j =>
      rw [e] at h
      refine fun S' f g => ?_
      have q := rv_ref d f g
      exact h S' q.1 q.2
    | inr m =>
      rw [e] at h
      refine fun S' f C' P2 => ?_
      have q := rx_a (s' := (yit (a_R a) (a_tk a) m (a_s a) (a_H a)).1) (H' := (yit (a_R a) (a_tk a) m (a_s a) (a_H a)).2) (I' := a_I a) d.2.2 f (fun b j z => x_DRA z)
      exact h S' q.1 ⟨C', P2, q.2⟩) (fun a S w c => by
    obtain ⟨r, rs, nx, C, P, X⟩ := c
    show AW (B_yrs a (P_years (a_R a) (a_s a) x1))
    cases e : P_years (a_R a) (a_s a) x1 with
    | inl j => exact w
    | inr m => exact ⟨(yit_wf C.rw m (a_s a) (a_H a) C.sw w.1 (years_m e)).2, w.2⟩) V h
/-! centuries -/
def B_cen (a : ast) (y : Int64) : Option Nat → ast
  | none => a
  | some m => (a_R a, (cit (a_R a) (a_tk a) (nI (a_v a)) m (a_s a, a_H a, y)).1, (cit (a_R a) (a_tk a) (nI (a_v a)) m (a_s a, a_H a, y)).2.1, a_I a, a_F a, a_T a, a_l a, a_o a, a_v a, a_f a)
def V_cen (a : ast) (y : Int64) : Option Nat → Int32
  | none => -1
  | some m => nI (s_yr (cit (a_R a) (a_tk a) (nI (a_v a)) m (a_s a, a_H a, y)).1)
theorem cent_m {m : Nat} {y : sc} (e : P_cent R y x1 = some m) : s_yr y + m ≤ 999 ∧ 0 < r_n R := by
  unfold P_cent at e
  split at e
  · cases e
  · rename_i h
    cases e
    have h1 : ¬ r_n R = 0 := fun z => h (Or.inl z)
    have h2 : ¬ 999 < s_yr y + x1.toNatClampNeg := fun z => h (Or.inr (Or.inr (Or.inr z)))
    omega
theorem p_centuries {y2 : Int64} (V : INV L S) (h : PH L S (M_X11_centuries l G 89 x1 y2) Q) : M_X10_centuries l G 6 x1 y2 S Q :=
  p_u (A := fun a => V_cen a y2 (P_cent (a_R a) (a_s a) x1)) (B := fun a => B_cen a y2 (P_cent (a_R a) (a_s a) x1)) (Mc := M_X10_centuries l G 6 x1 y2) (Mr := M_X11_centuries l G 89 x1 y2) (fun a S Q w c h => by
    have c0 := c
    obtain ⟨r, rs, nx, C, P, X⟩ := c
    refine c_cent C P (X.ck w) a_tok w.yr X.2.2.2.2.2.1 (fun e => ?_) (fun m e S' nx' f C' P2 => ?_)
    · rw [e] at h
      exact h S (fun _ _ _ => rfl) c0
    · rw [e] at h
      have q := cx_a (s' := (cit (a_R a) (a_tk a) (nI (a_v a)) m (a_s a, a_H a, y2)).1) (H' := (cit (a_R a) (a_tk a) (nI (a_v a)) m (a_s a, a_H a, y2)).2.1) (I' := a_I a) w X f (fun b j z => x_DA z)
      exact h S' q.1 ⟨r, rs, nx', C', P2, q.2⟩) (fun a S Q w d h => by
    refine d_cent d.1 d.2.1 w.1 (d.rk w) a_tok d.2.2.2.2.2.2.1 (fun e => ?_) (fun m e S' f C' P2 => ?_)
    · rw [e] at h
      exact h S ⟨rfl, fun _ _ _ => rfl, fun _ _ => rfl⟩ d
    · rw [e] at h
      have q := rx_a (s' := (cit (a_R a) (a_tk a) (nI (a_v a)) m (a_s a, a_H a, y2)).1) (H' := (cit (a_R a) (a_tk a) (nI (a_v a)) m (a_s a, a_H a, y2)).2.1) (I' := a_I a) d.2.2 f (fun b j z => x_DRA z)
      exact h S' q.1 ⟨C', P2, q.2⟩) (fun a S w c => by
    obtain ⟨r, rs, nx, C, P, X⟩ := c
    show AW (B_cen a y2 (P_cent (a_R a) (a_s a) x1))
    cases e : P_cent (a_R a) (a_s a) x1 with
    | none => exact w
    | some m => exact ⟨(cit_wf C.rw (cent_m e).2 m (a_s a) (a_H a) y2 C.sw w.1 (cent_m e).1).2, w.2⟩) V h
/-! undo -/
def B_und (a : ast) : ast := if (a_H a).1 = 0 then a else (a_R a, (a_H a).2.1 0, hpop (a_H a), a_I a, a_F a, a_T a, a_l a, a_o a, a_v a, a_f a)
def V_und (a : ast) : Int32 := if (a_H a).1 = 0 then -1 else nI ((a_H a).1 - 1)
theorem p_undo (V : INV L S) (h : PH L S (M_X11_undo l G 89) Q) : M_X10_undo l G 6 S Q := by
  refine p_u (A := V_und) (B := B_und) (Mc := M_X10_undo l G 6) (Mr := M_X11_undo l G 89) (fun a S Q w c h => ?_) (fun a S Q w d h => ?_) (fun a S w c => ?_) V h
  · have c0 := c
    obtain ⟨r, rs, nx, C, P, X⟩ := c
    unfold B_und V_und at h
    refine c_undo C P w.1 (fun e => ?_) (fun e S' nx' f C' P2 => ?_)
    · rw [if_pos e, if_pos e] at h
      exact h S (fun _ _ _ => rfl) c0
    · rw [if_neg (by omega), if_neg (by omega)] at h
      have q := cx_a (s' := (a_H a).2.1 0) (H' := hpop (a_H a)) (I' := a_I a) w X f.fg (fun b j z => x_DA z)
      exact h S' q.1 ⟨r, rs, nx', C', P2, q.2⟩
  · unfold B_und V_und at h
    by_cases e : (a_H a).1 = 0
    · rw [if_pos e, if_pos e] at h
      refine e_X11_undo (b_X11_undo_0 d.1.sh.k89 ⟨fun z => absurd ?_ z, fun _ => h S ⟨rfl, fun _ _ _ => rfl, fun _ _ => rfl⟩ d⟩)
      rw [d.2.1.1.1.1, e]; rfl
    · rw [if_neg e, if_neg e] at h
      have hk : (a_H a).1 = ((a_H a).1 - 1) + 1 := by omega
      have K := d.2.1.1
      rw [hk] at K
      refine d_undo0 d.1 K (w.1.2.2.2 0 (by omega)).1 (fun S' f C' N' K' => ?_)
      have q := rx_a (s' := (a_H a).2.1 0) (H' := hpop (a_H a)) (I' := a_I a) d.2.2 f.fg (fun b j z => x_DU z)
      exact h S' q.1 ⟨C', ⟨K', N', (f.i _ _ rfl).trans d.2.1.2.2.1, fun z => (d.2.1.2.2.2 z).cong d.1.rw (fun j _ => f.i _ _ rfl)⟩, q.2⟩
  · unfold B_und
    by_cases e : (a_H a).1 = 0
    · rw [if_pos e]; exact w
    · rw [if_neg e]; exact ⟨w.1.pop (by omega), w.2⟩
/-! images -/
def B_img (a : ast) : ast := if r_n (a_R a) = 0 then a else (a_R a, a_s a, a_H a, (true, a_s a, (a_H a).2.2.1, (a_H a).2.2.2), a_F a, a_T a, a_l a, a_o a, a_v a, a_f a)
def V_img (a : ast) : Int32 := if r_n (a_R a) = 0 then -1 else nI (s_yr (a_s a))
theorem p_image (V : INV L S) (h : PH L S (M_X11_image l G 89) Q) : M_X10_image l G 6 S Q := by
  refine p_u (A := V_img) (B := B_img) (Mc := M_X10_image l G 6) (Mr := M_X11_image l G 89) (fun a S Q w c h => ?_) (fun a S Q w d h => ?_) (fun a S w c => ?_) V h
  · have c0 := c
    obtain ⟨r, rs, nx, C, P, X⟩ := c
    unfold B_img V_img at h
    refine c_image C P (fun e => ?_) (fun e S' f C' P2 => ?_)
    · rw [if_pos e, if_pos e] at h
      exact h S (fun _ _ _ => rfl) c0
    · rw [if_neg (by omega), if_neg (by omega)] at h
      have q := cx_a (s' := a_s a) (H' := a_H a) (I' := (true, a_s a, (a_H a).2.2.1, (a_H a).2.2.2)) w X f.fg (fun b j z => x_DIc z)
      exact h S' q.1 ⟨r, rs, nx, C', P2, q.2⟩
  · unfold B_img V_img at h
    refine d_image d.1 d.2.1.2.1 (fun e S' f e46 N' => ?_) (fun e => ?_)
    · rw [if_neg (by omega), if_neg (by omega)] at h
      have q := rx_a (s' := a_s a) (H' := a_H a) (I' := (true, a_s a, (a_H a).2.2.1, (a_H a).2.2.2)) d.2.2 f.fg (fun b j z => x_DI z)
      have hD : ∀ b j, b ≠ 118 → ¬ (b = 89 ∧ j = 46) → m_gi S' b j = m_gi S b j := fun b j h1 h2 => f.i b j (by
        rw [← Bool.not_eq_true]
        simp only [DI, Bool.or_eq_true, Bool.and_eq_true, Nat.beq_eq]
        omega)
      have C' : RI L S' (a_R a) (a_s a) := by
        refine d.1.upd f.1 f.2.2.2 (fun j h1 h2 => hD _ _ (by omega) (by omega)) (fun b j h1 h2 h3 => hD _ _ (by omega) (by omega)) d.1.sw (d.1.rs.keep (fun j => hD _ _ (by omega) (by omega)))
      exact h S' q.1 ⟨C', ⟨⟨⟨(hD _ _ (by omega) (by omega)).trans d.2.1.1.1.1, d.2.1.1.1.2⟩, fun i hi => (d.2.1.1.2 i hi).cong d.1.rw (fun j _ => hD _ _ (by omega) (by omega))⟩, d.2.1.2.1.cong d.1.rw (fun j _ => hD _ _ (by omega) (by omega)), e46, fun _ => N'⟩, q.2⟩
    · rw [if_pos e, if_pos e] at h
      exact h S ⟨rfl, fun _ _ _ => rfl, fun _ _ => rfl⟩ d
  · obtain ⟨r, rs, nx, C, P, X⟩ := c
    unfold B_img
    by_cases e : r_n (a_R a) = 0
    · rw [if_pos e]; exact w
    · rw [if_neg e]; exact ⟨w.1, fun _ => ⟨C.sw, w.1.1.2.1, w.1.1.2.2.1, w.1.1.2.2.2⟩, w.2.2⟩
def B_bck (a : ast) : ast := if (a_I a).1 = true then (a_R a, (a_I a).2.1, (0, (a_H a).2.1, (a_I a).2.2.1, (a_I a).2.2.2), a_I a, a_F a, a_T a, a_l a, a_o a, a_v a, a_f a) else a
def V_bck (a : ast) : Int32 := if (a_I a).1 = true then nI (s_yr (a_I a).2.1) else -1
theorem p_back (V : INV L S) (h : PH L S (M_X11_back l G 89) Q) : M_X10_back l G 6 S Q := by
  refine p_u (A := V_bck) (B := B_bck) (Mc := M_X10_back l G 6) (Mr := M_X11_back l G 89) (fun a S Q w c h => ?_) (fun a S Q w d h => ?_) (fun a S w c => ?_) V h
  · have c0 := c
    obtain ⟨r, rs, nx, C, P, X⟩ := c
    unfold B_bck V_bck at h
    refine c_back C P w.2.1 (fun e => ?_) (fun e S' f C' P2 => ?_)
    · rw [if_neg (by rw [e]; decide), if_neg (by rw [e]; decide)] at h
      exact h S (fun _ _ _ => rfl) c0
    · rw [if_pos e, if_pos e] at h
      have q := cx_a (s' := (a_I a).2.1) (H' := (0, (a_H a).2.1, (a_I a).2.2.1, (a_I a).2.2.2)) (I' := a_I a) w X f.fg (fun b j z => x_DBc z)
      exact h S' q.1 ⟨r, rs, nx, C', P2, q.2⟩
  · unfold B_bck V_bck at h
    have e46 := d.2.1.2.2.1
    refine d_back (s' := (a_I a).2.1) (lg := (a_I a).2.2.1) d.1 (fun e => ?_) (fun e => ?_)
    · have eI : (a_I a).1 = true := by
        by_cases z : (a_I a).1 = true
        · exact z
        · rw [if_neg z] at e46; exact absurd e46 e
      rw [if_pos eI, if_pos eI] at h
      refine ⟨⟨d.2.1.2.2.2 eI, (w.2.1 eI).1⟩, fun S' f e37 C' N' => ?_⟩
      have q := rx_a (s' := (a_I a).2.1) (H' := (0, (a_H a).2.1, (a_I a).2.2.1, (a_I a).2.2.2)) (I' := a_I a) d.2.2 f.fg (fun b j z => x_DU z)
      exact h S' q.1 ⟨C', ⟨⟨⟨e37, Nat.zero_le _⟩, fun i hi => absurd hi (Nat.not_lt_zero i)⟩, N', (f.i _ _ rfl).trans d.2.1.2.2.1, fun z => (d.2.1.2.2.2 z).cong d.1.rw (fun j _ => f.i _ _ rfl)⟩, q.2⟩
    · have eI : ¬ (a_I a).1 = true := by
        intro z
        rw [if_pos z, e] at e46
        exact absurd e46 (by decide)
      rw [if_neg eI, if_neg eI] at h
      exact h S ⟨rfl, fun _ _ _ => rfl, fun _ _ => rfl⟩ d
  · unfold B_bck
    by_cases e : (a_I a).1 = true
    · rw [if_pos e]
      have hI := w.2.1 e
      exact ⟨⟨⟨Nat.zero_le _, hI.2.1, hI.2.2.1, hI.2.2.2⟩, fun z => absurd z (Nat.lt_irrefl 0), fun i hi => absurd hi (Nat.not_lt_zero _), fun i hi => absurd hi (Nat.not_lt_zero i)⟩, w.2⟩
    · rw [if_neg e]; exact w
/-! fades -/
def B_fad (x1 : Int32) (b : Bool) (a : ast) : ast := match ixn (r_nc (a_R a)) x1 with
  | some c => if (a_F a).1 < 10 then (a_R a, a_s a, a_H a, a_I a, f_add (a_F a) c b, a_T a, a_l a, a_o a, a_v a, a_f a) else a
  | none => a
def V_fad (x1 : Int32) (a : ast) : Int32 := match ixn (r_nc (a_R a)) x1 with
  | some _ => if (a_F a).1 < 10 then nI ((a_F a).1 + 1) else -1
  | none => -1
theorem p_faded (hx : x2 = 0 ∨ x2 = 1) (V : INV L S) (h : PH L S (M_X11_faded l G 89 x1 x2) Q) : M_X10_faded l G 6 x1 x2 S Q := by
  refine p_u (A := V_fad x1) (B := B_fad x1 (decide (x2 ≠ 0))) (Mc := M_X10_faded l G 6 x1 x2) (Mr := M_X11_faded l G 89 x1 x2) (fun a S Q w c h => ?_) (fun a S Q w d h => ?_) (fun a S w c => ?_) V h
  · have c0 := c
    obtain ⟨r, rs, nx, C, P, X⟩ := c
    obtain ⟨q, hq, hr, hqr, p6, hrs⟩ := cx_rs C X
    unfold B_fad V_fad at h
    refine c_faded C X.2.1 w.2.2.1.1 (fun c ec hlt S' hD f1 _ fp F' => ?_) (fun e => ?_)
    · rw [ec] at h
      simp only [if_pos hlt] at h
      have hs' : Sh L S' := ⟨f1.trans C.sh.1, fun x hx => (fp _ _).trans (C.sh.2 x hx)⟩
      refine h S' (fun b j hb => hD b j (by omega)) ⟨r, rs, nx, ci_z C hs' hq hqr hrs (fun b j h1 h2 _ => hD b j (by omega)) (fp _ _) (fp _ _), P.keep C.rw (fun b j h1 h2 => hD b j (by omega)) rfl, ?_⟩
      obtain ⟨⟨q, h1, h2, h3, h4, h5⟩, hF, hT, hL, ho, hv, hf, hB⟩ := X
      have hl4 := w.2.2.2.2.1.1
      exact ⟨⟨q, h1, h2, h3, (fp _ _).trans h4, by rw [fp]; exact h5⟩, F', hT.k (hD _ _ (by omega)) (fun j => hD _ _ (by omega)), ⟨(hD _ _ (by omega)).trans hL.1, fun i hi => ⟨(hD _ _ (by omega)).trans (hL.2 i hi).1, fun j hj => (hD _ _ (by omega)).trans ((hL.2 i hi).2 j hj)⟩⟩, (hD _ _ (by omega)).trans ho, (hD _ _ (by omega)).trans hv, fun i hi => (hD _ _ (by omega)).trans (hf i hi), hB.keep (fun b j hb => hD _ _ (by omega))⟩
    · have hq : ∀ {v}, ixn (r_nc (a_R a)) x1 = v → Q S (-1) := by
        intro v ev
        cases v with
        | none => rw [ev] at h; exact h S (fun _ _ _ => rfl) c0
        | some k =>
          rcases e with e | e
          · rw [ev] at e; cases e
          · rw [ev] at h
            simp only [if_neg (show ¬ (a_F a).1 < 10 by omega)] at h
            exact h S (fun _ _ _ => rfl) c0
      exact hq rfl
  · unfold B_fad V_fad at h
    refine d_faded d.1 d.2.2.1 w.2.2.1.1 hx (fun c ec hlt S' hD f1 _ fp F' => ?_) (fun e => ?_)
    · rw [ec] at h
      simp only [if_pos hlt] at h
      have hs' : Sh L S' := ⟨f1.trans d.1.sh.1, fun x hx => (fp _ _).trans (d.1.sh.2 x hx)⟩
      have kz : ∀ b j, zr b j → m_gi S' b j = m_gi S b j := fun b j z => hD b j (by unfold zr at z; omega) (by unfold zr at z; omega) (by unfold zr at z; omega)
      obtain ⟨C, P, hF, hT, hL, ho, hv, hf⟩ := d
      exact h S' ⟨f1, fun b j hb => hD b j (by omega) (by omega) (by omega), fp⟩ ⟨ri_z C hs' kz, rhs_z C.rw P kz, F', hT.k (hD _ _ (by omega) (by omega) (by omega)) (fun j => hD _ _ (by omega) (by omega) (by omega)), hL.keep (fun b j q1 q2 => hD _ _ (by omega) (by omega) (by omega)) (hD _ _ (by omega) (by omega) (by omega)), (hD _ _ (by omega) (by omega) (by omega)).trans ho, (hD _ _ (by omega) (by omega) (by omega)).trans hv, fun i hi => (hD _ _ (by omega) (by omega) (by omega)).trans (hf i hi)⟩
    · have hq : ∀ {v}, ixn (r_nc (a_R a)) x1 = v → Q S (-1) := by
        intro v ev
        cases v with
        | none => rw [ev] at h; exact h S ⟨rfl, fun _ _ _ => rfl, fun _ _ => rfl⟩ d
        | some k =>
          rcases e with e | e
          · rw [ev] at e; cases e
          · rw [ev] at h
            simp only [if_neg (show ¬ (a_F a).1 < 10 by omega)] at h
            exact h S ⟨rfl, fun _ _ _ => rfl, fun _ _ => rfl⟩ d
      exact hq rfl
  · obtain ⟨r, rs, nx, C, P, X⟩ := c
    have nc := C.rw.nc
    unfold B_fad
    cases ec : ixn (r_nc (a_R a)) x1 with
    | none => exact w
    | some c =>
      show AW (if (a_F a).1 < 10 then _ else a)
      by_cases hlt : (a_F a).1 < 10
      · rw [if_pos hlt]
        have hc := (ixn_some (by omega) ec).1
        refine ⟨w.1, w.2.1, ⟨hlt, fun j hj => ?_⟩, w.2.2.2⟩
        show (if j = (a_F a).1 then c else (a_F a).2.1 j) < _
        by_cases e : j = (a_F a).1
        · rw [if_pos e]; exact hc
        · rw [if_neg e]
          have hj' : j < (a_F a).1 + 1 := hj
          exact w.2.2.1.2 j (by omega)
      · rw [if_neg hlt]; exact w
/-! first and cloth -/
theorem cv_dt (w : AW a) (c : CV L S a) (f : fq DT ET S S') : KC S S' ∧ CV L S' a := by
  obtain ⟨r, rs, nx, C, P, X⟩ := c
  refine ⟨kc_of (fun b j q => f.2.1 b j (x_DT q)), r, rs, nx, C.fT f, P.keep C.rw (fun b j h1 h2 => f.2.1 b j ?_) rfl, X.keep w (fun b j q => f.2.1 b j (x_DT q)) (f.2.2.2 _ _ rfl) (f.2.2.2 _ _ rfl)⟩
  unfold DT
  rw [DC_74 h1 h2, ← Bool.not_eq_true]
  simp only [Bool.or_eq_true, Bool.and_eq_true, Nat.beq_eq, Nat.ble_eq, Bool.false_eq_true, false_or]
  omega
theorem p_first (V : INV L S) (h : PH L S (M_X11_first l G 89 x1) Q) : M_X10_first l G 6 x1 S Q :=
  p_u (A := fun a => A_first (a_R a) (a_tk a) (a_s a) x1) (B := fun a => a) (Mc := M_X10_first l G 6 x1) (Mr := M_X11_first l G 89 x1) (fun a S Q w c h => by
    have c0 := c
    obtain ⟨r, rs, nx, C, P, X⟩ := c
    exact c_first C (X.ck w) a_tok w.yr (fun S' f => by have q := cv_dt w c0 f; exact h S' q.1 q.2)) (fun a S Q w d h => d_first d.1 (d.rk w) a_tok w.yr (fun S' f => h S' (kr_of f (fun b j q => x_DR q)) (d.dr f))) (fun a S w _ => w) V h
theorem p_cloth (V : INV L S) (h : PH L S (M_X11_cloth l G 89 x1) Q) : M_X10_cloth l G 6 x1 S Q :=
  p_u (A := fun a => A_cloth (a_R a) (a_tk a) (a_s a) x1) (B := fun a => a) (Mc := M_X10_cloth l G 6 x1) (Mr := M_X11_cloth l G 89 x1) (fun a S Q w c h => by
    have c0 := c
    obtain ⟨r, rs, nx, C, P, X⟩ := c
    exact c_cloth C (X.ck w) a_tok w.yr (fun S' f => by have q := cv_dt w c0 f; exact h S' q.1 q.2)) (fun a S Q w d h => d_cloth d.1 (d.rk w) a_tok w.yr (fun S' f => h S' (kr_of f (fun b j q => x_DR q)) (d.dr f))) (fun a S w _ => w) V h
end CS
