/-! all that holds between two calls -/
abbrev ast : Type := rm × sc × hy × imt × fd × tpe × List (List cls) × Int32 × Nat × (Nat → Int32)
abbrev a_R (a : ast) : rm := a.1
abbrev a_s (a : ast) : sc := a.2.1
abbrev a_H (a : ast) : hy := a.2.2.1
abbrev a_I (a : ast) : imt := a.2.2.2.1
abbrev a_F (a : ast) : fd := a.2.2.2.2.1
abbrev a_T (a : ast) : tpe := a.2.2.2.2.2.1
abbrev a_l (a : ast) : List (List cls) := a.2.2.2.2.2.2.1
abbrev a_o (a : ast) : Int32 := a.2.2.2.2.2.2.2.1
abbrev a_v (a : ast) : Nat := a.2.2.2.2.2.2.2.2.1
abbrev a_f (a : ast) : Nat → Int32 := a.2.2.2.2.2.2.2.2.2
def AW (a : ast) : Prop := HW (a_R a) (a_s a) (a_H a) ∧ IW (a_R a) (a_I a) ∧ f_wf (a_R a) (a_F a) ∧ tp_ok (a_T a) ∧ lok (a_l a) ∧ lw_ok (a_l a).length (a_o a) ∧ a_v a ≤ 99
def CX (S : mj_S) (a : ast) (r : Nat) : Prop := (∃ q, isQ q ∧ isQ r ∧ q ≠ r ∧ m_gp S 6 6 = some q ∧ (m_gp S 50 0 = some r ∨ m_gp S 50 0 = some 51)) ∧ CF S (a_F a) ∧ TCf S (a_T a) ∧ LC S (a_l a) ∧ m_gi S 23 1 = a_o a ∧ m_gi S 6 14 = nI (a_v a) ∧ (∀ i, i < 5 → m_gi S 88 i = a_f a i) ∧ TBL S
def CV (L : Nat) (S : mj_S) (a : ast) : Prop := ∃ r rs nx, CI L S r 50 rs (a_R a) (a_s a) ∧ CHS S (a_R a) (a_s a) nx (a_H a) (a_I a) ∧ CX S a r
def RX (S : mj_S) (a : ast) : Prop := RFD S (a_F a) ∧ TRf S (a_T a) ∧ LRf S (a_l a) ∧ m_gi S 89 30 = a_o a ∧ m_gi S 89 31 = nI (a_v a) ∧ ∀ i, i < 5 → m_gi S 107 i = a_f a i
def RV (L : Nat) (S : mj_S) (a : ast) : Prop := RI L S (a_R a) (a_s a) ∧ RHS S (a_R a) (a_s a) (a_H a) (a_I a) ∧ RX S a
def INV (L : Nat) (S : mj_S) : Prop := ∃ a, AW a ∧ CV L S a ∧ RV L S a
/-- cells that lie beside the class's scene and past -/
def xc (a j : Nat) : Prop := a < 8 ∨ a = 88 ∨ (25 ≤ a ∧ a ≤ 29) ∨ (a = 23 ∧ j ≠ 6) ∨ 89 ≤ a
def xr (a j : Nat) : Prop := a < 89 ∨ (a = 89 ∧ (j = 2 ∨ j = 13 ∨ j = 30 ∨ j = 31 ∨ j = 44)) ∨ (90 ≤ a ∧ a ≤ 97) ∨ a = 107 ∨ a = 116 ∨ a = 117
def KC (S S' : mj_S) : Prop := ∀ a j, a = 5 ∨ 89 ≤ a → m_gi S' a j = m_gi S a j
def KR (S S' : mj_S) : Prop := S'.1 = S.1 ∧ (∀ a j, a < 89 → m_gi S' a j = m_gi S a j) ∧ ∀ a j, m_gp S' a j = m_gp S a j
def K5 (S S' : mj_S) : Prop := ∀ j, m_gi S' 5 j = m_gi S 5 j
section IV
variable {l : Launch} {G : mj_G} {L r : Nat} {S S' : mj_S} {a : ast}
theorem AW.yr (h : AW a) : s_yr (a_s a) ≤ 999 := h.1.1.2.1
theorem CV.sh (h : CV L S a) : Sh L S := by
  obtain ⟨r, rs, nx, C, _⟩ := h
  exact C.sh
theorem RV.sh (h : RV L S a) : Sh L S := h.1.sh
theorem CX.keep (h : CX S a r) (w : AW a) (k : ∀ b j, xc b j → m_gi S' b j = m_gi S b j) (kp : m_gp S' 6 6 = m_gp S 6 6) (kp2 : m_gp S' 50 0 = m_gp S 50 0) : CX S' a r := by
  obtain ⟨⟨q, h1, h2, h3, h4, h5⟩, hF, hT, hL, ho, hv, hf, hB⟩ := h
  have x6 : ∀ j, m_gi S' 6 j = m_gi S 6 j := fun j => k _ _ (by unfold xc; omega)
  have hl4 := w.2.2.2.2.1.1
  exact ⟨⟨q, h1, h2, h3, kp.trans h4, by rw [kp2]; exact h5⟩, ⟨(x6 _).trans hF.1, (x6 _).trans hF.2.1, (x6 _).trans hF.2.2⟩, hT.k (x6 _) (fun j => k _ _ (by unfold xc; omega)), ⟨(k _ _ (by unfold xc; omega)).trans hL.1, fun i hi => ⟨(k _ _ (by unfold xc; omega)).trans (hL.2 i hi).1, fun j hj => (k _ _ (by unfold xc; omega)).trans ((hL.2 i hi).2 j hj)⟩⟩, (k _ _ (by unfold xc; omega)).trans ho, (x6 _).trans hv, fun i hi => (k _ _ (by unfold xc; omega)).trans (hf i hi), hB.keep (fun b j hb => k _ _ (by unfold xc; omega))⟩
theorem RX.keep (h : RX S a) (k : ∀ b j, xr b j → m_gi S' b j = m_gi S b j) : RX S' a := by
  obtain ⟨hF, hT, hL, ho, hv, hf⟩ := h
  exact ⟨⟨(k _ _ (by unfold xr; omega)).trans hF.1, fun j hj => ⟨(k _ _ (by unfold xr; omega)).trans (hF.2 j hj).1, (k _ _ (by unfold xr; omega)).trans (hF.2 j hj).2⟩⟩, hT.k (k _ _ (by unfold xr; omega)) (fun j => k _ _ (by unfold xr; omega)), hL.keep (fun b j q1 q2 => k _ _ (by unfold xr; omega)) (k _ _ (by unfold xr; omega)), (k _ _ (by unfold xr; omega)).trans ho, (k _ _ (by unfold xr; omega)).trans hv, fun i hi => (k _ _ (by unfold xr; omega)).trans (hf i hi)⟩
/-- the class's half, while the reference works -/
theorem CV.keep (h : CV L S a) (w : AW a) (k : KR S S') : CV L S' a := by
  obtain ⟨r, rs, nx, C, P, X⟩ := h
  refine ⟨r, rs, nx, C.keep ⟨k.1, fun b j q1 q2 => k.2.1 b j (by omega), k.2.2⟩, P.keep C.rw (fun b j q1 q2 => k.2.1 b j (by omega)) rfl, ?_⟩
  obtain ⟨⟨q, h1, h2, h3, h4, h5⟩, hF, hT, hL, ho, hv, hf, hB⟩ := X
  have g : ∀ b j, b < 89 → m_gi S' b j = m_gi S b j := k.2.1
  have hl4 := w.2.2.2.2.1.1
  exact ⟨⟨q, h1, h2, h3, (k.2.2 _ _).trans h4, by rw [k.2.2]; exact h5⟩, ⟨(g _ _ (by omega)).trans hF.1, (g _ _ (by omega)).trans hF.2.1, (g _ _ (by omega)).trans hF.2.2⟩, hT.k (g _ _ (by omega)) (fun j => g _ _ (by omega)), ⟨(g _ _ (by omega)).trans hL.1, fun i hi => ⟨(g _ _ (by omega)).trans (hL.2 i hi).1, fun j hj => (g _ _ (by omega)).trans ((hL.2 i hi).2 j hj)⟩⟩, (g _ _ (by omega)).trans ho, (g _ _ (by omega)).trans hv, fun i hi => (g _ _ (by omega)).trans (hf i hi), hB.keep (fun b j hb => g _ _ (by omega))⟩
/-- the reference's half, while the class works -/
theorem RV.keep (h : RV L S a) (hs : Sh L S') (k : KC S S') : RV L S' a := by
  obtain ⟨C, P, X⟩ := h
  have g : ∀ b j, 89 ≤ b → m_gi S' b j = m_gi S b j := fun b j q => k b j (Or.inr q)
  refine ⟨⟨hs, C.rw, C.sw, C.rr.keep (fun j _ _ => g _ _ (by omega)) (fun b j q1 _ _ => g _ _ (by omega)), C.rs.keep (fun j => g _ _ (by omega))⟩, ?_, ?_⟩
  · exact ⟨⟨⟨(g _ _ (by omega)).trans P.1.1.1, P.1.1.2⟩, fun i hi => (P.1.2 i hi).cong C.rw (fun j _ => g _ _ (by omega))⟩, P.2.1.cong C.rw (fun j _ => g _ _ (by omega)), (g _ _ (by omega)).trans P.2.2.1, fun z => (P.2.2.2 z).cong C.rw (fun j _ => g _ _ (by omega))⟩
  · obtain ⟨hF, hT, hL, ho, hv, hf⟩ := X
    exact ⟨⟨(g _ _ (by omega)).trans hF.1, fun j hj => ⟨(g _ _ (by omega)).trans (hF.2 j hj).1, (g _ _ (by omega)).trans (hF.2 j hj).2⟩⟩, hT.k (g _ _ (by omega)) (fun j => g _ _ (by omega)), hL.keep (fun b j q1 q2 => g _ _ (by omega)) (g _ _ (by omega)), (g _ _ (by omega)).trans ho, (g _ _ (by omega)).trans hv, fun i hi => (g _ _ (by omega)).trans (hf i hi)⟩
/-- both make a call: the same answer, and all that holds goes on to hold -/
theorem p_u {A : ast → Int32} {B : ast → ast} {Mc Mr : mj_S → (mj_S → Int32 → Prop) → Prop} {Q : mj_S → Int32 → Prop} (hc : ∀ a S Q, AW a → CV L S a → (∀ S', KC S S' → CV L S' (B a) → Q S' (A a)) → Mc S Q) (hr : ∀ a S Q, AW a → RV L S a → (∀ S', KR S S' → RV L S' (B a) → Q S' (A a)) → Mr S Q) (hw : ∀ a S, AW a → CV L S a → AW (B a)) (V : INV L S) (h : ∀ S1 v, K5 S S1 → Sh L S1 → (∀ Q2 : mj_S → Int32 → Prop, (∀ S2, K5 S S2 → INV L S2 → Q2 S2 v) → Mr S1 Q2) → Q S1 v) : Mc S Q := by
  obtain ⟨a, w, c, d⟩ := V
  refine hc a S Q w c (fun S1 k1 c1 => h S1 (A a) (fun j => k1 5 j (Or.inl rfl)) c1.sh (fun Q2 h2 => hr a S1 Q2 w (d.keep c1.sh k1) (fun S2 k2 d2 => h2 S2 (fun j => (k2.2.1 5 j (by omega)).trans (k1 5 j (Or.inl rfl))) ⟨B a, hw a S w c, c1.keep (hw a S w c) k2, d2⟩)))
/-- the class's frames -/
theorem x_DC {b j : Nat} (h : xc b j) : DC b j = false := by
  unfold xc at h
  rw [← Bool.not_eq_true]
  simp only [DC, Bool.or_eq_true, Bool.and_eq_true, Nat.beq_eq, Nat.ble_eq]
  omega
theorem x_DA {b j : Nat} (h : xc b j) : DA b j = false := by
  have := x_DC h
  unfold xc at h
  unfold DA
  rw [this, ← Bool.not_eq_true]
  simp only [D5, Bool.or_eq_true, Bool.and_eq_true, Nat.beq_eq, Nat.ble_eq, Bool.false_eq_true, false_or]
  omega
theorem x_DT {b j : Nat} (h : xc b j) : DT b j = false := by
  have := x_DC h
  unfold xc at h
  unfold DT
  rw [this, ← Bool.not_eq_true]
  simp only [Bool.or_eq_true, Bool.and_eq_true, Nat.beq_eq, Nat.ble_eq, Bool.false_eq_true, false_or]
  omega
theorem x_DIc {b j : Nat} (h : xc b j) : DIc b j = false := by
  unfold xc at h
  rw [← Bool.not_eq_true]
  simp only [DIc, Bool.or_eq_true, Bool.and_eq_true, Nat.beq_eq, Nat.ble_eq]
  omega
theorem x_DBc {b j : Nat} (h : xc b j) : DBc b j = false := by
  unfold xc at h
  rw [← Bool.not_eq_true]
  simp only [DBc, D5, Bool.or_eq_true, Bool.and_eq_true, Nat.beq_eq, Nat.ble_eq]
  omega
theorem kc_of {S S' : mj_S} (k : ∀ b j, xc b j → m_gi S' b j = m_gi S b j) : KC S S' := fun b j h => k b j (by unfold xc; omega)
theorem CV.dc (h : CV L S a) (w : AW a) (f : fr DC S S') : CV L S' a := by
  obtain ⟨r, rs, nx, C, P, X⟩ := h
  exact ⟨r, rs, nx, C.fr f, P.fr C.rw f, X.keep w (fun b j q => f.i b j (x_DC q)) (f.p _ _) (f.p _ _)⟩
theorem x_DR {b j : Nat} (h : xr b j) : DR b j = false := by
  unfold xr at h
  rw [← Bool.not_eq_true]
  simp only [DR, Bool.or_eq_true, Bool.and_eq_true, Nat.beq_eq, Nat.ble_eq]
  omega
theorem x_DRA {b j : Nat} (h : xr b j) : DRA b j = false := by
  have := x_DR h
  unfold xr at h
  unfold DRA
  rw [this, ← Bool.not_eq_true]
  simp only [Bool.or_eq_true, Bool.and_eq_true, Nat.beq_eq, Nat.ble_eq, Bool.false_eq_true, false_or]
  omega
theorem x_DU {b j : Nat} (h : xr b j) : DU b j = false := by
  unfold xr at h
  rw [← Bool.not_eq_true]
  simp only [DU, Bool.or_eq_true, Bool.and_eq_true, Nat.beq_eq, Nat.ble_eq]
  omega
theorem x_DI {b j : Nat} (h : xr b j) : DI b j = false := by
  unfold xr at h
  rw [← Bool.not_eq_true]
  simp only [DI, Bool.or_eq_true, Bool.and_eq_true, Nat.beq_eq, Nat.ble_eq]
  omega
theorem kr_of {D : Nat → Nat → Bool} {S S' : mj_S} (f : fr D S S') (k : ∀ b j, xr b j → D b j = false) : KR S S' := ⟨f.1, fun b j h => f.i b j (k b j (by unfold xr; omega)), f.2.2.2⟩
theorem RV.dr (h : RV L S a) (f : fr DR S S') : RV L S' a := by
  obtain ⟨C, P, X⟩ := h
  exact ⟨C.fr f, P.fr C.rw f, X.keep (fun b j q => f.i b j (x_DR q))⟩
/-- a question -/
theorem p_q {A : ast → Int32} {Mc Mr : mj_S → (mj_S → Int32 → Prop) → Prop} {Q : mj_S → Int32 → Prop} (hc : ∀ a S Q, AW a → CV L S a → (∀ S', fr DC S S' → Q S' (A a)) → Mc S Q) (hr : ∀ a S Q, AW a → RV L S a → (∀ S', fr DR S S' → Q S' (A a)) → Mr S Q) (V : INV L S) (h : ∀ S1 v, K5 S S1 → Sh L S1 → (∀ Q2 : mj_S → Int32 → Prop, (∀ S2, K5 S S2 → INV L S2 → Q2 S2 v) → Mr S1 Q2) → Q S1 v) : Mc S Q :=
  p_u (A := A) (B := fun a => a) (fun a S Q w c h => hc a S Q w c (fun S' f => h S' (kc_of (fun b j q => f.i b j (x_DC q))) (c.dc w f))) (fun a S Q w d h => hr a S Q w d (fun S' f => h S' (kr_of f (fun b j q => x_DR q)) (d.dr f))) (fun a S w _ => w) V h
def a_tk (a : ast) : sc → Nat → Nat := tkL (a_R a) (hlw (a_l a) (a_o a))
theorem CX.ck (X : CX S a r) (w : AW a) : CK l G L S (a_R a) (a_tk a) := CK_of (LCh_of X.2.2.2.1 w.2.2.2.2.1 X.2.2.2.2.1 w.2.2.2.2.2.1)
theorem RV.rk (d : RV L S a) (w : AW a) : RK l G L S (a_R a) (a_tk a) := RK_of (LRh_of d.2.2.2.2.1 w.2.2.2.2.1 d.2.2.2.2.2.1 w.2.2.2.2.2.1)
theorem a_tok : t_ok (a_R a) (a_tk a) := tkL_ok _ _
end IV
