/-! what was: the class -/
def SVc (get : Nat → Int32) (R : rm) (s : sc) : Prop := (∀ c, c < r_nc R → get c = nI (s_cl s c)) ∧ (∀ p, p < r_np R → get (10 + p) = nI (s_pl s p)) ∧ get 16 = s_bk s ∧ get 17 = nI (s_yr s)
theorem SVc.cong {g g' : Nat → Int32} {R : rm} {s : sc} (hR : r_wf R) (h : SVc g R s) (e : ∀ j, j < 18 → g' j = g j) : SVc g' R s := by
  have nc := hR.nc
  have np := hR.np
  exact ⟨fun c hc => (e c (by omega)).trans (h.1 c hc), fun p hp => (e _ (by omega)).trans (h.2.1 p hp), (e _ (by omega)).trans h.2.2.1, (e _ (by omega)).trans h.2.2.2⟩
def D5 (a _j : Nat) : Bool := Nat.beq a 50 || (Nat.ble 60 a && Nat.ble a 61)
theorem D5_no {a j : Nat} (h1 : a ≠ 50) (h2 : a ≠ 60) (h3 : a ≠ 61) : D5 a j = false := by
  unfold D5
  rw [← Bool.not_eq_true, Bool.or_eq_true, Bool.and_eq_true, Nat.beq_eq, Nat.ble_eq, Nat.ble_eq]; omega
theorem ix18 (n : Nat) : nI n * (18 : Int32) = nI (18 * n) := by rw [show (18 : Int32) = nI 18 from rfl, nI_mul, Nat.mul_comm]
theorem o16 (o : Nat) : (nI o + (18 : Int32)) - 2 = nI (o + 16) := by
  rw [show (18 : Int32) = nI 18 from rfl, show (2 : Int32) = nI 2 from rfl, nI_add, sub_v (by omega)]
  congr 1
theorem o17 (o : Nat) : (nI o + (18 : Int32)) - 1 = nI (o + 17) := by
  rw [show (18 : Int32) = nI 18 from rfl, show (1 : Int32) = nI 1 from rfl, nI_add, sub_v (by omega)]
  congr 1
theorem o10 (o : Nat) : nI o + (10 : Int32) = nI (o + 10) := by rw [show (10 : Int32) = nI 10 from rfl, nI_add]
section HC
variable {l : Launch} {G : mj_G} {L r rs : Nat} {R : rm} {s : sc} {S : mj_S}
theorem s_save {b o n : Nat} {Q : mj_S → Prop} (C : CI L S r 50 rs R s) (hk : m_kd S b = 100) (hl : m_ln S b = n) (hn : n < 1000) (ho : o + 18 ≤ n) (hb : b = 75 ∨ b = 77) (h : ∀ S', fr (DZ b b) S S' → (∀ j, j < o ∨ o + 18 ≤ j → m_gi S' b j = m_gi S b j) → SVc (fun j => m_gi S' b (o + j)) R s → Q S') : M_X8_save l G 50 b (nI o) S Q := by
  have nc := C.rw.nc
  have np := C.rw.np
  have cp10 : (10 : Int32).toNatClampNeg = 10 := by decide
  have cp6 : (6 : Int32).toNatClampNeg = 6 := by decide
  refine e_X8_save (b_X8_save_0 C.sh.k50 hk ?_)
  rw [hl, show Int32.ofNat n - (18 : Int32) = nI (n - 18) from sub_v (a := n) (w := 18) (by omega)]
  refine s_witN (by omega) (fun _ _ => ?_) (fun e => ?_)
  · refine ⟨fun _ => ⟨60, C.sh.p50_1, ⟨by decide, nI_pos (by omega), by decide, by rw [C.sh.l60]; decide, by rw [hl, nI_clamp (by omega), cp10]; omega⟩, fun S4 e4 => ?_⟩, fun z => absurd z (by decide)⟩
    rw [lz0, cp10, nI_clamp (by omega)] at e4
    have f4 : fr (DZ b b) S S4 := by rw [e4]; exact fr.row (fun _ => DZ_yes (Nat.le_refl _) (Nat.le_refl _))
    have hs4 := C.sh.fr f4
    have hl4 : m_ln S4 b = n := by unfold m_ln at hl ⊢; rw [f4.1]; exact hl
    refine ⟨61, hs4.p50_2, ⟨by decide, by rw [o10]; exact nI_pos (by omega), by decide, by rw [hs4.l61]; decide, by rw [hl4, o10, nI_clamp (by omega), cp6]; omega⟩, fun S6 e6 => ?_⟩
    rw [lz0, cp6, o10, nI_clamp (by omega)] at e6
    have f6 : fr (DZ b b) S4 S6 := by rw [e6]; exact fr.row (fun _ => DZ_yes (Nat.le_refl _) (Nat.le_refl _))
    have hs6 := hs4.fr f6
    have hl6 : m_ln S6 b = n := by unfold m_ln at hl4 ⊢; rw [f6.1]; exact hl4
    rw [o16, o17]
    refine ⟨by rw [hl6]; exact vp_nI (by omega) (by omega), fun S7 e7 => ?_⟩
    rw [nI_clamp (by omega)] at e7
    have f7 : fr (DZ b b) S6 S7 := by rw [e7]; exact fr.si (DZ_yes (Nat.le_refl _) (Nat.le_refl _))
    have hl7 : m_ln S7 b = n := by unfold m_ln at hl6 ⊢; rw [f7.1]; exact hl6
    refine ⟨by rw [hl7]; exact vp_nI (by omega) (by omega), fun S8 e8 => ?_⟩
    rw [nI_clamp (by omega)] at e8
    have f8 : fr (DZ b b) S7 S8 := by rw [e8]; exact fr.si (DZ_yes (Nat.le_refl _) (Nat.le_refl _))
    have bk6 : m_gi S6 50 3 = s_bk s := ((f6.i _ _ (DZ_no (by omega))).trans (f4.i _ _ (DZ_no (by omega)))).trans C.sn.bk
    have yr7 : m_gi S7 50 4 = nI (s_yr s) := (((f7.i _ _ (DZ_no (by omega))).trans (f6.i _ _ (DZ_no (by omega)))).trans (f4.i _ _ (DZ_no (by omega)))).trans C.sn.yr
    have g6 : ∀ j, m_gi S6 b j = if o ≤ j ∧ j < o + 10 then m_gi S 60 (j - o) else if o + 10 ≤ j ∧ j < o + 16 then m_gi S 61 (j - (o + 10)) else m_gi S b j := by
      intro j
      rw [e6, m_gi_row, if_pos rfl]
      by_cases z1 : o + 10 ≤ j ∧ j < o + 16
      · rw [pk_cpy_in z1.1 (by omega), if_neg (by omega), if_pos z1, Nat.zero_add, f4.i _ _ (DZ_no (by omega))]
      · rw [pk_cpy_out (by omega), e4, m_gi_row, if_pos rfl]
        by_cases z2 : o ≤ j ∧ j < o + 10
        · rw [pk_cpy_in z2.1 z2.2, if_pos z2, Nat.zero_add]
        · rw [pk_cpy_out (by omega), if_neg z2, if_neg z1]
    have g8 : ∀ j, m_gi S8 b j = if j = o + 17 then nI (s_yr s) else if j = o + 16 then s_bk s else m_gi S6 b j := by
      intro j
      rw [e8, m_gi_si]
      by_cases z1 : j = o + 17
      · rw [if_pos ⟨rfl, z1⟩, if_pos z1, yr7]
      · rw [if_neg (fun z => z1 z.2), if_neg z1, e7, m_gi_si]
        by_cases z2 : j = o + 16
        · rw [if_pos ⟨rfl, z2⟩, if_pos z2, bk6]
        · rw [if_neg (fun z => z2 z.2), if_neg z2]
    refine h S8 (((f4.tr f6).tr f7).tr f8) (fun j hj => ?_) ⟨fun c hc => ?_, fun p hp => ?_, ?_, ?_⟩
    · rw [g8, if_neg (by omega), if_neg (by omega), g6, if_neg (by omega), if_neg (by omega)]
    · show m_gi S8 b (o + c) = _
      rw [g8, if_neg (by omega), if_neg (by omega), g6, if_pos (by omega), show o + c - o = c by omega]
      exact C.sn.cl hc
    · show m_gi S8 b (o + (10 + p)) = _
      rw [g8, if_neg (by omega), if_neg (by omega), g6, if_neg (by omega), if_pos (by omega), show o + (10 + p) - (o + 10) = p by omega]
      exact C.sn.pl hp
    · show m_gi S8 b (o + 16) = _
      rw [g8, if_neg (by omega), if_pos rfl]
    · show m_gi S8 b (o + 17) = _
      rw [g8, if_pos rfl]
  · rw [ixn_nI (by omega) (by omega)] at e; cases e
theorem s_load {b o n : Nat} {s' : sc} {Q : mj_S → Prop} (C : CI L S r 50 rs R s) (hk : m_kd S b = 100) (hl : m_ln S b = n) (hn : n < 1000) (ho : o + 18 ≤ n) (hb : b = 75 ∨ b = 77) (hv : SVc (fun j => m_gi S b (o + j)) R s') (hw : s_wf R s') (h : ∀ S', fr D5 S S' → CI L S' r 50 rs R s' → Q S') : M_X8_load l G 50 b (nI o) S Q := by
  have nc := C.rw.nc
  have np := C.rw.np
  have cp10 : (10 : Int32).toNatClampNeg = 10 := by decide
  have cp6 : (6 : Int32).toNatClampNeg = 6 := by decide
  refine e_X8_load (b_X8_load_0 C.sh.k50 hk ?_)
  rw [hl, show Int32.ofNat n - (18 : Int32) = nI (n - 18) from sub_v (a := n) (w := 18) (by omega)]
  refine s_witN (by omega) (fun _ _ => ?_) (fun e => ?_)
  · refine ⟨fun _ => ⟨60, C.sh.p50_1, ⟨nI_pos (by omega), by decide, by decide, by rw [hl, nI_clamp (by omega), cp10]; omega, by rw [C.sh.l60]; decide⟩, fun S4 e4 => ?_⟩, fun z => absurd z (by decide)⟩
    rw [lz0, cp10, nI_clamp (by omega)] at e4
    have f4 : fr D5 S S4 := by rw [e4]; exact fr.row (fun _ => rfl)
    have hs4 := C.sh.fr f4
    have hl4 : m_ln S4 b = n := by unfold m_ln at hl ⊢; rw [f4.1]; exact hl
    refine ⟨61, hs4.p50_2, ⟨by rw [o10]; exact nI_pos (by omega), by decide, by decide, by rw [hl4, o10, nI_clamp (by omega), cp6]; omega, by rw [hs4.l61]; decide⟩, fun S6 e6 => ?_⟩
    rw [lz0, cp6, o10, nI_clamp (by omega)] at e6
    have f6 : fr D5 S4 S6 := by rw [e6]; exact fr.row (fun _ => rfl)
    have hl6 : m_ln S6 b = n := by unfold m_ln at hl4 ⊢; rw [f6.1]; exact hl4
    rw [o16, o17]
    refine ⟨by rw [hl6]; exact vp_nI (by omega) (by omega), fun S7 e7 => ?_⟩
    rw [nI_clamp (by omega)] at e7
    have f7 : fr D5 S6 S7 := by rw [e7]; exact fr.si rfl
    have hl7 : m_ln S7 b = n := by unfold m_ln at hl6 ⊢; rw [f7.1]; exact hl6
    refine ⟨by rw [hl7]; exact vp_nI (by omega) (by omega), fun S8 e8 => ?_⟩
    rw [nI_clamp (by omega)] at e8
    have f8 : fr D5 S7 S8 := by rw [e8]; exact fr.si rfl
    have f := ((f4.tr f6).tr f7).tr f8
    have kb : ∀ U, fr D5 S U → ∀ j, m_gi U b j = m_gi S b j := fun U g j => g.i _ _ (D5_no (by omega) (by omega) (by omega))
    refine h S8 f (C.upd f.1 f.2.2.2 (fun a j h1 h2 h3 h4 h5 => f.i a j (D5_no h1 h2 h3)) hw (fun c hc => ?_) ?_ (fun p hp => ?_) ?_)
    · rw [e8, m_gi_si, if_neg (by omega), e7, m_gi_si, if_neg (by omega), e6, m_gi_row, if_neg (by omega), e4, m_gi_row, if_pos rfl, pk_cpy_in (by omega) (by omega)]
      exact hv.1 c hc
    · rw [e8, m_gi_si, if_neg (by omega), e7, m_gi_si, if_pos ⟨rfl, rfl⟩, kb S6 (f4.tr f6)]
      exact hv.2.2.1
    · rw [e8, m_gi_si, if_neg (by omega), e7, m_gi_si, if_neg (by omega), e6, m_gi_row, if_pos rfl, pk_cpy_in (by omega) (by omega), kb S4 f4]
      rw [show o + 10 + (p - 0) = o + (10 + p) by omega]
      exact hv.2.1 p hp
    · rw [e8, m_gi_si, if_pos ⟨rfl, rfl⟩, kb S7 ((f4.tr f6).tr f7)]
      exact hv.2.2.2
  · rw [ixn_nI (by omega) (by omega)] at e; cases e
/-- the kept scenes: k of them, the next place, the i-th back -/
def CHs (S : mj_S) (R : rm) (k nx : Nat) (hs : Nat → sc) : Prop := (m_gi S 74 0 = nI k ∧ m_gi S 74 1 = nI nx ∧ nx < 40 ∧ k ≤ 40) ∧ ∀ i, i < k → SVc (fun j => m_gi S 75 (18 * ((nx + 39 - i) % 40) + j)) R (hs i)
def psh (s : sc) (hs : Nat → sc) : Nat → sc := fun i => match i with
  | 0 => s
  | i + 1 => hs i
def D74 (a j : Nat) : Bool := (Nat.beq a 74 && Nat.ble j 1) || Nat.beq a 75
theorem CHs.cong {S' : mj_S} {k nx : Nat} {hs : Nat → sc} (hR : r_wf R) (h : CHs S R k nx hs) (h0 : m_gi S' 74 0 = m_gi S 74 0) (h1 : m_gi S' 74 1 = m_gi S 74 1) (h2 : ∀ j, m_gi S' 75 j = m_gi S 75 j) : CHs S' R k nx hs := ⟨⟨h0.trans h.1.1, h1.trans h.1.2.1, h.1.2.2⟩, fun i hi => (h.2 i hi).cong hR (fun j _ => h2 _)⟩
theorem s_remember {k nx : Nat} {hs : Nat → sc} {Q : mj_S → Prop} (C : CI L S r 50 rs R s) (H : CHs S R k nx hs) (h : ∀ S', fr D74 S S' → CHs S' R (min 40 (k + 1)) ((nx + 1) % 40) (psh s hs) → Q S') : M_X4_remember l G 74 50 S Q := by
  have hnx := H.1.2.2.1
  have hk := H.1.2.2.2
  refine e_X4_remember (b_X4_remember_0 C.sh.k74 C.sh.k50 ⟨75, C.sh.p74_2, ?_⟩)
  rw [H.1.2.1, ix18]
  refine s_save C C.sh.k75 C.sh.l75 (by omega) (by omega) (Or.inl rfl) (fun S1 f1 k1 v1 => ?_)
  have h1 := C.sh.fr f1
  have e1 : m_gi S1 74 1 = nI nx := (f1.i _ _ rfl).trans H.1.2.1
  have e0 : m_gi S1 74 0 = nI k := (f1.i _ _ rfl).trans H.1.1
  have g1 : fr D74 S S1 := f1.wid (fun a j z => DZ_no (by
    unfold D74 at z
    rw [Bool.or_eq_false_iff] at z
    have := z.2
    rw [← Bool.not_eq_true, Nat.beq_eq] at this
    omega))
  have fin : V_X4_remember_37 l G 74 74 (nI ((nx + 1) % 40)) S1 Q := by
    refine b_X4_remember_37 h1.k74 h1.k74 (fun S2 e2 => ?_)
    refine s_mn (fun S4 e4 => ?_)
    have e02 : m_gi S2 74 0 = nI k := by rw [e2, m_gi_si, if_neg (by omega)]; exact e0
    rw [e02, nI_1] at e4
    have hmn : mn 40 (nI (k + 1)) = nI (min 40 (k + 1)) := by
      show (if nI (k + 1) < nI 40 then nI (k + 1) else nI 40) = _
      by_cases z : k + 1 < 40
      · rw [if_pos (nI_lt (b := 40) z (by omega)), Nat.min_eq_right (by omega)]
      · rw [if_neg (nI_nlt (a := k + 1) (b := 40) (by omega) (by omega)), Nat.min_eq_left (by omega)]
    rw [hmn] at e4
    have g75 : ∀ j, m_gi S4 75 j = m_gi S1 75 j := fun j => by rw [e4, m_gi_si, if_neg (by omega), e2, m_gi_si, if_neg (by omega)]
    refine h S4 (g1.tr (by rw [e4, e2]; exact (fr.si rfl).tr (fr.si rfl))) ⟨⟨by rw [e4, m_gi_si, if_pos ⟨rfl, rfl⟩], by rw [e4, m_gi_si, if_neg (by omega), e2, m_gi_si, if_pos ⟨rfl, rfl⟩], by omega, by omega⟩, fun i hi => ?_⟩
    cases i with
    | zero =>
      have : 18 * (((nx + 1) % 40 + 39 - 0) % 40) = 18 * nx := by omega
      rw [this]
      exact v1.cong C.rw (fun j _ => g75 _)
    | succ i =>
      have e : ((nx + 1) % 40 + 39 - (i + 1)) % 40 = (nx + 39 - i) % 40 := by omega
      rw [e]
      refine (H.2 i (by omega)).cong C.rw (fun j hj => ?_)
      rw [g75]
      refine k1 _ ?_
      have : (nx + 39 - i) % 40 ≠ nx := by omega
      omega
  rw [e1, nI_1]
  refine ⟨fun z => ?_, fun z => ?_⟩
  · have := (nI_leI (a := 40) (by omega) (by omega)).mp z
    rw [show (nx + 1) % 40 = 0 by omega] at fin
    exact fin
  · have : ¬ 40 ≤ nx + 1 := fun y => z ((nI_leI (a := 40) (by omega) (by omega)).mpr y)
    rw [show (nx + 1) % 40 = nx + 1 by omega] at fin
    exact fin
theorem s_recall {k nx : Nat} {hs : Nat → sc} {Q : mj_S → Prop} (C : CI L S r 50 rs R s) (H : CHs S R (k + 1) nx hs) (hw : s_wf R (hs 0)) (h : ∀ S', fr D5 (m_si (m_si S 74 0 (nI k)) 74 1 (nI ((nx + 39) % 40))) S' → CI L S' r 50 rs R (hs 0) → CHs S' R k ((nx + 39) % 40) (fun i => hs (i + 1)) → Q S') : M_X4_recall l G 74 50 S Q := by
  have hnx := H.1.2.2.1
  have hk := H.1.2.2.2
  have fin : ∀ S1, S1 = m_si S 74 0 (nI k) → V_X4_recall_37 l G 74 50 74 (nI ((nx + 39) % 40)) S1 Q := by
    intro S1 e1
    have h1 : Sh L S1 := by rw [e1]; exact C.sh.si
    refine b_X4_recall_37 h1.k74 h1.k50 h1.k74 (fun S2 e2 => ?_)
    have h2 : Sh L S2 := by rw [e2]; exact h1.si
    have e74 : m_gi S2 74 1 = nI ((nx + 39) % 40) := by rw [e2, m_gi_si, if_pos ⟨rfl, rfl⟩]
    have g75 : ∀ j, m_gi S2 75 j = m_gi S 75 j := fun j => by rw [e2, m_gi_si, if_neg (by omega), e1, m_gi_si, if_neg (by omega)]
    have f2 : fr D74 S S2 := by rw [e2, e1]; exact (fr.si rfl).tr (fr.si rfl)
    have C2 : CI L S2 r 50 rs R s := C.keep ⟨f2.1, fun a j q1 q2 => f2.i a j (by
      unfold D74
      rw [← Bool.not_eq_true, Bool.or_eq_true, Bool.and_eq_true, Nat.beq_eq, Nat.beq_eq]; omega), f2.2.2.2⟩
    refine ⟨75, h2.p74_2, ?_⟩
    rw [e74, ix18]
    have v0 := H.2 0 (by omega)
    refine s_load C2 h2.k75 h2.l75 (by omega) (by omega) (Or.inl rfl) (s' := hs 0) (v0.cong C.rw (fun j _ => ?_)) hw (fun S3 f3 C3 => ?_)
    · rw [g75]; rfl
    · refine h S3 (by rw [e2, e1] at f3; exact f3) C3 ⟨⟨?_, ?_, by omega, by omega⟩, fun i hi => ?_⟩
      · rw [f3.i _ _ rfl, e2, m_gi_si, if_neg (by omega), e1, m_gi_si, if_pos ⟨rfl, rfl⟩]
      · rw [f3.i _ _ rfl]; exact e74
      · have e : ((nx + 39) % 40 + 39 - i) % 40 = (nx + 39 - (i + 1)) % 40 := by omega
        rw [e]
        exact (H.2 (i + 1) (by omega)).cong C.rw (fun j _ => by rw [f3.i _ _ rfl]; exact g75 _)
  refine e_X4_recall (b_X4_recall_0 C.sh.k74 C.sh.k50 ⟨fun _ S1 e1 => ?_, fun z => absurd z (by rw [H.1.1]; exact nI_ne0 (by omega) (by omega))⟩)
  rw [H.1.1, nI_pred] at e1
  have e74 : m_gi S1 74 1 = nI nx := by rw [e1, m_gi_si, if_neg (by omega)]; exact H.1.2.1
  rw [e74]
  have fin' := fin S1 e1
  refine ⟨fun z => ?_, fun z => ?_⟩
  · have := (nI_leI (b := 0) (by omega) (by omega)).mp z
    rw [show (nx + 39) % 40 = 39 by omega] at fin'
    exact fin'
  · have : ¬ nx = 0 := fun y => z (by rw [y]; decide)
    rw [show nI nx - 1 = nI (nx - 1) from sub_v (w := 1) (by omega)]
    rw [show (nx + 39) % 40 = nx - 1 by omega] at fin'
    exact fin'
/-- the rows of the log, by years -/
def RG (S : mj_S) (b : Nat) (lg : Nat → Nat → Int32) (T Y : Nat) : Prop := ∀ y w, 1 ≤ y → T < y + 100 → y ≤ Y → w < 3 → m_gi S b ((y % 100) * 3 + w) = lg y w
def lgs (lg : Nat → Nat → Int32) (Y : Nat) (v : Nat → Int32) : Nat → Nat → Int32 := fun y w => if y = Y then v w else lg y w
theorem s_rowOf {y : Nat} {Q : mj_S → Int32 → Prop} (hy : y < 1300) (h : Q S (nI ((y % 100) * 3))) : M_X4_rowOf l G (nI y) S Q := by
  refine e_X4_rowOf (b_X4_rowOf_0 (s_fm hy ?_))
  rw [show (3 : Int32) = nI 3 from rfl, nI_mul]; exact h
theorem s_note {y : Nat} {a b c : Int32} {Q : mj_S → Prop} (hs : Sh L S) (hy : y < 1300) (h : ∀ S', fr (DZ 76 76) S S' → (∀ j, m_gi S' 76 j = if j = (y % 100) * 3 then a else if j = (y % 100) * 3 + 1 then b else if j = (y % 100) * 3 + 2 then c else m_gi S 76 j) → Q S') : M_X4_note l G 74 (nI y) a b c S Q := by
  refine e_X4_note (b_X4_note_0 hs.k74 (s_rowOf hy ⟨76, hs.p74_3, by rw [hs.l76]; exact vp_nI (by omega) (by omega), fun S4 e4 => ?_⟩))
  rw [nI_clamp (by omega)] at e4
  have h4 : Sh L S4 := by rw [e4]; exact hs.si
  have i1 : nI ((y % 100) * 3) + 1 = nI ((y % 100) * 3 + 1) := nI_1 _
  have i2 : nI ((y % 100) * 3) + 2 = nI ((y % 100) * 3 + 2) := by rw [show (2 : Int32) = nI 2 from rfl, nI_add]
  rw [i1, i2]
  refine ⟨76, h4.p74_3, by rw [h4.l76]; exact vp_nI (by omega) (by omega), fun S6 e6 => ?_⟩
  rw [nI_clamp (by omega)] at e6
  have h6 : Sh L S6 := by rw [e6]; exact h4.si
  refine ⟨76, h6.p74_3, by rw [h6.l76]; exact vp_nI (by omega) (by omega), fun S8 e8 => ?_⟩
  rw [nI_clamp (by omega)] at e8
  refine h S8 (by rw [e8, e6, e4]; exact ((fr.si rfl).tr (fr.si rfl)).tr (fr.si rfl)) (fun j => ?_)
  rw [e8, m_gi_si, e6, m_gi_si, e4, m_gi_si]
  by_cases z1 : j = (y % 100) * 3
  · rw [if_neg (fun z => by omega), if_neg (fun z => by omega), if_pos ⟨rfl, z1⟩, if_pos z1]
  · by_cases z2 : j = (y % 100) * 3 + 1
    · rw [if_neg (fun z => by omega), if_pos ⟨rfl, z2⟩, if_neg z1, if_pos z2]
    · by_cases z3 : j = (y % 100) * 3 + 2
      · rw [if_pos ⟨rfl, z3⟩, if_neg z1, if_neg z2, if_pos z3]
      · rw [if_neg (fun z => z3 z.2), if_neg (fun z => z2 z.2), if_neg (fun z => z1 z.2), if_neg z1, if_neg z2, if_neg z3]
/-- what a year writes -/
def ly (R : rm) (tk : sc → Nat → Nat) (s : sc) : Nat → Int32 := fun w => if w = 0 then nI (pt R (hg R (wrn R s (lt0 R tk s))) 20 (al (r_n R)) 0) else if w = 1 then nI (lsum (lt0 R tk (wrn R s (lt0 R tk s))) (r_n R)) else bs (r_nc R) (fel R s (lt0 R tk s))
theorem RG.set {S' : mj_S} {lg : Nat → Nat → Int32} {T Y : Nat} {v : Nat → Int32} {b : Nat} (h : RG S b lg T Y) (g : ∀ j, m_gi S' b j = if j = ((Y + 1) % 100) * 3 then v 0 else if j = ((Y + 1) % 100) * 3 + 1 then v 1 else if j = ((Y + 1) % 100) * 3 + 2 then v 2 else m_gi S b j) : RG S' b (lgs lg (Y + 1) v) (max T (Y + 1)) (Y + 1) := by
  intro y w h1 h2 h3 h4
  rw [g]
  unfold lgs
  by_cases e : y = Y + 1
  · rw [if_pos e, e]
    rcases Nat.lt_or_ge w 1 with z | z
    · rw [show w = 0 by omega, if_pos (by omega)]
    · rcases Nat.lt_or_ge w 2 with z2 | z2
      · rw [show w = 1 by omega, if_neg (by omega), if_pos rfl]
      · rw [show w = 2 by omega, if_neg (by omega), if_neg (by omega), if_pos rfl]
  · rw [if_neg e, if_neg (by omega), if_neg (by omega), if_neg (by omega)]
    exact h y w h1 (by omega) (by omega) h4
/-- cells that a lived year changes -/
def DY (a j : Nat) : Bool := DC a j || (DS 50 a j || Nat.beq a 76)
theorem DC_DY {S S' : mj_S} (f : fr DC S S') : fr DY S S' := f.wid (fun a j h => by
  unfold DY at h; rw [Bool.or_eq_false_iff] at h; exact h.1)
theorem DS_DY {S S' : mj_S} (f : fr (DS 50) S S') : fr DY S S' := f.wid (fun a j h => by
  unfold DY at h; rw [Bool.or_eq_false_iff, Bool.or_eq_false_iff] at h; exact h.2.1)
theorem D76_DY {S S' : mj_S} (f : fr (DZ 76 76) S S') : fr DY S S' := f.wid (fun a j h => by
  unfold DY at h; rw [Bool.or_eq_false_iff, Bool.or_eq_false_iff] at h
  have := h.2.2
  rw [← Bool.not_eq_true, Nat.beq_eq] at this
  exact DZ_no (by omega))
theorem DY_law {a j : Nat} (h1 : 23 ≤ a) (h2 : a ≤ 29) (h3 : ¬ (a = 23 ∧ j = 6)) : DY a j = false := by
  unfold DY
  rw [DC_law h1 h2 h3, DS_no (by omega) (by omega)]
  rw [← Bool.not_eq_true, Bool.or_eq_true, Bool.or_eq_true, Nat.beq_eq]
  intro z
  rcases z with z | z | z
  · cases z
  · cases z
  · omega
theorem lawzY {S S' : mj_S} (f : fr DY S S') : lawz S S' := ⟨f.1, fun a j h1 h2 h3 => f.i a j (DY_law h1 h2 h3)⟩
theorem s_statesOfF {x : Nat} {Q : mj_S → Int32 → Prop} (C : CI L S r x rs R s) (h : ∀ S', fr DF S S' → Q S' (nI (pt R (hg R s) 20 (al (r_n R)) 0))) : M_X10_statesOf l G 6 x S Q :=
  e_X10_statesOf (b_X10_statesOf_0 C.sh.k6 (C.sh.sk C.hx) ⟨79, C.sh.p6_10, r, C.p, s_hung C (s_partF C.sh C.rw C.irm C.r51 C.rc fun S' f F => ⟨79, (C.sh.fr f).p6_10, r, (C.fr (DF_DC f)).p, s_allS (C.fr (DF_DC f)).sh C.irm (C.fr (DF_DC f)).rc (s_parts (C.sh.fr f) F (h S' f))⟩)⟩)
theorem s_liveYear {tk : sc → Nat → Nat} {lg : Nat → Nat → Int32} {T : Nat} {Q : mj_S → Prop} (C : CI L S r 50 rs R s) (hK : CK l G L S R tk) (ht : t_ok R tk) (hy : s_yr s < 999) (hpos : 0 < r_n R) (hG : RG S 76 lg T (s_yr s)) (h : ∀ S', fr DY S S' → CI L S' r 50 rs R (wrn R s (lt0 R tk s)) → RG S' 76 (lgs lg (s_yr s + 1) (ly R tk s)) (max T (s_yr s + 1)) (s_yr s + 1) → Q S') : M_X10_liveYear l G 6 S Q := by
  have hn := C.rw.n
  refine e_X10_liveYear (b_X10_liveYear_0 C.sh.k6 ⟨50, C.sh.p6_7, s_shine C (hK S r 50 rs s lawz.rf C (by omega)) (ht s) hpos (fun S2 f2 m2 => ?_)⟩)
  have D := C.fr f2
  refine ⟨50, D.sh.p6_7, 80, D.sh.p6_11, 81, D.sh.p80_0, s_wear D m2 (lit_99 C.rw.li) (fun S6 f6 E => ?_)⟩
  have g6 := (DC_DY f2).tr (DS_DY f6)
  refine ⟨50, E.sh.p6_7, s_shine E (hK S6 r 50 rs _ (lawzY g6) E (by show s_yr s + 1 ≤ _; omega)) (ht _) hpos (fun S9 f9 m9 => ?_)⟩
  have F := E.fr f9
  refine ⟨74, F.sh.p6_9, 50, F.sh.p6_7, 50, F.sh.p6_7, s_statesOfF F (fun S13 f13 => ?_)⟩
  have I := F.fr (DF_DC f13)
  have m13 : LM S13 (lt0 R tk (wrn R s (lt0 R tk s))) := fun q hq => (f13.i _ _ rfl).trans (m9 q hq)
  refine ⟨80, I.sh.p6_11, r, I.p, ?_⟩
  rw [I.rc.n]
  refine s_lsum I.sh m13 hn ?_
  have ey : m_gi S9 50 4 = nI (s_yr s + 1) := F.sn.yr
  rw [ey]
  refine s_note I.sh (by omega) (fun S14 f14 g14 => ?_)
  have gg : fr DY S S14 := ((g6.tr (DC_DY f9)).tr (DC_DY (DF_DC f13))).tr (D76_DY f14)
  refine h S14 gg (I.keep ⟨f14.1, fun a j q1 q2 => f14.i a j (DZ_no (by omega)), f14.2.2.2⟩) (hG.set (fun j => ?_))
  rw [g14 j]
  have e76 : m_gi S13 76 j = m_gi S 76 j := ((((f13.i _ _ rfl).trans (f9.i _ _ rfl)).trans (f6.i _ _ rfl)).trans (f2.i _ _ rfl))
  rw [e76]
  rfl
end HC
