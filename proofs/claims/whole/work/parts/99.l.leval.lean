/-! a law's worth: numbers, stacks, the class's machine -/
def vI (v : Int) : Int32 := Int32.ofInt v
theorem vI_t {v : Int} (h : bdv v) : (vI v).toInt = v := Int32.toInt_ofInt_of_le (by unfold bdv at h; omega) (by unfold bdv at h; omega)
theorem vI_n (k : Nat) : vI (k : Int) = nI k := rfl
theorem vI_eq {a b : Int} (ha : bdv a) (hb : bdv b) : vI a = vI b ↔ a = b := by
  constructor
  · intro e
    have := congrArg Int32.toInt e
    rw [vI_t ha, vI_t hb] at this
    exact this
  · intro e; rw [e]
theorem vI_64 {v : Int} (h : bdv v) : (vI v).toInt64.toInt = v := by rw [Int32.toInt_toInt64, vI_t h]
theorem z01.b {v : Int} (h : z01 v) : bdv v := by unfold z01 at h; unfold bdv; omega
theorem l64_32 {y : Int64} {a : Int} (e : y.toInt = a) : y.toInt32 = vI a := by
  have : y = Int64.ofInt a := by rw [← e, Int64.ofInt_toInt]
  rw [this, Int64.toInt32_ofInt]; rfl
theorem mul_b {a b : Int} (ha : bdv a) (hb : bdv b) : -1000000000000 ≤ a * b ∧ a * b ≤ 1000000000000 := by
  unfold bdv at ha hb
  have h1 : a.natAbs ≤ 1000000 := by omega
  have h2 : b.natAbs ≤ 1000000 := by omega
  have h3 : (a * b).natAbs ≤ 1000000 * 1000000 := by rw [Int.natAbs_mul]; exact Nat.mul_le_mul h1 h2
  omega
theorem div_b {a b : Int} (ha : bdv a) : bdv (Int.tdiv a b) := by
  unfold bdv at ha ⊢
  have h3 : (Int.tdiv a b).natAbs ≤ a.natAbs := by rw [Int.natAbs_tdiv]; exact Nat.div_le_self _ _
  omega
theorem m64 {v : Int} (h : -2000000000000 ≤ v ∧ v ≤ 2000000000000) : v.bmod (2 ^ 64) = v := Int.bmod_eq_of_le_mul_two (by omega) (by omega)
theorem m32 {v : Int} (h : bdv v) : v.bmod (2 ^ 32) = v := by unfold bdv at h; exact Int.bmod_eq_of_le_mul_two (by omega) (by omega)
theorem add64 {a b : Int} (ha : bdv a) (hb : bdv b) : ((vI a).toInt64 + (vI b).toInt64).toInt = a + b := by
  rw [Int64.toInt_add, vI_64 ha, vI_64 hb]; unfold bdv at ha hb; exact m64 (by omega)
theorem sub64 {a b : Int} (ha : bdv a) (hb : bdv b) : ((vI a).toInt64 - (vI b).toInt64).toInt = a - b := by
  rw [Int64.toInt_sub, vI_64 ha, vI_64 hb]; unfold bdv at ha hb; exact m64 (by omega)
theorem mul64 {a b : Int} (ha : bdv a) (hb : bdv b) : ((vI a).toInt64 * (vI b).toInt64).toInt = a * b := by
  rw [Int64.toInt_mul, vI_64 ha, vI_64 hb]; have := mul_b ha hb; exact m64 (by omega)
theorem div64 {a b : Int} (ha : bdv a) (hb : bdv b) : ((vI a).toInt64 / (vI b).toInt64).toInt = Int.tdiv a b := by
  rw [Int64.toInt_div, vI_64 ha, vI_64 hb]; have := div_b (b := b) ha; unfold bdv at this; exact m64 (by omega)
theorem div32 {a b : Int} (ha : bdv a) (hb : bdv b) : ((vI a / vI b).toInt64).toInt = Int.tdiv a b := by
  rw [Int32.toInt_toInt64, Int32.toInt_div, vI_t ha, vI_t hb]; exact m32 (div_b ha)
theorem sgn_b : ∀ c, c < 12 → sgn c < 256 ∧ 0 < sgn c := by decide
theorem sgn_t {c : Nat} (h : c < 12) : (nI (sgn c)).toInt = (sgn c : Int) := nI_toInt (by have := (sgn_b c h).1; omega)
theorem sgn_is : ∀ c, c < 12 → (sgn c = 38 → c = 10) ∧ (sgn c = 42 → c = 4) ∧ (sgn c = 43 → c = 2) ∧ (sgn c = 45 → c = 3) ∧ (sgn c = 60 → c = 7) ∧ (sgn c = 61 → c = 6) ∧ (sgn c = 62 → c = 8) ∧ (sgn c = 124 → c = 11) ∧ (sgn c = 1 → c = 0) ∧ (sgn c = 2 → c = 1) ∧ (sgn c = 33 → c = 9) ∧ sgn c ≠ 3 ∧ sgn c ≠ 4 := by decide
section LEV
variable {l : Launch} {G : mj_G} {L : Nat} {S : mj_S} {Q : mj_S → Int32 → Prop}
theorem s_held {y : Int64} {a : Int} (e : y.toInt = a) (h : Q S (vI (clp a))) : M_X2_held l G y S Q := by
  have k1 : (1000000 : Int64).toInt = 1000000 := by decide
  have k2 : (-1000000 : Int64).toInt = -1000000 := by decide
  refine e_X2_held (b_X2_held_0 ⟨fun z => ⟨fun z2 => ?_, fun z2 => ?_⟩, fun z => ?_⟩)
  · have a1 := Int64.le_iff_toInt_le.mp ((lg_cmp_le _ _).mp z)
    have a2 := Int64.le_iff_toInt_le.mp ((lg_cmp_ge _ _).mp z2)
    rw [k1, e] at a1
    rw [k2, e] at a2
    rw [l64_32 e]
    rw [show clp a = a by unfold clp; omega] at h
    exact h
  · have a2 : ¬ (-1000000 : Int64) ≤ y := fun q => z2 ((lg_cmp_ge _ _).mpr q)
    rw [Int64.le_iff_toInt_le, k2, e] at a2
    rw [show clp a = -1000000 by unfold clp; omega] at h
    exact h
  · have a1 : ¬ y ≤ (1000000 : Int64) := fun q => z ((lg_cmp_le _ _).mpr q)
    rw [Int64.le_iff_toInt_le, k1, e] at a1
    rw [show clp a = 1000000 by unfold clp; omega] at h
    exact h
theorem s_bounded {y : Int64} {a : Int} (e : y.toInt = a) (h : Q S (vI (clp a))) : M_X11_bounded l G y S Q := by
  have k1 : (1000000 : Int64).toInt = 1000000 := by decide
  have k2 : (-1000000 : Int64).toInt = -1000000 := by decide
  refine e_X11_bounded (b_X11_bounded_0 (s_mnL (s_mxL ?_)))
  have e1 : (mnL 1000000 y).toInt = min 1000000 a := by
    unfold mnL
    by_cases z : (0 : Int32) < lg_cmp 1000000 y
    · rw [if_pos z, e]
      have := Int64.lt_iff_toInt_lt.mp ((lg_cmp_gt _ _).mp z)
      rw [k1, e] at this; omega
    · rw [if_neg z, k1]
      have : ¬ y < (1000000 : Int64) := fun q => z ((lg_cmp_gt _ _).mpr q)
      rw [Int64.lt_iff_toInt_lt, k1, e] at this; omega
  have e2 : (mxL (-1000000) (mnL 1000000 y)).toInt = clp a := by
    unfold mxL clp
    by_cases z : lg_cmp (-1000000) (mnL 1000000 y) < 0
    · rw [if_pos z, e1]
      have := Int64.lt_iff_toInt_lt.mp ((lg_cmp_lt _ _).mp z)
      rw [k2, e1] at this; omega
    · rw [if_neg z, k2]
      have : ¬ (-1000000 : Int64) < mnL 1000000 y := fun q => z ((lg_cmp_lt _ _).mpr q)
      rw [Int64.lt_iff_toInt_lt, k2, e1] at this; omega
  rw [l64_32 e2]
  exact h
theorem s_cput {c : Nat} {a b : Int} (hc : (2 ≤ c ∧ c ≤ 8 ∧ bdv a ∧ bdv b) ∨ ((c = 10 ∨ c = 11) ∧ z01 a ∧ z01 b)) (h : Q S (vI (opv c a b))) : M_X2_put l G (nI (sgn c)) (vI a) (vI b) S Q := by
  have hc12 : c < 12 := by omega
  have st := sgn_t hc12
  have si := sgn_is c hc12
  have hab : bdv a ∧ bdv b := by
    rcases hc with q | q
    · exact q.2.2
    · exact ⟨q.2.1.b, q.2.2.b⟩
  refine e_X2_put (b_X2_put_0 ?_)
  rw [st]
  refine ⟨fun z => ?_, fun z => ?_, fun z => ?_, fun z => ?_, fun z => ?_, fun z => ?_, fun z => ?_, fun z => ?_, fun z => ?_⟩
  · have e := si.1 (by omega)
    subst e
    rcases hc with q | q
    · omega
    · obtain ⟨_, qa, qb⟩ := q
      rcases qa with rfl | rfl <;> rcases qb with rfl | rfl <;> exact h
  · have e := si.2.1 (by omega)
    subst e
    exact s_held (mul64 hab.1 hab.2) h
  · have e := si.2.2.1 (by omega)
    subst e
    exact s_held (add64 hab.1 hab.2) h
  · have e := si.2.2.2.1 (by omega)
    subst e
    exact s_held (sub64 hab.1 hab.2) h
  · have e := si.2.2.2.2.1 (by omega)
    subst e
    have h' : Q S (vI (if a < b then 1 else 0)) := h
    rw [Int32.le_iff_toInt_le, vI_t hab.1, vI_t hab.2]
    refine ⟨fun y => ?_, fun y => ?_⟩
    · rw [if_neg (by omega)] at h'; exact h'
    · rw [if_pos (by omega)] at h'; exact h'
  · have e := si.2.2.2.2.2.1 (by omega)
    subst e
    have h' : Q S (vI (if a = b then 1 else 0)) := h
    rw [vI_eq hab.1 hab.2]
    refine ⟨fun y => ?_, fun y => ?_⟩
    · rw [if_neg y] at h'; exact h'
    · rw [if_pos y] at h'; exact h'
  · have e := si.2.2.2.2.2.2.1 (by omega)
    subst e
    have h' : Q S (vI (if b < a then 1 else 0)) := h
    rw [Int32.le_iff_toInt_le, vI_t hab.1, vI_t hab.2]
    refine ⟨fun y => ?_, fun y => ?_⟩
    · rw [if_neg (by omega)] at h'; exact h'
    · rw [if_pos (by omega)] at h'; exact h'
  · have e := si.2.2.2.2.2.2.2.1 (by omega)
    subst e
    rcases hc with q | q
    · omega
    · obtain ⟨_, qa, qb⟩ := q
      rcases qa with rfl | rfl <;> rcases qb with rfl | rfl <;> exact h
  · have e : c = 5 := by
      have : ∀ c, c < 12 → (c = 5 ∨ c < 2 ∨ c = 9 ∨ sgn c = 38 ∨ sgn c = 42 ∨ sgn c = 43 ∨ sgn c = 45 ∨ sgn c = 60 ∨ sgn c = 61 ∨ sgn c = 62 ∨ sgn c = 124) := by decide
      have := this c hc12
      omega
    subst e
    have h' : Q S (vI (if b = 0 then 0 else clp (Int.tdiv a b))) := h
    have hz : vI b = 0 ↔ b = 0 := vI_eq (b := 0) hab.2 (by unfold bdv; omega)
    rw [hz]
    refine ⟨fun y => ⟨y, ?_⟩, fun y => ?_⟩
    · rw [if_neg y] at h'
      exact s_held (div32 hab.1 hab.2) h'
    · rw [if_pos y] at h'; exact h'
/-- the numbers st lie in the cell q, the last one put first -/
def Stk (q : Nat) (S : mj_S) (st : List Int) : Prop := ∀ k, (h : k < st.length) → m_gi S q (st.length - 1 - k) = vI (st[k])
theorem Stk.keep {q : Nat} {S' : mj_S} {st : List Int} (K : Stk q S st) (h : ∀ j, m_gi S' q j = m_gi S q j) : Stk q S' st := fun k hk => (h _).trans (K k hk)
theorem Stk.push {q : Nat} {S' : mj_S} {st : List Int} {v : Int} (K : Stk q S st) (h1 : m_gi S' q st.length = vI v) (h : ∀ j, j < st.length → m_gi S' q j = m_gi S q j) : Stk q S' (v :: st) := by
  intro k hk
  rw [List.length_cons] at hk ⊢
  cases k with
  | zero => rw [show st.length + 1 - 1 - 0 = st.length by omega]; exact h1
  | succ k =>
    rw [show st.length + 1 - 1 - (k + 1) = st.length - 1 - k by omega, h _ (by omega)]
    exact K k (by omega)
theorem Stk.top {q : Nat} {st : List Int} {v : Int} (K : Stk q S (v :: st)) : m_gi S q st.length = vI v := by
  have := K 0 (by simp)
  rw [List.length_cons, show st.length + 1 - 1 - 0 = st.length by omega] at this
  exact this
theorem Stk.pop {q : Nat} {st : List Int} {v : Int} (K : Stk q S (v :: st)) : Stk q S st := by
  intro k hk
  have q := K (k + 1) (by rw [List.length_cons]; omega)
  have e : (v :: st).length - 1 - (k + 1) = st.length - 1 - k := by rw [List.length_cons]; omega
  rw [e] at q
  exact q
def Dk (a j : Nat) : Bool := Nat.beq a 31 || (Nat.beq a 23 && Nat.beq j 6)
theorem Dk_f {a j : Nat} (h1 : a ≠ 31) (h2 : ¬ (a = 23 ∧ j = 6)) : Dk a j = false := by
  unfold Dk
  rw [← Bool.not_eq_true]
  simp only [Bool.or_eq_true, Bool.and_eq_true, Nat.beq_eq]
  omega
/-- the class's machine holds st -/
def SK (S : mj_S) (st : List Int) : Prop := m_gi S 23 6 = nI st.length ∧ Stk 31 S st
theorem s_push {st : List Int} {v : Int} {Q : mj_S → Prop} (hs : Sh L S) (K : SK S st) (hl : st.length < 32) (h : ∀ S', fr Dk S S' → SK S' (v :: st) → Q S') : M_X2_push l G 23 (vI v) S Q := by
  refine e_X2_push (b_X2_push_0 hs.k23 ?_)
  rw [K.1]
  refine ⟨fun z => absurd z (nI_ge (b := 32) hl (by omega)), fun _ => ⟨31, hs.p23_5, by rw [hs.l31]; exact vp_nI hl (by omega), fun S2 e2 S3 e3 => ?_⟩⟩
  rw [nI_clamp (by omega)] at e2
  have f3 : fr Dk S S3 := by rw [e3, e2]; exact (fr.si rfl).tr (fr.si rfl)
  refine h S3 f3 ⟨?_, K.2.push ?_ (fun j hj => ?_)⟩
  · rw [e3, m_gi_si, if_pos ⟨rfl, rfl⟩, e2, m_gi_si, if_neg (by omega), K.1, nI_1, List.length_cons]
  · rw [e3, m_gi_si, if_neg (by omega), e2, m_gi_si, if_pos ⟨rfl, rfl⟩]
  · rw [e3, m_gi_si, if_neg (by omega), e2, m_gi_si, if_neg (by omega)]
theorem s_pop {st : List Int} {v : Int} (hs : Sh L S) (K : SK S (v :: st)) (hl : st.length < 32) (h : ∀ S', fr Dk S S' → SK S' st → Q S' (vI v)) : M_X2_pop l G 23 S Q := by
  refine e_X2_pop (b_X2_pop_0 hs.k23 ?_)
  rw [K.1, List.length_cons]
  refine ⟨fun _ S1 e1 => ⟨31, by rw [e1]; exact hs.p23_5, ?_⟩, fun z => absurd z (nI_ne0 (by omega) (by omega))⟩
  rw [nI_pred] at e1
  have f1 : fr Dk S S1 := by rw [e1]; exact fr.si rfl
  have g6 : m_gi S1 23 6 = nI st.length := by rw [e1, m_gi_si, if_pos ⟨rfl, rfl⟩]
  have g31 : ∀ j, m_gi S1 31 j = m_gi S 31 j := fun j => by rw [e1, m_gi_si, if_neg (by omega)]
  rw [g6, (hs.fr f1).l31, nI_clamp (by omega), g31, K.2.top]
  exact ⟨vp_nI hl (by omega), h S1 f1 ⟨g6, K.2.pop.keep g31⟩⟩
theorem de_1 {a b : Nat} (ha : a < 256) (hb : b < 65536) : nI (a * 65536 + b) >>> ((16 : Int32) &&& 31) = nI a := by
  apply b_ext
  intro i hi
  have e : a * 65536 + b = a <<< 16 ||| b := by
    rw [← Nat.shiftLeft_add_eq_or_of_lt (by omega : b < 2 ^ 16) a, Nat.shiftLeft_eq]
  rw [show (16 : Int32) = nI 16 from rfl, b_sshr 16 (by omega) _ hi, b_nI _ hi]
  by_cases h : 16 + i < 32
  · rw [if_pos h, b_nI _ h, e, Nat.testBit_or, Nat.testBit_shiftLeft]
    rw [show b.testBit (16 + i) = false from Nat.testBit_lt_two_pow (Nat.lt_of_lt_of_le (by omega : b < 2 ^ 16) (Nat.pow_le_pow_right (by omega) (by omega)))]
    simp
  · rw [if_neg h, b_nI _ (by omega)]
    rw [show (a * 65536 + b).testBit 31 = false from Nat.testBit_lt_two_pow (by omega), show a.testBit i = false from Nat.testBit_lt_two_pow (Nat.lt_of_lt_of_le (by omega : a < 2 ^ 8) (Nat.pow_le_pow_right (by omega) (by omega)))]
theorem de_2 {a b : Nat} (ha : a < 256) (hb : b < 65536) : nI (a * 65536 + b) &&& (65535 : Int32) = nI b := by
  apply b_ext
  intro i hi
  have e : a * 65536 + b = a <<< 16 ||| b := by
    rw [← Nat.shiftLeft_add_eq_or_of_lt (by omega : b < 2 ^ 16) a, Nat.shiftLeft_eq]
  rw [b_and, b_65535, b_nI _ hi, b_nI _ hi, e, Nat.testBit_or, Nat.testBit_shiftLeft]
  by_cases h : i < 16
  · rw [show decide (16 ≤ i) = false from decide_eq_false (by omega), decide_eq_true h]; simp
  · rw [decide_eq_false h, show b.testBit i = false from Nat.testBit_lt_two_pow (Nat.lt_of_lt_of_le (by omega : b < 2 ^ 16) (Nat.pow_le_pow_right (by omega) (by omega)))]; simp
/-- a step of the machine -/
theorem c_at {A N p i sg b : Nat} (hs : Sh L S) (hA : m_kd S A = 100 ∧ m_ln S A = 240) (hN : N ≤ 240) (hp : p < N) (hi : i ≤ p) (e : m_gi S A p = nI (sg * 65536 + b)) (hsg : sg < 256) (hb : b < 65536) (h : (sg = 1 → M_X2_push l G 23 (nI b) S (fun S4 => ∀ v5 : Int32, v5 = nI (i + 1) → V_X2_worthBy_10 l G 23 A (nI N) (nI (p + 1)) v5 S4 Q)) ∧ (sg = 2 → b < 6 ∧ M_X2_push l G 23 (m_gi S 30 b) S (fun S4 => ∀ v5 : Int32, v5 = nI (i + 1) → V_X2_worthBy_10 l G 23 A (nI N) (nI (p + 1)) v5 S4 Q)) ∧ (sg = 3 → M_X2_pop l G 23 S (fun S7 r8 => ((¬ r8 = 0) → ∀ v5 : Int32, v5 = nI (i + 1) → V_X2_worthBy_10 l G 23 A (nI N) (nI (p + 1)) v5 S7 Q) ∧ ((r8 = 0) → ∀ v5 : Int32, v5 = nI (i + 1) → V_X2_worthBy_10 l G 23 A (nI N) (nI b) v5 S7 Q))) ∧ (sg = 4 → M_X2_pop l G 23 S Q) ∧ (sg = 33 → M_X2_pop l G 23 S (fun S13 r14 => M_X2_push l G 23 ((1 : Int32) - r14) S13 (fun S15 => ∀ v5 : Int32, v5 = nI (i + 1) → V_X2_worthBy_10 l G 23 A (nI N) (nI (p + 1)) v5 S15 Q))) ∧ (sg ≠ 1 ∧ sg ≠ 2 ∧ sg ≠ 3 ∧ sg ≠ 4 ∧ sg ≠ 33 → M_X2_pop l G 23 S (fun S17 r18 => M_X2_pop l G 23 S17 (fun S19 r20 => M_X2_put l G (nI sg) r20 r18 S19 (fun S21 r22 => M_X2_push l G 23 r22 S21 (fun S23 => ∀ v5 : Int32, v5 = nI (i + 1) → V_X2_worthBy_10 l G 23 A (nI N) (nI (p + 1)) v5 S23 Q)))))) : V_X2_worthBy_10 l G 23 A (nI N) (nI p) (nI i) S Q := by
  refine b_X2_worthBy_10 hs.k23 hA.1 ⟨fun z => absurd z (nI_ge (by omega) (by omega)), fun _ => ⟨fun z => absurd z (nI_ge (by omega) (by omega)), fun _ => ?_⟩⟩
  rw [hA.2, nI_clamp (by omega), e, de_1 hsg hb, de_2 hsg hb, nI_1 p, nI_1 i]
  refine ⟨vp_nI (by omega) (by omega), fun v1 e1 => ⟨vp_nI (by omega) (by omega), fun v2 e2 v3 e3 => ?_⟩⟩
  have t1 : v1.toInt = (sg : Int) := by rw [e1]; exact nI_toInt (by omega)
  rw [t1, e1, e2, e3]
  refine ⟨fun z => h.1 (by omega), fun z => ?_, fun z => h.2.2.1 (by omega), fun z => h.2.2.2.1 (by omega), fun z => h.2.2.2.2.1 (by omega), fun z => h.2.2.2.2.2 (by omega)⟩
  have h2 := h.2.1 (by omega)
  refine ⟨fun z => absurd z (nI_ge (b := 6) h2.1 (by omega)), fun _ => ⟨30, hs.p23_4, by rw [hs.l30]; exact vp_nI h2.1 (by omega), ?_⟩⟩
  rw [nI_clamp (by omega)]
  refine b_X2_worthBy_120 hs.k23 hA.1 hs.k23 ?_
  rw [nI_1 i]
  exact h2.2
/-- the tokens ts are run -/
theorem c_run {env : Nat → Int} {A N : Nat} (hN : N ≤ 240) (hA : 25 ≤ A ∧ A ≤ 28) : ∀ (ts : List tok) (st : List Int) (p i : Nat) (S : mj_S), Sh L S → (∀ k, (h : k < ts.length) → p + k < N ∧ m_gi S A (p + k) = enc (ts[k])) → (∀ j, j < 6 → m_gi S 30 j = vI (env j)) → i ≤ p → good env 32 ts st → st.length ≤ 32 → SK S st → (∀ S' i', fr Dk S S' → i' ≤ p + ts.length → SK S' (runs env ts st) → V_X2_worthBy_10 l G 23 A (nI N) (nI (p + ts.length)) (nI i') S' Q) → V_X2_worthBy_10 l G 23 A (nI N) (nI p) (nI i) S Q
  | [], st, p, i, S, hs, hc, he, hi, hg, hl, K, h => h S i fr.rf hi K
  | (c, v) :: ts, st, p, i, S, hs, hc, he, hi, hg, hl, K, h => by
    obtain ⟨hst, hg2⟩ := hg
    have h0 := hc 0 (by rw [List.length_cons]; omega)
    have hc12 : c < 12 ∧ v < 10000 := by
      unfold stp at hst
      rcases hst with q | q | q | q | q
      · have q1 : c = 0 := q.1; have q2 : v < 10000 := q.2.1; omega
      · have q1 : c = 1 := q.1; have q2 : v < 6 := q.2.1; omega
      · have q1 : c ≤ 8 := q.2.1; have q2 : v = 0 := q.2.2.1; omega
      · have q1 : c = 9 := q.1; have q2 : v = 0 := q.2.1; omega
      · have q1 : c = 10 ∨ c = 11 := q.1; have q2 : v = 0 := q.2.1; omega
    have hA' : m_kd S A = 100 ∧ m_ln S A = 240 := by
      have : A = 25 ∨ A = 26 ∨ A = 27 ∨ A = 28 := by omega
      rcases this with e | e | e | e <;> subst e
      · exact ⟨hs.k25, hs.l25⟩
      · exact ⟨hs.k26, hs.l26⟩
      · exact ⟨hs.k27, hs.l27⟩
      · exact ⟨hs.k28, hs.l28⟩
    have go : ∀ S', fr Dk S S' → SK S' (run1 env (c, v) st) → ∀ v5 : Int32, v5 = nI (i + 1) → V_X2_worthBy_10 l G 23 A (nI N) (nI (p + 1)) v5 S' Q := by
      intro S' f' K' v5 e5
      rw [e5]
      have hl' : (run1 env (c, v) st).length ≤ 32 := by
        unfold stp at hst
        unfold run1
        rcases hst with q | q | q | q | q
        · have q1 : c = 0 := q.1; have q2 : st.length < 32 := q.2.2
          rw [if_pos q1, List.length_cons]; omega
        · have q1 : c = 1 := q.1; have q2 : st.length < 32 := q.2.2
          rw [if_neg (by show ¬ c = 0; omega), if_pos q1, List.length_cons]; omega
        · have q1 : 2 ≤ c := q.1; have q2 : c ≤ 8 := q.2.1
          obtain ⟨a, b, r, er, _⟩ := q.2.2.2
          rw [if_neg (by show ¬ c = 0; omega), if_neg (by show ¬ c = 1; omega), if_neg (by show ¬ c = 9; omega), er]
          rw [er] at hl; simp only [List.length_cons] at hl ⊢; omega
        · have q1 : c = 9 := q.1
          obtain ⟨a, r, er, _⟩ := q.2.2
          rw [if_neg (by show ¬ c = 0; omega), if_neg (by show ¬ c = 1; omega), if_pos q1, er]
          rw [er] at hl; simp only [List.length_cons] at hl ⊢; omega
        · have q1 : c = 10 ∨ c = 11 := q.1
          obtain ⟨a, b, r, er, _⟩ := q.2.2
          rw [if_neg (by show ¬ c = 0; omega), if_neg (by show ¬ c = 1; omega), if_neg (by show ¬ c = 9; omega), er]
          rw [er] at hl; simp only [List.length_cons] at hl ⊢; omega
      refine c_run hN hA ts _ (p + 1) (i + 1) S' (hs.fr f') (fun k hk => ?_) (fun j hj => ?_) (by omega) hg2 hl' K' (fun S2 i' f2 hi' K2 => ?_)
      · have := hc (k + 1) (by rw [List.length_cons]; omega)
        rw [show p + 1 + k = p + (k + 1) by omega, f'.i _ _ (Dk_f (by omega) (by omega))]
        exact this
      · rw [f'.i _ _ (Dk_f (by omega) (by omega))]; exact he j hj
      · rw [show p + 1 + ts.length = p + ((c, v) :: ts).length by rw [List.length_cons]; omega]
        exact h S2 i' (f'.tr f2) (by rw [List.length_cons]; omega) K2
    have hsg := sgn_b c hc12.1
    have si := sgn_is c hc12.1
    refine c_at (sg := sgn c) (b := v) hs hA' hN h0.1 hi h0.2 hsg.1 (by omega) ⟨fun z => ?_, fun z => ?_, fun z => absurd z si.2.2.2.2.2.2.2.2.2.2.2.1, fun z => absurd z si.2.2.2.2.2.2.2.2.2.2.2.2, fun z => ?_, fun z => ?_⟩
    · have e := si.2.2.2.2.2.2.2.2.1 z
      subst e
      have hlt : st.length < 32 := by
        rcases hst with q | q | q | q | q
        · exact q.2.2
        · cases q.1
        · have q1 : 2 ≤ 0 := q.1; omega
        · cases q.1
        · have q1 : (0 : Nat) = 10 ∨ (0 : Nat) = 11 := q.1; omega
      exact s_push (v := (v : Int)) hs K hlt (fun S' f' K' => go S' f' K')
    · have e := si.2.2.2.2.2.2.2.2.2.1 z
      subst e
      have hlt : v < 6 ∧ st.length < 32 := by
        rcases hst with q | q | q | q | q
        · cases q.1
        · exact q.2
        · have q1 : 2 ≤ 1 := q.1; omega
        · cases q.1
        · have q1 : (1 : Nat) = 10 ∨ (1 : Nat) = 11 := q.1; omega
      refine ⟨hlt.1, ?_⟩
      rw [he v hlt.1]
      exact s_push hs K hlt.2 (fun S' f' K' => go S' f' K')
    · have e := si.2.2.2.2.2.2.2.2.2.2.1 z
      subst e
      rcases hst with q | q | q | q | q
      · cases q.1
      · cases q.1
      · have q1 : 9 ≤ 8 := q.2.1; omega
      · obtain ⟨a, r, er, za⟩ := q.2.2
        subst er
        rw [List.length_cons] at hl
        refine s_pop hs K (by omega) (fun S1 f1 K1 => ?_)
        have e1 : (1 : Int32) - vI a = vI (1 - a) := by rcases za with rfl | rfl <;> rfl
        rw [e1]
        exact s_push (hs.fr f1) K1 (by omega) (fun S2 f2 K2 => go S2 (f1.tr f2) K2)
      · have q1 : (9 : Nat) = 10 ∨ (9 : Nat) = 11 := q.1; omega
    · have hop : ∃ a b r, st = b :: a :: r ∧ ((2 ≤ c ∧ c ≤ 8 ∧ bdv a ∧ bdv b) ∨ ((c = 10 ∨ c = 11) ∧ z01 a ∧ z01 b)) := by
        rcases hst with q | q | q | q | q
        · exfalso
          have q1 : c = 0 := q.1
          rw [q1] at z; exact z.1 rfl
        · exfalso
          have q1 : c = 1 := q.1
          rw [q1] at z; exact z.2.1 rfl
        · obtain ⟨a, b, r, er, ba, bb⟩ := q.2.2.2
          exact ⟨a, b, r, er, Or.inl ⟨q.1, q.2.1, ba, bb⟩⟩
        · exfalso
          have q1 : c = 9 := q.1
          rw [q1] at z; exact z.2.2.2.2 rfl
        · obtain ⟨a, b, r, er, ba, bb⟩ := q.2.2
          exact ⟨a, b, r, er, Or.inr ⟨q.1, ba, bb⟩⟩
      obtain ⟨a, b, r, er, hab⟩ := hop
      subst er
      simp only [List.length_cons] at hl
      refine s_pop hs K (by rw [List.length_cons]; omega) (fun S1 f1 K1 => s_pop (hs.fr f1) K1 (by omega) (fun S2 f2 K2 => s_cput hab ?_))
      refine s_push (hs.fr (f1.tr f2)) K2 (by omega) (fun S3 f3 K3 => go S3 ((f1.tr f2).tr f3) ?_)
      unfold run1
      rw [if_neg (show ¬ c = 0 by omega), if_neg (show ¬ c = 1 by omega), if_neg (show ¬ c = 9 by omega)]
      exact K3
end LEV
