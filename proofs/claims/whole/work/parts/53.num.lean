/-! numbers, bits, and the JDK's own methods -/
theorem vp_nI {p n : Nat} (h : p < n) (hn : n < 2 ^ 31) : vp_in (nI p) n := nI_in h hn
theorem b_nI (n : Nat) {i : Nat} (hi : i < 32) : bt (nI n) i = n.testBit i := by
  unfold bt nI
  show (BitVec.ofNat 32 n).getLsbD i = _
  rw [BitVec.getLsbD_ofNat]
  simp [hi]
def bs : Nat → (Nat → Bool) → Int32
  | 0, _ => 0
  | n + 1, p => if p n = true then bs n p ||| ((1 : Int32) <<< (nI n &&& 31)) else bs n p
theorem b_bs (p : Nat → Bool) : ∀ n, n ≤ 32 → ∀ i, bt (bs n p) i = (decide (i < n) && p i)
  | 0, _, i => by rw [show bs 0 p = 0 from rfl, b_0]; simp
  | n + 1, hn, i => by
    rcases Nat.lt_or_ge i 32 with hi | hi
    · have ih := b_bs p n (by omega) i
      show bt (if p n = true then bs n p ||| ((1 : Int32) <<< (nI n &&& 31)) else bs n p) i = _
      by_cases hp : p n = true
      · rw [if_pos hp, b_or, ih, b_one n (by omega) hi]
        by_cases e : i = n
        · subst e; simp [hp]
        · have : decide (i < n) = decide (i < n + 1) := by
            by_cases q : i < n
            · simp [q, Nat.lt_succ_of_lt q]
            · simp [q, show ¬ i < n + 1 by omega]
          simp [e, this]
      · rw [if_neg hp, ih]
        have hp' : p n = false := by simpa using hp
        by_cases e : i = n
        · subst e; simp [hp']
        · have : decide (i < n) = decide (i < n + 1) := by
            by_cases q : i < n
            · simp [q, Nat.lt_succ_of_lt q]
            · simp [q, show ¬ i < n + 1 by omega]
          rw [this]
    · rw [b_big hi]
      simp
      intro q
      omega
theorem bs_in (p : Nat → Bool) {n : Nat} (hn : n ≤ 32) : cp_in (bs n p) n := by
  intro i hi
  rw [b_bs p n hn] at hi
  simp at hi
  exact hi.1
theorem bs_cong {p q : Nat → Bool} : ∀ {n : Nat}, (∀ i, i < n → p i = q i) → bs n p = bs n q
  | 0, _ => rfl
  | n + 1, h => by
    show (if p n = true then bs n p ||| ((1 : Int32) <<< (nI n &&& 31)) else bs n p) = (if q n = true then bs n q ||| ((1 : Int32) <<< (nI n &&& 31)) else bs n q)
    rw [h n (by omega), bs_cong (fun i hi => h i (Nat.lt_succ_of_lt hi))]
theorem bs_s1 {p : Nat → Bool} {n : Nat} (h : p n = true) : bs (n + 1) p = bs n p ||| ((1 : Int32) <<< (nI n &&& 31)) := if_pos h
theorem bs_s0 {p : Nat → Bool} {n : Nat} (h : ¬ p n = true) : bs (n + 1) p = bs n p := if_neg h
theorem bs_s0' {p : Nat → Bool} {n : Nat} (h : ¬ p n = true) : bs (n + 1) p = bs n p ||| 0 := by
  rw [bs_s0 h]
  apply b_ext
  intro i _
  rw [b_or, b_0]; simp
/-- 2^n - 1 -/
def al (n : Nat) : Int32 := ((1 : Int32) <<< (nI n &&& 31)) - 1
theorem b_al' : ∀ n, n < 21 → ∀ i, i < 32 → bt (al n) i = decide (i < n) := by decide +kernel
theorem b_al {n : Nat} (hn : n ≤ 20) (i : Nat) : bt (al n) i = decide (i < n) := by
  rcases Nat.lt_or_ge i 32 with hi | hi
  · exact b_al' n (by omega) i hi
  · rw [b_big hi]; simp; omega
theorem al_nI' : ∀ n, n < 21 → al n = nI (2 ^ n - 1) := by decide +kernel
theorem al_nI {n : Nat} (h : n ≤ 20) : al n = nI (2 ^ n - 1) := al_nI' n (by omega)
theorem cp_in.nI {x : Int32} {n : Nat} (h : cp_in x n) (hn : n ≤ 31) : ∃ m, m < 2 ^ n ∧ x = nI m := by
  have e : x.toBitVec.toNat < 2 ^ n := by
    apply Nat.lt_pow_two_of_testBit
    intro i hi
    cases q : x.toBitVec.toNat.testBit i with
    | false => rfl
    | true =>
      have : bt x i = true := by unfold bt; rw [BitVec.getLsbD]; exact q
      have := h i this
      omega
  refine ⟨x.toBitVec.toNat, e, ?_⟩
  apply Int32.toBitVec_inj.mp
  show x.toBitVec = BitVec.ofNat 32 _
  simp
theorem nI_cp {m n : Nat} (h : m < 2 ^ n) : cp_in (nI m) n := by
  intro i hi
  have h32 := b_lt hi
  rw [b_nI m h32] at hi
  rcases Nat.lt_or_ge i n with q | q
  · exact q
  · rw [Nat.testBit_lt_two_pow (Nat.lt_of_lt_of_le h (Nat.pow_le_pow_right (by omega) q))] at hi
    cases hi
/-! the JDK's -/
def bc (x0 : Int32) : Int32 :=
  let v1 := x0 - ((((x0).toUInt32 >>> (((1 : Int32)).toUInt32 &&& Int32.toUInt32 31)).toInt32) &&& (1431655765 : Int32))
  let v2 := (v1 &&& (858993459 : Int32)) + ((((v1).toUInt32 >>> (((2 : Int32)).toUInt32 &&& Int32.toUInt32 31)).toInt32) &&& (858993459 : Int32))
  let v3 := (v2 + (((v2).toUInt32 >>> (((4 : Int32)).toUInt32 &&& Int32.toUInt32 31)).toInt32)) &&& (252645135 : Int32)
  let v4 := v3 + (((v3).toUInt32 >>> (((8 : Int32)).toUInt32 &&& Int32.toUInt32 31)).toInt32)
  let v5 := v4 + (((v4).toUInt32 >>> (((16 : Int32)).toUInt32 &&& Int32.toUInt32 31)).toInt32)
  v5 &&& (63 : Int32)
theorem s_bc {l : Launch} {G : mj_G} {x : Int32} {S : mj_S} {Q : mj_S → Int32 → Prop} (h : Q S (bc x)) : M_J6_bitCount_0f7a4 l G x S Q := by
  refine e_J6_bitCount_0f7a4 (b_J6_bitCount_0f7a4_0 ?_)
  intro v1 e1 v2 e2 v3 e3 v4 e4 v5 e5
  rw [e5, e4, e3, e2, e1]
  exact h
/-- of ten bits -/
theorem bc_10 : ∀ n, n < 1024 → bc (nI n) = nI (cp_n (nI n) 10) := by decide +kernel
def nz4 (x0 x1 : Int32) : Int32 := if x0 ≤ 4 then x1 + (((x0).toUInt32 >>> (((1 : Int32)).toUInt32 &&& Int32.toUInt32 31)).toInt32) else (x1 + 2) + ((((((x0).toUInt32 >>> (((2 : Int32)).toUInt32 &&& Int32.toUInt32 31)).toInt32)).toUInt32 >>> (((1 : Int32)).toUInt32 &&& Int32.toUInt32 31)).toInt32)
def nz3 (x0 x1 : Int32) : Int32 := if x0 ≤ 16 then nz4 x0 x1 else nz4 (((x0).toUInt32 >>> (((4 : Int32)).toUInt32 &&& Int32.toUInt32 31)).toInt32) (x1 + 4)
def nz2 (x0 x1 : Int32) : Int32 := if x0 ≤ 256 then nz3 x0 x1 else nz3 (((x0).toUInt32 >>> (((8 : Int32)).toUInt32 &&& Int32.toUInt32 31)).toInt32) (x1 + 8)
def nz1 (v1 : Int32) : Int32 := if 0 < v1 then (if v1 ≤ 65536 then nz2 v1 1 else nz2 (((v1).toUInt32 >>> (((16 : Int32)).toUInt32 &&& Int32.toUInt32 31)).toInt32) (1 + 16)) else v1 &&& 32
def nz (x : Int32) : Int32 := nz1 ((x ^^^ (-1)) &&& (x - 1))
theorem s_nz {l : Launch} {G : mj_G} {x : Int32} {S : mj_S} {Q : mj_S → Int32 → Prop} (h : Q S (nz x)) : M_J6_numberOfTrailingZeros_0f7a4 l G x S Q := by
  have s4 : ∀ a b, Q S (nz4 a b) → V_J6_numberOfTrailingZeros_0f7a4_62 l G a b S Q := fun a b h => by
    refine b_J6_numberOfTrailingZeros_0f7a4_62 ⟨fun q => ?_, fun q v1 e1 v2 e2 => ?_⟩
    · unfold nz4 at h; rw [if_pos q] at h; exact h
    · unfold nz4 at h; rw [if_neg q] at h; rw [e1, e2]; exact h
  have s3 : ∀ a b, Q S (nz3 a b) → V_J6_numberOfTrailingZeros_0f7a4_49 l G a b S Q := fun a b h => by
    refine b_J6_numberOfTrailingZeros_0f7a4_49 ⟨fun q => ?_, fun q v1 e1 v2 e2 => ?_⟩
    · unfold nz3 at h; rw [if_pos q] at h; exact s4 _ _ h
    · unfold nz3 at h; rw [if_neg q] at h; rw [e1, e2]; exact s4 _ _ h
  have s2 : ∀ a b, Q S (nz2 a b) → V_J6_numberOfTrailingZeros_0f7a4_34 l G a b S Q := fun a b h => by
    refine b_J6_numberOfTrailingZeros_0f7a4_34 ⟨fun q => ?_, fun q v1 e1 v2 e2 => ?_⟩
    · unfold nz2 at h; rw [if_pos q] at h; exact s3 _ _ h
    · unfold nz2 at h; rw [if_neg q] at h; rw [e1, e2]; exact s3 _ _ h
  refine e_J6_numberOfTrailingZeros_0f7a4 (b_J6_numberOfTrailingZeros_0f7a4_0 ?_)
  intro v1 e1
  unfold nz at h
  rw [← e1] at h
  unfold nz1 at h
  refine ⟨fun q => ⟨fun q2 => ?_, fun q2 v2 e2 v3 e3 => ?_⟩, fun q => ?_⟩
  · rw [if_pos q, if_pos q2] at h; exact s2 _ _ h
  · rw [if_pos q, if_neg q2] at h; rw [e2, e3]; exact s2 _ _ h
  · rw [if_neg q] at h; exact h
/-- the lowest bit -/
theorem b_lowest {n k m : Nat} (hk : k < 20) (e : n = 2 ^ k * (2 * m + 1)) (hn : n < 2 ^ 31) : ((nI n ^^^ (-1)) &&& (nI n - 1)) = nI (2 ^ k - 1) ∧ nI n &&& (- nI n) = nI (2 ^ k) := by
  have hp : 0 < 2 ^ k := Nat.pow_pos (by omega)
  have e0 : n = (n - 1) + 1 := by
    have : 1 ≤ 2 ^ k * (2 * m + 1) := Nat.le_trans hp (Nat.le_mul_of_pos_right _ (by omega))
    omega
  have e1 : nI n - 1 = nI (n - 1) := by rw [e0, nI_pred]; rfl
  have e2 : n - 1 = 2 ^ k * (2 * m) + (2 ^ k - 1) := by
    rw [e, Nat.mul_add, Nat.mul_one]; omega
  have tb : ∀ i, (n - 1).testBit i = if i < k then true else (2 * m).testBit (i - k) := by
    intro i
    rw [e2, Nat.testBit_two_pow_mul_add _ (by omega)]
    split
    · rename_i h
      rw [Nat.testBit_two_pow_sub_one]; simpa using h
    · rfl
  have tn : ∀ i, n.testBit i = if i < k then false else (2 * m + 1).testBit (i - k) := by
    intro i
    have := Nat.testBit_two_pow_mul_add (2 * m + 1) (b := 0) (i := k) hp i
    rw [Nat.add_zero] at this
    rw [e, this]
    split
    · exact Nat.zero_testBit i
    · rfl
  have od : ∀ j, (2 * m + 1).testBit j = if j = 0 then true else (2 * m).testBit j := by
    intro j
    cases j with
    | zero => simp [Nat.testBit_zero]
    | succ j =>
      rw [if_neg (by omega), Nat.testBit_succ, Nat.testBit_succ]
      congr 1
      omega
  have ev : (2 * m).testBit 0 = false := by simp [Nat.testBit_zero]
  have neg : - nI n = (nI n - 1) ^^^ (-1) := by
    apply Int32.toBitVec_inj.mp
    rw [Int32.toBitVec_neg, Int32.toBitVec_xor, Int32.toBitVec_sub]
    show - (nI n).toBitVec = ((nI n).toBitVec - 1#32) ^^^ (BitVec.allOnes 32)
    rw [BitVec.xor_allOnes, BitVec.not_sub_one_eq_not_add_one]
    simp [BitVec.neg_eq_not_add]
  constructor
  · apply b_ext
    intro i hi
    rw [b_and, b_not _ hi, e1, b_nI _ hi, b_nI _ hi, b_nI _ hi, tb, tn, Nat.testBit_two_pow_sub_one]
    by_cases h : i < k
    · simp [h]
    · rw [if_neg h, if_neg h, od]
      by_cases h0 : i - k = 0
      · simp [h0, h]
      · simp [h0, h]
  · rw [neg, e1]
    apply b_ext
    intro i hi
    rw [b_and, b_not _ hi, b_nI _ hi, b_nI _ hi, b_nI _ hi, tb, tn, Nat.testBit_two_pow]
    by_cases h : i < k
    · simp [h]; omega
    · rw [if_neg h, if_neg h, od]
      by_cases h0 : i - k = 0
      · have : k = i := by omega
        subst this
        simp [ev]
      · have : ¬ k = i := by omega
        simp [h0, this]
theorem nz1_k : ∀ k, k < 20 → nz1 (nI (2 ^ k - 1)) = nI k := by decide +kernel
theorem one_k : ∀ k, k < 20 → nI (2 ^ k) = (1 : Int32) <<< (nI k &&& 31) := by decide +kernel
/-- of a set that isn't empty, within twenty bits: its lowest -/
theorem nz_of {x : Int32} (hx : cp_in x 20) (h0 : x ≠ 0) : ∃ k, k < 20 ∧ nz x = nI k ∧ bt x k = true ∧ x &&& (-x) = (1 : Int32) <<< (nI k &&& 31) ∧ ∀ i, bt x i = true → k ≤ i := by
  obtain ⟨n, hn, e⟩ := hx.nI (by omega)
  have hn0 : n ≠ 0 := fun q => h0 (by rw [e, q]; rfl)
  have key : ∀ b n : Nat, n < 2 ^ b → n ≠ 0 → ∃ k m, k < b ∧ n = 2 ^ k * (2 * m + 1) := by
    intro b
    induction b with
    | zero => intro n h1 h2; simp at h1; omega
    | succ b ih =>
      intro n h1 h2
      by_cases q : n % 2 = 1
      · exact ⟨0, n / 2, by omega, by omega⟩
      · obtain ⟨k, m, h3, h4⟩ := ih (n / 2) (by rw [Nat.pow_succ] at h1; omega) (by omega)
        refine ⟨k + 1, m, by omega, ?_⟩
        have : n = 2 * (n / 2) := by omega
        rw [this, h4, Nat.pow_succ, Nat.mul_comm (2 ^ k) 2, Nat.mul_assoc]
  obtain ⟨k, m, hk, hm⟩ := key 20 n hn hn0
  have hl := b_lowest hk hm (by omega)
  refine ⟨k, hk, ?_, ?_, ?_, ?_⟩
  · unfold nz; rw [e, hl.1]; exact nz1_k k hk
  · rw [e, b_nI _ (by omega), hm]
    have := Nat.testBit_two_pow_mul_add (2 * m + 1) (b := 0) (i := k) (Nat.pow_pos (by omega)) k
    rw [Nat.add_zero] at this
    rw [this, if_neg (by omega)]
    simp [Nat.testBit_zero]
  · rw [e, hl.2]; exact one_k k hk
  · intro i hi
    have h32 := b_lt hi
    rw [e, b_nI _ h32, hm] at hi
    have := Nat.testBit_two_pow_mul_add (2 * m + 1) (b := 0) (i := k) (Nat.pow_pos (by omega)) i
    rw [Nat.add_zero] at this
    rw [this] at hi
    rcases Nat.lt_or_ge i k with q | q
    · rw [if_pos q] at hi; simp at hi
    · exact q
def mx (a b : Int32) : Int32 := if a < b then b else a
def mn (a b : Int32) : Int32 := if b < a then b else a
def ab1 (a : Int32) : Int32 := if 0 ≤ a then a else -a
theorem s_mx {l : Launch} {G : mj_G} {x y : Int32} {S : mj_S} {Q : mj_S → Int32 → Prop} (h : Q S (mx x y)) : M_J9_max_7cf53 l G x y S Q := by
  refine e_J9_max_7cf53 (b_J9_max_7cf53_0 ?_)
  unfold mx at h
  exact ⟨fun q => by rw [if_pos q] at h; exact h, fun q => by rw [if_neg q] at h; exact h⟩
theorem s_mn {l : Launch} {G : mj_G} {x y : Int32} {S : mj_S} {Q : mj_S → Int32 → Prop} (h : Q S (mn x y)) : M_J9_min_7cf53 l G x y S Q := by
  refine e_J9_min_7cf53 (b_J9_min_7cf53_0 ?_)
  unfold mn at h
  exact ⟨fun q => by rw [if_pos q] at h; exact h, fun q => by rw [if_neg q] at h; exact h⟩
theorem s_ab {l : Launch} {G : mj_G} {x : Int32} {S : mj_S} {Q : mj_S → Int32 → Prop} (h : Q S (ab1 x)) : M_J9_abs_0f7a4 l G x S Q := by
  refine e_J9_abs_0f7a4 (b_J9_abs_0f7a4_0 ?_)
  unfold ab1 at h
  exact ⟨fun q => by rw [if_pos q] at h; exact h, fun q => by rw [if_neg q] at h; exact h⟩
def mxL (a b : Int64) : Int64 := if lg_cmp a b < 0 then b else a
def mnL (a b : Int64) : Int64 := if 0 < lg_cmp a b then b else a
theorem s_mxL {l : Launch} {G : mj_G} {x y : Int64} {S : mj_S} {Q : mj_S → Int64 → Prop} (h : Q S (mxL x y)) : M_J9_max_f86c9 l G x y S Q := by
  refine e_J9_max_f86c9 (b_J9_max_f86c9_0 ?_)
  unfold mxL at h
  exact ⟨fun q => by rw [if_pos q] at h; exact h, fun q => by rw [if_neg q] at h; exact h⟩
theorem s_mnL {l : Launch} {G : mj_G} {x y : Int64} {S : mj_S} {Q : mj_S → Int64 → Prop} (h : Q S (mnL x y)) : M_J9_min_f86c9 l G x y S Q := by
  refine e_J9_min_f86c9 (b_J9_min_f86c9_0 ?_)
  unfold mnL at h
  exact ⟨fun q => by rw [if_pos q] at h; exact h, fun q => by rw [if_neg q] at h; exact h⟩
theorem fm_100 : ∀ y, y < 1300 → nI y - nI y / 100 * 100 = nI (y % 100) := by decide +kernel
theorem fm_pos : ∀ y, y < 1300 → 0 ≤ (nI y ^^^ (100 : Int32)) := by decide +kernel
theorem s_fm {l : Launch} {G : mj_G} {y : Nat} (hy : y < 1300) {S : mj_S} {Q : mj_S → Int32 → Prop} (h : Q S (nI (y % 100))) : M_J9_floorMod_7cf53 l G (nI y) 100 S Q := by
  refine e_J9_floorMod_7cf53 (b_J9_floorMod_7cf53_0 ⟨by decide, fun v e => ⟨fun _ => ?_, fun q => absurd (fm_pos y hy) q⟩⟩)
  rw [e, fm_100 y hy]; exact h
/-- Arrays.fill -/
theorem s_fill {l : Launch} {G : mj_G} {a n : Nat} {x : Int32} {S : mj_S} {Q : mj_S → Prop} (hk : m_kd S a = 100) (hl : m_ln S a = n) (hn : n < 10000) (h : ∀ S', S' = m_row S a (fun j => if j < n then x else m_gi S a j) → Q S') : M_J7_fill_53178 l G a x S Q := by
  have lp : ∀ k i, i + k = n → ∀ T : mj_S, T = m_row S a (fun j => if j < i then x else m_gi S a j) → V_J7_fill_53178_5 l G a x (nI i) (nI n) T Q := by
    intro k
    induction k with
    | zero =>
      intro i e T eT
      have hkT : m_kd T a = 100 := by rw [eT]; exact hk
      refine b_J7_fill_53178_5 hkT ⟨fun _ => h T (by rw [eT, show n = i by omega]), fun q => absurd (nI_le (by omega) (by omega)) q⟩
    | succ k ih =>
      intro i e T eT
      have hkT : m_kd T a = 100 := by rw [eT]; exact hk
      have hlT : m_ln T a = n := by rw [eT]; exact hl
      refine b_J7_fill_53178_5 hkT ⟨fun q => absurd q (nI_ge (by omega) (by omega)), fun _ => ⟨by rw [hlT]; exact vp_nI (by omega) (by omega), fun S1 e1 v ev => ?_⟩⟩
      rw [ev, nI_1]
      refine ih (i + 1) (by omega) S1 ?_
      rw [e1, eT, nI_clamp (by omega)]
      refine m_ext rfl (fun b k => ?_) (fun _ _ => rfl) (fun _ _ => rfl)
      rw [m_gi_si, m_gi_row, m_gi_row]
      by_cases hb : b = a
      · by_cases hki : k = i
        · simp [hb, hki]
        · have : (k < i + 1) = (k < i) := propext ⟨fun q => by omega, fun q => by omega⟩
          simp [hb, hki, this]
      · simp [hb]
  refine e_J7_fill_53178 (b_J7_fill_53178_0 hk ?_)
  intro v e
  rw [e, hl]
  refine lp n 0 (by omega) S ?_
  refine m_ext rfl (fun b k => ?_) (fun _ _ => rfl) (fun _ _ => rfl)
  rw [m_gi_row]
  by_cases hb : b = a
  · simp [hb]
  · simp [hb]
