/-! ===== Int32 by its bits: bt x i ===== -/
def bt (x : Int32) (i : Nat) : Bool := x.toBitVec.getLsbD i
theorem b_ext {x y : Int32} (h : ∀ i, i < 32 → bt x i = bt y i) : x = y := Int32.toBitVec_inj.mp (BitVec.eq_of_getLsbD_eq (fun i hi => h i hi))
theorem b_or (x y : Int32) (i : Nat) : bt (x ||| y) i = (bt x i || bt y i) := by unfold bt; rw [Int32.toBitVec_or, BitVec.getLsbD_or]
theorem b_and (x y : Int32) (i : Nat) : bt (x &&& y) i = (bt x i && bt y i) := by unfold bt; rw [Int32.toBitVec_and, BitVec.getLsbD_and]
theorem b_xor (x y : Int32) (i : Nat) : bt (x ^^^ y) i = (bt x i ^^ bt y i) := by unfold bt; rw [Int32.toBitVec_xor, BitVec.getLsbD_xor]
theorem b_big {x : Int32} {i : Nat} (h : 32 ≤ i) : bt x i = false := BitVec.getLsbD_of_ge _ _ h
theorem b_255 (i : Nat) : bt 255 i = decide (i < 8) := by
  rcases Nat.lt_or_ge i 32 with h | h
  · exact (by decide +kernel : ∀ i, i < 32 → bt 255 i = decide (i < 8)) i h
  · rw [b_big h, decide_eq_false (by omega)]
theorem b_65535 (i : Nat) : bt 65535 i = decide (i < 16) := by
  rcases Nat.lt_or_ge i 32 with h | h
  · exact (by decide +kernel : ∀ i, i < 32 → bt 65535 i = decide (i < 16)) i h
  · rw [b_big h, decide_eq_false (by omega)]
theorem b_m1 : ∀ i, i < 32 → bt (-1) i = true := by decide +kernel
theorem b_0 (i : Nat) : bt 0 i = false := BitVec.getLsbD_zero
theorem s_l : ∀ n, n < 32 → ((nI n &&& 31).toBitVec.smod 32).toNat = n := by decide +kernel
theorem s_u : ∀ n, n < 32 → (((nI n).toUInt32 &&& Int32.toUInt32 31).toBitVec % 32).toNat = n := by decide +kernel
theorem b_shl (n : Nat) (hn : n < 32) (x : Int32) {i : Nat} (hi : i < 32) : bt (x <<< (nI n &&& 31)) i = (decide (n ≤ i) && bt x (i - n)) := by
  unfold bt
  rw [Int32.toBitVec_shiftLeft]
  show (x.toBitVec <<< ((nI n &&& 31).toBitVec.smod 32).toNat).getLsbD i = _
  rw [s_l n hn, BitVec.getLsbD_shiftLeft]
  rcases Nat.lt_or_ge i n with h | h
  · simp [h, Nat.not_le.mpr h]
  · simp [hi, h, Nat.not_lt.mpr h]
theorem b_ushr (n : Nat) (hn : n < 32) (x : Int32) (i : Nat) : bt ((x.toUInt32 >>> ((nI n).toUInt32 &&& Int32.toUInt32 31)).toInt32) i = bt x (n + i) := by
  show (x.toUInt32 >>> ((nI n).toUInt32 &&& Int32.toUInt32 31)).toBitVec.getLsbD i = x.toUInt32.toBitVec.getLsbD (n + i)
  rw [UInt32.toBitVec_shiftRight]
  show (x.toUInt32.toBitVec >>> (((nI n).toUInt32 &&& Int32.toUInt32 31).toBitVec % 32).toNat).getLsbD i = _
  rw [s_u n hn, BitVec.getLsbD_ushiftRight]
theorem b_sshr (n : Nat) (hn : n < 32) (x : Int32) {i : Nat} (hi : i < 32) : bt (x >>> (nI n &&& 31)) i = if n + i < 32 then bt x (n + i) else bt x 31 := by
  unfold bt
  rw [Int32.toBitVec_shiftRight]
  show (x.toBitVec.sshiftRight ((nI n &&& 31).toBitVec.smod 32).toNat).getLsbD i = _
  rw [s_l n hn, BitVec.getLsbD_sshiftRight, BitVec.msb_eq_getLsbD_last]
  simp [hi]
theorem b_shl8 (x : Int32) {i : Nat} (hi : i < 32) : bt (x <<< ((8 : Int32) &&& 31)) i = (decide (8 ≤ i) && bt x (i - 8)) := b_shl 8 (by omega) x hi
theorem b_shl16 (x : Int32) {i : Nat} (hi : i < 32) : bt (x <<< ((16 : Int32) &&& 31)) i = (decide (16 ≤ i) && bt x (i - 16)) := b_shl 16 (by omega) x hi
theorem b_shl24 (x : Int32) {i : Nat} (hi : i < 32) : bt (x <<< ((24 : Int32) &&& 31)) i = (decide (24 ≤ i) && bt x (i - 24)) := b_shl 24 (by omega) x hi
theorem b_sshr8 (x : Int32) {i : Nat} (hi : i < 32) : bt (x >>> ((8 : Int32) &&& 31)) i = if 8 + i < 32 then bt x (8 + i) else bt x 31 := b_sshr 8 (by omega) x hi
/-! sets of bits: what is joined -/
theorem b_not (x : Int32) {i : Nat} (h : i < 32) : bt (x ^^^ (-1)) i = !bt x i := by rw [b_xor, b_m1 i h]; simp
theorem b_lt {x : Int32} {i : Nat} (h : bt x i = true) : i < 32 := by
  rcases Nat.lt_or_ge i 32 with q | q
  · exact q
  · rw [b_big q] at h; cases h
theorem b_1 : ∀ i, i < 32 → bt 1 i = decide (i = 0) := by decide +kernel
/-- one bit -/
theorem b_one (n : Nat) (hn : n < 32) {i : Nat} (hi : i < 32) : bt ((1 : Int32) <<< (nI n &&& 31)) i = decide (i = n) := by
  rw [b_shl n hn 1 hi]
  by_cases h : n ≤ i
  · rw [b_1 _ (by omega)]
    simp [h]
    omega
  · simp [h]
    omega
theorem b_ne0 {x : Int32} (h : x ≠ 0) : ∃ i, i < 32 ∧ bt x i = true := by
  refine Classical.byContradiction fun q => h (b_ext fun i hi => ?_)
  rw [b_0]
  cases e : bt x i with
  | false => rfl
  | true => exact absurd ⟨i, hi, e⟩ q
/-- a bit by shifting and masking -/
theorem b_test (x : Int32) {n : Nat} (hn : n < 32) : ((x >>> (nI n &&& 31)) &&& 1 = 0) ↔ bt x n = false := by
  constructor
  · intro h
    have h1 : bt ((x >>> (nI n &&& 31)) &&& 1) 0 = false := by rw [h]; exact b_0 0
    rw [b_and, b_sshr n hn x (by omega), b_1 0 (by omega)] at h1
    simpa [hn] using h1
  · intro h
    apply b_ext
    intro i hi
    rw [b_and, b_1 i hi, b_0]
    by_cases e : i = 0
    · subst e
      rw [b_sshr n hn x (by omega)]
      simp [hn, h]
    · simp [e]
theorem b_test1 (x : Int32) {n : Nat} (hn : n < 32) : ((x >>> (nI n &&& 31)) &&& 1 = 1) ↔ bt x n = true := by
  constructor
  · intro h
    cases e : bt x n with
    | true => rfl
    | false => rw [(b_test x hn).mpr e] at h; exact absurd h (by decide)
  · intro h
    apply b_ext
    intro i hi
    rw [b_and, b_1 i hi]
    by_cases e : i = 0
    · subst e
      rw [b_sshr n hn x (by omega)]
      simp [hn, h]
    · simp [e]
def cp_ge (x y : Int32) : Prop := ∀ i, bt x i = true → bt y i = true
def cp_cl (E : Nat → Nat → Prop) (x : Int32) : Prop := ∀ a b, bt x a = true → E a b → bt x b = true
/-- x is the least set that holds s and all that is joined to it -/
def cp_is (E : Nat → Nat → Prop) (s x : Int32) : Prop := cp_ge s x ∧ cp_cl E x ∧ ∀ y, cp_ge s y → cp_cl E y → cp_ge x y
theorem cp_anti {x y : Int32} (h1 : cp_ge x y) (h2 : cp_ge y x) : x = y := by
  apply b_ext
  intro i _
  cases e : bt x i with
  | true => exact (h1 i e).symm
  | false =>
    cases e2 : bt y i with
    | false => rfl
    | true => rw [h2 i e2] at e; exact e.symm
theorem cp_one {E : Nat → Nat → Prop} {s x y : Int32} (h1 : cp_is E s x) (h2 : cp_is E s y) : x = y := cp_anti (h1.2.2 y h2.1 h2.2.1) (h2.2.2 x h1.1 h1.2.1)
theorem cp_cong {E E' : Nat → Nat → Prop} {s x : Int32} (h : ∀ a b, E a b ↔ E' a b) (h1 : cp_is E s x) : cp_is E' s x := by
  have e : E = E' := by funext a b; exact propext (h a b)
  rw [← e]; exact h1
/-- how many of the first n bits -/
def cp_n (x : Int32) : Nat → Nat
  | 0 => 0
  | n + 1 => cp_n x n + (if bt x n = true then 1 else 0)
theorem cp_n_le (x : Int32) : ∀ n, cp_n x n ≤ n
  | 0 => Nat.le_refl _
  | n + 1 => by
    have := cp_n_le x n
    unfold cp_n
    split <;> omega
theorem cp_n_mono {x y : Int32} (h : cp_ge x y) : ∀ n, cp_n x n ≤ cp_n y n
  | 0 => Nat.le_refl _
  | n + 1 => by
    have := cp_n_mono h n
    unfold cp_n
    by_cases e : bt x n = true
    · rw [if_pos e, if_pos (h n e)]; omega
    · rw [if_neg e]; split <;> omega
theorem cp_n_lt {x y : Int32} (h : cp_ge x y) {i : Nat} (h1 : bt x i = false) (h2 : bt y i = true) : ∀ n, i < n → cp_n x n < cp_n y n
  | 0, hn => absurd hn (Nat.not_lt_zero i)
  | n + 1, hn => by
    unfold cp_n
    by_cases e : i = n
    · subst e
      have := cp_n_mono h i
      rw [if_neg (by rw [h1]; decide), if_pos h2]; omega
    · have := cp_n_lt h h1 h2 n (by omega)
      by_cases e2 : bt x n = true
      · rw [if_pos e2, if_pos (h n e2)]; omega
      · rw [if_neg e2]; split <;> omega
theorem cp_n_pos {x : Int32} {i : Nat} (h : bt x i = true) : ∀ n, i < n → 0 < cp_n x n
  | 0, hn => absurd hn (Nat.not_lt_zero i)
  | n + 1, hn => by
    unfold cp_n
    by_cases e : i = n
    · subst e; rw [if_pos h]; omega
    · have := cp_n_pos h n (by omega); omega
/-- below 2^n: no bit from n on -/
def cp_in (x : Int32) (n : Nat) : Prop := ∀ i, bt x i = true → i < n
theorem cp_in.mono {x : Int32} {n m : Nat} (h : cp_in x n) (hm : n ≤ m) : cp_in x m := fun i hi => Nat.lt_of_lt_of_le (h i hi) hm
/-- the class's sides -/
def cp_E (r d : Int32) (w : Nat) (a b : Nat) : Prop := (b = a + 1 ∧ bt r a = true) ∨ (a = b + 1 ∧ bt r b = true) ∨ (b = a + w ∧ bt d a = true) ∨ (a = b + w ∧ bt d b = true)
/-- one spreading -/
def cp_st (r d : Int32) (w : Nat) (x : Int32) : Int32 := (x ||| (((x &&& r) <<< ((1 : Int32) &&& 31)) ||| ((x >>> ((1 : Int32) &&& 31)) &&& r))) ||| (((x &&& d) <<< (nI w &&& 31)) ||| ((x >>> (nI w &&& 31)) &&& d))
theorem cp_st_b {r d x : Int32} {w : Nat} (hw : w ≤ 5) (hx : cp_in x 20) {i : Nat} (hi : i < 32) : bt (cp_st r d w x) i = true ↔ (bt x i = true ∨ ∃ a, bt x a = true ∧ cp_E r d w a i) := by
  unfold cp_st
  have h31 : bt x 31 = false := by
    cases e : bt x 31 with
    | false => rfl
    | true => have := hx 31 e; omega
  have s1 : (1 : Int32) = nI 1 := rfl
  rw [b_or, b_or, b_or, b_or, b_and, b_and, s1, b_shl 1 (by omega) _ hi, b_shl w (by omega) _ hi, b_sshr 1 (by omega) x hi, b_sshr w (by omega) x hi, b_and, b_and]
  have big : ∀ k, 32 ≤ k + i → bt x (k + i) = false := fun k hk => b_big hk
  constructor
  · intro h
    simp only [Bool.or_eq_true, Bool.and_eq_true, decide_eq_true_eq] at h
    rcases h with (h | (⟨h1, h2, h3⟩ | ⟨h1, h2⟩)) | (⟨h1, h2, h3⟩ | ⟨h1, h2⟩)
    · exact Or.inl h
    · exact Or.inr ⟨i - 1, h2, Or.inl ⟨by omega, h3⟩⟩
    · split at h1
      · exact Or.inr ⟨1 + i, h1, Or.inr (Or.inl ⟨by omega, h2⟩)⟩
      · rw [h31] at h1; cases h1
    · exact Or.inr ⟨i - w, h2, Or.inr (Or.inr (Or.inl ⟨by omega, h3⟩))⟩
    · split at h1
      · exact Or.inr ⟨w + i, h1, Or.inr (Or.inr (Or.inr ⟨by omega, h2⟩))⟩
      · rw [h31] at h1; cases h1
  · intro h
    simp only [Bool.or_eq_true, Bool.and_eq_true, decide_eq_true_eq]
    rcases h with h | ⟨a, ha, ⟨e, h⟩ | ⟨e, h⟩ | ⟨e, h⟩ | ⟨e, h⟩⟩
    · exact Or.inl (Or.inl h)
    · subst e
      exact Or.inl (Or.inr (Or.inl ⟨by omega, by simpa using ha, by simpa using h⟩))
    · subst e
      refine Or.inl (Or.inr (Or.inr ⟨?_, h⟩))
      have := hx _ ha
      rw [if_pos (by omega), Nat.add_comm]; exact ha
    · subst e
      exact Or.inr (Or.inl ⟨by omega, by simpa using ha, by simpa using h⟩)
    · subst e
      refine Or.inr (Or.inr ⟨?_, h⟩)
      have := hx _ ha
      rw [if_pos (by omega), Nat.add_comm]; exact ha
theorem cp_st_ge {r d x : Int32} {w : Nat} (hw : w ≤ 5) (hx : cp_in x 20) : cp_ge x (cp_st r d w x) := fun i hi => (cp_st_b hw hx (b_lt hi)).mpr (Or.inl hi)
theorem cp_st_in {r d x y : Int32} {w : Nat} (hw : w ≤ 5) (hx : cp_in x 20) (hy : cp_cl (cp_E r d w) y) (h : cp_ge x y) : cp_ge (cp_st r d w x) y := by
  intro i hi
  rcases (cp_st_b hw hx (b_lt hi)).mp hi with q | ⟨a, ha, he⟩
  · exact h i q
  · exact hy a i (h a ha) he
theorem cp_st_cl {r d x : Int32} {w : Nat} (hw : w ≤ 5) (hx : cp_in x 20) (h : cp_st r d w x = x) : cp_cl (cp_E r d w) x := by
  intro a b ha he
  have hb : b < 32 := by
    rcases he with ⟨e, h⟩ | ⟨e, h⟩ | ⟨e, h⟩ | ⟨e, h⟩
    · have := hx _ ha; omega
    · have := hx _ ha; omega
    · have := hx _ ha; omega
    · have := hx _ ha; omega
  rw [← h]
  exact (cp_st_b hw hx hb).mpr (Or.inr ⟨a, ha, he⟩)
/-- the right and lower sides lie within the room -/
def cp_box (r d : Int32) (w n : Nat) : Prop := (∀ a, bt r a = true → a + 1 < n) ∧ ∀ a, bt d a = true → a + w < n
theorem cp_st_box {r d x : Int32} {w n : Nat} (hw : w ≤ 5) (hb : cp_box r d w n) (hn : n ≤ 20) (hx : cp_in x n) : cp_in (cp_st r d w x) n := by
  intro i hi
  rcases (cp_st_b hw (hx.mono hn) (b_lt hi)).mp hi with q | ⟨a, ha, ⟨e, h⟩ | ⟨e, h⟩ | ⟨e, h⟩ | ⟨e, h⟩⟩
  · exact hx i q
  · have := hb.1 _ h; omega
  · have := hx _ ha; omega
  · have := hb.2 _ h; omega
  · have := hx _ ha; omega
/-- spreading, n times at most, till it stays: it stays -/
def cp_go (r d : Int32) (w : Nat) : Nat → Int32 → Int32
  | 0, x => x
  | k + 1, x => if cp_st r d w x = x then x else cp_go r d w k (cp_st r d w x)
theorem cp_go_is {r d s : Int32} {w n : Nat} (hw : w ≤ 5) (hb : cp_box r d w n) (hn : n ≤ 20) : ∀ (k : Nat) (x : Int32), cp_in x n → cp_ge s x → (∀ y, cp_ge s y → cp_cl (cp_E r d w) y → cp_ge x y) → n ≤ cp_n x n + k → cp_is (cp_E r d w) s (cp_go r d w k x)
  | 0, x, h1, h2, h3, h4 => by
    -- all bits are in: it is closed
    refine ⟨h2, ?_, h3⟩
    have all : ∀ i, i < n → bt x i = true := by
      intro i hi
      cases e : bt x i with
      | true => rfl
      | false =>
        exfalso
        have key : ∀ m, i < m → cp_n x m < m := by
          intro m
          induction m with
          | zero => intro h; omega
          | succ m ih =>
            intro h
            unfold cp_n
            by_cases e2 : i = m
            · subst e2
              have := cp_n_le x i
              rw [if_neg (by rw [e]; decide)]; omega
            · have := ih (by omega)
              split <;> omega
        have := key n hi
        omega
    intro a b ha he
    have ha' := h1 a ha
    apply all
    rcases he with ⟨e, h⟩ | ⟨e, h⟩ | ⟨e, h⟩ | ⟨e, h⟩
    · have := hb.1 _ h; omega
    · omega
    · have := hb.2 _ h; omega
    · omega
  | k + 1, x, h1, h2, h3, h4 => by
    unfold cp_go
    by_cases e : cp_st r d w x = x
    · rw [if_pos e]
      exact ⟨h2, cp_st_cl hw (h1.mono hn) e, h3⟩
    · rw [if_neg e]
      have hge := cp_st_ge (r := r) (d := d) hw (h1.mono hn)
      refine cp_go_is hw hb hn k _ (cp_st_box hw hb hn h1) (fun i hi => hge i (h2 i hi)) (fun y q1 q2 => cp_st_in hw (h1.mono hn) q2 (h3 y q1 q2)) ?_
      have : ∃ i, bt x i = false ∧ bt (cp_st r d w x) i = true := by
        refine Classical.byContradiction fun q => e (cp_anti (fun i hi => ?_) hge)
        cases e2 : bt x i with
        | true => rfl
        | false => exact absurd ⟨i, e2, hi⟩ q
      obtain ⟨i, q1, q2⟩ := this
      have := cp_n_lt hge q1 q2 n (cp_st_box hw hb hn h1 i q2)
      omega
