theorem dr_s : (((((33 : Int32)).toInt64.toUInt64 &&& Int64.toUInt64 63)).toBitVec % 64).toNat = 33 := by decide +kernel
theorem dr_u (d : Int64) : ((d.toUInt64 >>> (((33 : Int32)).toInt64.toUInt64 &&& Int64.toUInt64 63)).toInt64) = lN (d.toBitVec.toNat / 2 ^ 33) := by
  apply Int64.toBitVec_inj.mp
  apply BitVec.eq_of_toNat_eq
  show ((d.toUInt64 >>> (((33 : Int32)).toInt64.toUInt64 &&& Int64.toUInt64 63)).toBitVec).toNat = (BitVec.ofNat 64 (d.toBitVec.toNat / 2 ^ 33)).toNat
  rw [UInt64.toBitVec_shiftRight, BitVec.toNat_ofNat, Nat.mod_eq_of_lt]
  · show (d.toUInt64.toBitVec >>> (((((33 : Int32)).toInt64.toUInt64 &&& Int64.toUInt64 63)).toBitVec % 64).toNat).toNat = _
    rw [dr_s, BitVec.toNat_ushiftRight, Nat.shiftRight_eq_div_pow]
    rfl
  · have := d.toBitVec.isLt
    omega
theorem lN_div {a b : Nat} (ha : a < 2 ^ 31) (hb : b < 2 ^ 31) : lN a / lN b = lN (a / b) := by
  apply Int64.toInt_inj.mp
  have : a / b ≤ a := Nat.div_le_self a b
  rw [Int64.toInt_div, lN_toInt ha, lN_toInt hb, lN_toInt (by omega), ← Int.ofNat_tdiv]
  generalize a / b = q at this ⊢
  exact Int.bmod_eq_of_le (by omega) (by omega)
/-- the next number, and what is drawn by it -/
def nxt (d : Int64) : Int64 := (d * (6364136223846793005 : Int64)) + (1442695040888963407 : Int64)
def dvl (d : Int64) (m : Nat) : Nat := (d.toBitVec.toNat / 2 ^ 33) % m
theorem dvl_lt {d : Int64} {m : Nat} (h : 0 < m) : dvl d m < m := Nat.mod_lt _ h
theorem dvl_is (d : Int64) {m : Nat} (hm : m < 2 ^ 31) : ((((d.toUInt64 >>> (((33 : Int32)).toInt64.toUInt64 &&& Int64.toUInt64 63)).toInt64) - (((d.toUInt64 >>> (((33 : Int32)).toInt64.toUInt64 &&& Int64.toUInt64 63)).toInt64) / (nI m).toInt64 * (nI m).toInt64)).toInt32) = nI (dvl d m) := by
  have hlt : d.toBitVec.toNat / 2 ^ 33 < 2 ^ 31 := by
    have := d.toBitVec.isLt
    omega
  have hle : d.toBitVec.toNat / 2 ^ 33 / m * m ≤ d.toBitVec.toNat / 2 ^ 33 := Nat.div_mul_le_self _ _
  rw [dr_u, nI_l hm, lN_div hlt hm, lN_mul, lN_sub hle, lN_i]
  unfold dvl
  congr 1
  have := Nat.div_add_mod (d.toBitVec.toNat / 2 ^ 33) m
  rw [Nat.mul_comm] at this
  omega
