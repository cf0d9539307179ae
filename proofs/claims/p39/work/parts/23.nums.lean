/-! NUMBERS: what the machine's arithmetic is within bounds. -/
theorem na_rng (x : Int32) : -2147483648 ≤ x.toInt ∧ x.toInt ≤ 2147483647 := by
  have h1 := Int32.le_toInt x
  have h2 := Int32.toInt_lt x
  omega
theorem na_rngL (x : Int64) : -9223372036854775808 ≤ x.toInt ∧ x.toInt ≤ 9223372036854775807 := by
  have h1 := Int64.le_toInt x
  have h2 := Int64.toInt_lt x
  omega
theorem na_bmod {n : Int} (h1 : -2147483648 ≤ n) (h2 : n ≤ 2147483647) : n.bmod (2 ^ 32) = n := by
  simp only [Int.bmod]
  split <;> omega
theorem na_add {x y : Int32} (h1 : -2147483648 ≤ x.toInt + y.toInt) (h2 : x.toInt + y.toInt ≤ 2147483647) : (x + y).toInt = x.toInt + y.toInt := by
  rw [Int32.toInt_add, na_bmod h1 h2]
theorem na_sub {x y : Int32} (h1 : -2147483648 ≤ x.toInt - y.toInt) (h2 : x.toInt - y.toInt ≤ 2147483647) : (x - y).toInt = x.toInt - y.toInt := by
  rw [Int32.toInt_sub, na_bmod h1 h2]
theorem na_mul {x y : Int32} (h1 : -2147483648 ≤ x.toInt * y.toInt) (h2 : x.toInt * y.toInt ≤ 2147483647) : (x * y).toInt = x.toInt * y.toInt := by
  rw [Int32.toInt_mul, na_bmod h1 h2]
theorem na_neg {x : Int32} (h : -2147483647 ≤ x.toInt) : (-x).toInt = -x.toInt := by
  have h2 := na_rng x
  rw [Int32.toInt_neg, na_bmod (by omega) (by omega)]
theorem na_rem (x y : Int32) : (x - x / y * y).toInt = x.toInt.tmod y.toInt := rem_toInt x y
/-- the rest of a division by what is above 0 -/
theorem na_remb {z c : Int} (hc : 0 < c) : -c < z.tmod c ∧ z.tmod c < c := tmod_bounds hc
theorem na_rem0 {z c : Int} (hz : 0 ≤ z) (hc : 0 < c) : 0 ≤ z.tmod c ∧ z.tmod c ≤ z := by
  rw [Int.tmod_eq_emod_of_nonneg hz]
  exact ⟨Int.emod_nonneg z (by omega), by
    have h1 := Int.emod_add_mul_ediv z c
    have h2 := Int.ediv_nonneg hz (Int.le_of_lt hc)
    have h3 := Int.mul_nonneg (Int.le_of_lt hc) h2
    omega⟩
theorem na_nn {x : Int32} : 0 ≤ x.toInt ↔ x.toBitVec.toNat < 2147483648 := by
  show 0 ≤ x.toBitVec.toInt ↔ _
  rw [BitVec.toInt_eq_toNat_cond]
  have := x.toBitVec.isLt
  split <;> omega
theorem na_tn {x : Int32} (h : x.toBitVec.toNat < 2147483648) : x.toInt = (x.toBitVec.toNat : Int) := by
  show x.toBitVec.toInt = _
  rw [BitVec.toInt_eq_toNat_cond]
  split <;> omega
theorem na_and {x y : Int32} (h : 0 ≤ y.toInt) : 0 ≤ (x &&& y).toInt ∧ (x &&& y).toInt ≤ y.toInt := by
  have hy := na_nn.mp h
  have e : (x &&& y).toBitVec.toNat = x.toBitVec.toNat &&& y.toBitVec.toNat := by rw [Int32.toBitVec_and, BitVec.toNat_and]
  have hl : x.toBitVec.toNat &&& y.toBitVec.toNat ≤ y.toBitVec.toNat := Nat.and_le_right
  have h2 : (x &&& y).toBitVec.toNat < 2147483648 := by omega
  rw [na_tn h2, na_tn hy]
  omega
theorem na_and' {x y : Int32} (h : 0 ≤ x.toInt) : 0 ≤ (x &&& y).toInt ∧ (x &&& y).toInt ≤ x.toInt := by
  rw [Int32.and_comm]
  exact na_and h
theorem na_i8 (x : Int32) : -128 ≤ x.toInt8.toInt32.toInt ∧ x.toInt8.toInt32.toInt ≤ 127 := by
  rw [Int8.toInt_toInt32]
  have h1 := Int8.le_toInt x.toInt8
  have h2 := Int8.toInt_lt x.toInt8
  omega
theorem na_i16 (x : Int32) : -32768 ≤ x.toInt16.toInt32.toInt ∧ x.toInt16.toInt32.toInt ≤ 32767 := by
  rw [Int16.toInt_toInt32]
  have h1 := Int16.le_toInt x.toInt16
  have h2 := Int16.toInt_lt x.toInt16
  omega
theorem na_ushr8 (x : Int32) : 0 ≤ (x.toUInt32 >>> ((8 : Int32).toUInt32 &&& Int32.toUInt32 31)).toInt32.toInt ∧ (x.toUInt32 >>> ((8 : Int32).toUInt32 &&& Int32.toUInt32 31)).toInt32.toInt ≤ 16777215 := by
  have e : (x.toUInt32 >>> ((8 : Int32).toUInt32 &&& Int32.toUInt32 31)).toInt32.toBitVec.toNat = x.toUInt32.toNat >>> 8 := by
    show (x.toUInt32 >>> (8 : UInt32)).toNat = _
    rw [UInt32.toNat_shiftRight]
    rfl
  have hl : x.toUInt32.toNat >>> 8 ≤ 16777215 := by
    rw [Nat.shiftRight_eq_div_pow]
    have := x.toUInt32.toNat_lt
    omega
  rw [na_tn (by omega), e]
  omega
theorem na_ushr16 (x : Int32) : 0 ≤ (x.toUInt32 >>> ((16 : Int32).toUInt32 &&& Int32.toUInt32 31)).toInt32.toInt ∧ (x.toUInt32 >>> ((16 : Int32).toUInt32 &&& Int32.toUInt32 31)).toInt32.toInt ≤ 65535 := by
  have e : (x.toUInt32 >>> ((16 : Int32).toUInt32 &&& Int32.toUInt32 31)).toInt32.toBitVec.toNat = x.toUInt32.toNat >>> 16 := by
    show (x.toUInt32 >>> (16 : UInt32)).toNat = _
    rw [UInt32.toNat_shiftRight]
    rfl
  have hl : x.toUInt32.toNat >>> 16 ≤ 65535 := by
    rw [Nat.shiftRight_eq_div_pow]
    have := x.toUInt32.toNat_lt
    omega
  rw [na_tn (by omega), e]
  omega
/-- a division by a number above 0 keeps the order -/
theorem na_tdiv {a b c : Int} (hc : 0 < c) (h : a ≤ b) : a.tdiv c ≤ b.tdiv c := Int.tdiv_le_tdiv hc h
theorem na_div {x y : Int32} (hy : 0 < y.toInt) : (x / y).toInt = x.toInt.tdiv y.toInt := by
  have h1 := na_rng x
  have h3 : -2147483648 ≤ x.toInt.tdiv y.toInt := by
    rcases Int.le_total 0 x.toInt with q | q
    · have := Int.tdiv_nonneg q (Int.le_of_lt hy)
      omega
    · have e : x.toInt.tdiv y.toInt = -((-x.toInt).tdiv y.toInt) := by rw [Int.neg_tdiv, Int.neg_neg]
      have := Int.tdiv_le_self (a := -x.toInt) y.toInt (by omega)
      omega
  have h4 : x.toInt.tdiv y.toInt ≤ 2147483647 := by
    rcases Int.le_total 0 x.toInt with q | q
    · have := Int.tdiv_le_self (a := x.toInt) y.toInt q
      omega
    · have e : x.toInt.tdiv y.toInt = -((-x.toInt).tdiv y.toInt) := by rw [Int.neg_tdiv, Int.neg_neg]
      have := Int.tdiv_nonneg (a := -x.toInt) (b := y.toInt) (by omega) (Int.le_of_lt hy)
      omega
  rw [Int32.toInt_div, na_bmod h3 h4]
