/-! ===== ints: signs, ranges, bits ===== -/
theorem tn_cond (x : Int32) : x.toInt = if 2 * x.toBitVec.toNat < 2 ^ 32 then (x.toBitVec.toNat : Int) else (x.toBitVec.toNat : Int) - ((2 ^ 32 : Nat) : Int) := BitVec.toInt_eq_toNat_cond x.toBitVec
theorem tn_lt (x : Int32) : x.toBitVec.toNat < 4294967296 := x.toBitVec.isLt
theorem tn_rng (x : Int32) : -2147483648 ≤ x.toInt ∧ x.toInt ≤ 2147483647 := by
  have h1 := x.le_toInt
  have h2 := x.toInt_lt
  omega
theorem tn_nn {x : Int32} (h : 0 ≤ x.toInt) : x.toInt = (x.toBitVec.toNat : Int) ∧ x.toBitVec.toNat < 2147483648 := by
  have h1 := tn_cond x
  have h2 := tn_lt x
  split at h1 <;> omega
theorem tn_of {x : Int32} (h : x.toBitVec.toNat < 2147483648) : x.toInt = (x.toBitVec.toNat : Int) := by
  have h1 := tn_cond x
  split at h1 <;> omega
theorem tn_bmod {m : Int} (h1 : -2147483648 ≤ m) (h2 : m ≤ 2147483647) : m.bmod (2 ^ 32) = m := by
  apply Int.bmod_eq_of_le
  · exact h1
  · show m < 2147483648
    omega
theorem tn_add {x y : Int32} (h1 : -2147483648 ≤ x.toInt + y.toInt) (h2 : x.toInt + y.toInt ≤ 2147483647) : (x + y).toInt = x.toInt + y.toInt := by rw [Int32.toInt_add, tn_bmod h1 h2]
theorem tn_sub {x y : Int32} (h1 : -2147483648 ≤ x.toInt - y.toInt) (h2 : x.toInt - y.toInt ≤ 2147483647) : (x - y).toInt = x.toInt - y.toInt := by rw [Int32.toInt_sub, tn_bmod h1 h2]
theorem tn_mul {x y : Int32} (h1 : -2147483648 ≤ x.toInt * y.toInt) (h2 : x.toInt * y.toInt ≤ 2147483647) : (x * y).toInt = x.toInt * y.toInt := by rw [Int32.toInt_mul, tn_bmod h1 h2]
theorem tn_neg {x : Int32} (h1 : -2147483648 ≤ -x.toInt) (h2 : -x.toInt ≤ 2147483647) : (-x).toInt = -x.toInt := by rw [Int32.toInt_neg, tn_bmod h1 h2]
theorem tn_ofInt {z : Int} (h1 : -2147483648 ≤ z) (h2 : z ≤ 2147483647) : (Int32.ofInt z).toInt = z := Int32.toInt_ofInt_of_le h1 (by show z < 2147483648; omega)
theorem tn_ofNat {n : Nat} (h : n ≤ 2147483647) : (Int32.ofNat n).toInt = (n : Int) := Int32.toInt_ofNat_of_lt (by show n < 2147483648; omega)
theorem tn_in {x : Int32} {n : Nat} (h1 : 0 ≤ x.toInt) (h2 : x.toInt < (n : Int)) : vp_in x n := vp_in_iff.mpr ⟨h1, h2⟩
theorem tn_cl {x : Int32} (h : 0 ≤ x.toInt) : (x.toNatClampNeg : Int) = x.toInt := by
  show ((x.toInt.toNat : Nat) : Int) = x.toInt
  omega
/-- a product lies between those of the ends -/
theorem tn_prod1 {a b x y : Int} (h1 : a ≤ x) (h2 : x ≤ b) : min (a * y) (b * y) ≤ x * y ∧ x * y ≤ max (a * y) (b * y) := by
  rcases Int.le_total 0 y with hy | hy
  · have e1 := Int.mul_le_mul_of_nonneg_right h1 hy
    have e2 := Int.mul_le_mul_of_nonneg_right h2 hy
    omega
  · have e1 := Int.mul_le_mul_of_nonpos_right h1 hy
    have e2 := Int.mul_le_mul_of_nonpos_right h2 hy
    omega
theorem tn_prod {a b c d x y : Int} (h1 : a ≤ x) (h2 : x ≤ b) (h3 : c ≤ y) (h4 : y ≤ d) : min (min (a * c) (a * d)) (min (b * c) (b * d)) ≤ x * y ∧ x * y ≤ max (max (a * c) (a * d)) (max (b * c) (b * d)) := by
  have e1 := tn_prod1 (y := y) h1 h2
  have e2 := tn_prod1 (y := a) h3 h4
  have e3 := tn_prod1 (y := b) h3 h4
  rw [Int.mul_comm c a, Int.mul_comm d a, Int.mul_comm y a] at e2
  rw [Int.mul_comm c b, Int.mul_comm d b, Int.mul_comm y b] at e3
  omega
/-! shifts -/
theorem tn_k32 : ∀ j : Nat, j < 32 → ((nI j).toBitVec.smod 32).toNat = j := by decide +kernel
theorem tn_ksh (y : Int32) : ((y &&& 31).toBitVec.smod 32).toNat = y.toBitVec.toNat % 32 := by
  rw [pk_and y (m := 31) 5 (by decide)]
  exact tn_k32 _ (Nat.mod_lt _ (by decide))
theorem tn_kush (y : Int32) : ((y.toUInt32 &&& Int32.toUInt32 31).toBitVec % 32).toNat = y.toBitVec.toNat % 32 := by
  have e : (y.toUInt32 &&& Int32.toUInt32 31).toBitVec = y.toBitVec &&& 31#32 := rfl
  rw [e, BitVec.toNat_umod, BitVec.toNat_and]
  show (y.toBitVec.toNat &&& (2 ^ 5 - 1)) % 32 = _
  rw [Nat.and_two_pow_sub_one_eq_mod, show (2 : Nat) ^ 5 = 32 from rfl, Nat.mod_mod]
theorem tn_shl (x y : Int32) : (x <<< (y &&& 31)).toBitVec.toNat = x.toBitVec.toNat * 2 ^ (y.toBitVec.toNat % 32) % 4294967296 := pk_shl x _ _ (tn_ksh y)
theorem tn_shr (x y : Int32) : (x >>> (y &&& 31)).toInt = x.toInt / ((2 ^ (y.toBitVec.toNat % 32) : Nat) : Int) := by
  rw [pk_shr x _ _ (tn_ksh y), Int.shiftRight_eq_div_pow]
theorem tn_ushr (x y : Int32) : (x.toUInt32 >>> (y.toUInt32 &&& Int32.toUInt32 31)).toInt32.toBitVec.toNat = x.toBitVec.toNat / 2 ^ (y.toBitVec.toNat % 32) := pk_ushr x y _ (tn_kush y)
theorem tn_and (x y : Int32) : (x &&& y).toBitVec.toNat = x.toBitVec.toNat &&& y.toBitVec.toNat := by rw [Int32.toBitVec_and, BitVec.toNat_and]
theorem tn_or (x y : Int32) : (x ||| y).toBitVec.toNat = x.toBitVec.toNat ||| y.toBitVec.toNat := by rw [Int32.toBitVec_or, BitVec.toNat_or]
theorem tn_xor (x y : Int32) : (x ^^^ y).toBitVec.toNat = x.toBitVec.toNat ^^^ y.toBitVec.toNat := by rw [Int32.toBitVec_xor, BitVec.toNat_xor]
