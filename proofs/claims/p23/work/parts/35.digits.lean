/-! ===== rows as numbers of sixteen ===== -/
/-- digit of sixteen -/
def th_nb (r : Int64) (i : Nat) : Nat := r.toBitVec.toNat / 16 ^ i % 16
def th_L (a : Nat) : Int64 := Int64.ofNat a
theorem th_Lnat {a : Nat} (h : a < 16 ^ 16) : (th_L a).toBitVec.toNat = a := by
  unfold th_L
  rw [Int64.toBitVec_ofNat', BitVec.toNat_ofNat]
  exact Nat.mod_eq_of_lt h
theorem th_Lext {x y : Int64} (h : x.toBitVec.toNat = y.toBitVec.toNat) : x = y := Int64.toBitVec_inj.mp (BitVec.eq_of_toNat_eq h)
theorem th_sh4 : ∀ i : Nat, i < 16 → ((4 * nI i).toInt64 &&& 63) = Int64.ofNat (4 * i) := by decide +kernel
theorem th_sh4u : ∀ i : Nat, i < 16 → ((4 * nI i).toInt64.toUInt64 &&& Int64.toUInt64 63) = UInt64.ofNat (4 * i) := by decide +kernel
theorem th_i2l : ∀ y : Nat, y < 16 → (nI y).toInt64 = Int64.ofNat y := by decide +kernel
theorem th_smod : ∀ i : Nat, i < 16 → ((Int64.ofNat (4 * i)).toBitVec.smod 64).toNat = 4 * i := by decide +kernel
theorem th_umod : ∀ i : Nat, i < 16 → ((UInt64.ofNat (4 * i)).toBitVec % 64).toNat = 4 * i := by decide +kernel
theorem th_16 (i : Nat) : (16 : Nat) ^ i = 2 ^ (4 * i) := by rw [Nat.pow_mul]
theorem th_app {a i y : Nat} (ha : a < 16 ^ i) (hi : i < 16) (hy : y < 16) : th_L a ||| ((nI y).toInt64 <<< ((4 * nI i).toInt64 &&& 63)) = th_L (a + y * 16 ^ i) := by
  have h16 : (16 : Nat) ^ i * 16 ≤ 16 ^ 16 := by rw [← Nat.pow_succ]; exact Nat.pow_le_pow_right (by decide) hi
  have hb : a + y * 16 ^ i < 16 ^ 16 := by
    have h1 : y * 16 ^ i ≤ 15 * 16 ^ i := Nat.mul_le_mul_right _ (by omega)
    omega
  have hpos : 0 < 16 ^ i := Nat.pow_pos (by decide)
  have ha2 : a < 16 ^ 16 := by omega
  have hy2 : y * 16 ^ i < 16 ^ 16 := by omega
  apply th_Lext
  rw [th_Lnat hb, Int64.toBitVec_or, BitVec.toNat_or, th_Lnat ha2, th_sh4 i hi, th_i2l y hy]
  have e : (Int64.ofNat y <<< Int64.ofNat (4 * i)).toBitVec.toNat = y * 16 ^ i := by
    rw [Int64.toBitVec_shiftLeft, BitVec.shiftLeft_eq', BitVec.toNat_shiftLeft, th_smod i hi, Int64.toBitVec_ofNat', BitVec.toNat_ofNat, Nat.shiftLeft_eq, Nat.mod_eq_of_lt (a := y) (by omega), ← th_16]
    exact Nat.mod_eq_of_lt hy2
  rw [e, th_16, Nat.or_comm, ← Nat.shiftLeft_eq, ← Nat.shiftLeft_add_eq_or_of_lt (by rw [← th_16]; exact ha), Nat.add_comm]
theorem th_nbL {a i y : Nat} (ha : a < 16 ^ i) (hy : y < 16) (j : Nat) : (a + y * 16 ^ i) / 16 ^ j % 16 = if j = i then y else a / 16 ^ j % 16 := by
  have hpos : ∀ k : Nat, 0 < 16 ^ k := fun k => Nat.pow_pos (by decide)
  by_cases h1 : j = i
  · subst h1
    rw [if_pos rfl, Nat.add_mul_div_right _ _ (hpos j), Nat.div_eq_of_lt ha, Nat.zero_add, Nat.mod_eq_of_lt hy]
  · rw [if_neg h1]
    by_cases h2 : j < i
    · obtain ⟨d, rfl⟩ : ∃ d, i = j + (d + 1) := ⟨i - j - 1, by omega⟩
      rw [show y * 16 ^ (j + (d + 1)) = (y * 16 ^ d * 16) * 16 ^ j by rw [Nat.pow_add, Nat.pow_succ]; rw [Nat.mul_comm (16 ^ j), Nat.mul_assoc, Nat.mul_assoc, Nat.mul_assoc], Nat.add_mul_div_right _ _ (hpos j), Nat.add_mul_mod_self_right]
    · have h3 : 16 ^ (i + 1) ≤ 16 ^ j := Nat.pow_le_pow_right (by decide) (by omega)
      have h4 : 16 ^ i ≤ 16 ^ j := Nat.pow_le_pow_right (by decide) (by omega)
      have h5 : y * 16 ^ i ≤ 15 * 16 ^ i := Nat.mul_le_mul_right _ (by omega)
      rw [Nat.pow_succ] at h3
      have h7 := hpos i
      rw [Nat.div_eq_of_lt (by omega), Nat.div_eq_of_lt (by omega)]
theorem th_appl {a i y : Nat} (ha : a < 16 ^ i) (hy : y < 16) : a + y * 16 ^ i < 16 ^ (i + 1) := by
  have h1 : y * 16 ^ i ≤ 15 * 16 ^ i := Nat.mul_le_mul_right _ (by omega)
  rw [Nat.pow_succ]
  omega
theorem th_note {r : Int64} {i : Nat} (hi : i < 16) : (((r.toUInt64 >>> ((4 * nI i).toInt64.toUInt64 &&& Int64.toUInt64 63)).toInt64).toInt32 &&& 15) = nI (th_nb r i) := by
  rw [th_sh4u i hi]
  have hlt : th_nb r i < 16 := Nat.mod_lt _ (by decide)
  apply Int32.toBitVec_inj.mp
  apply BitVec.eq_of_toNat_eq
  have e1 : (r.toUInt64 >>> UInt64.ofNat (4 * i)).toInt64.toBitVec.toNat = r.toBitVec.toNat / 16 ^ i := by
    show (r.toUInt64 >>> UInt64.ofNat (4 * i)).toBitVec.toNat = _
    rw [UInt64.toBitVec_shiftRight, BitVec.ushiftRight_eq', BitVec.toNat_ushiftRight, th_umod i hi, Nat.shiftRight_eq_div_pow, ← th_16]
    rfl
  rw [Int32.toBitVec_and, BitVec.toNat_and]
  have e2 : (15 : Int32).toBitVec.toNat = 2 ^ 4 - 1 := by decide
  rw [e2, Nat.and_two_pow_sub_one_eq_mod, Int64.toBitVec_toInt32, BitVec.signExtend_eq_setWidth_of_le _ (by decide), BitVec.toNat_setWidth, e1]
  have e3 : (nI (th_nb r i)).toBitVec.toNat = th_nb r i := by
    unfold nI
    rw [Int32.toBitVec_ofNat', BitVec.toNat_ofNat]
    exact Nat.mod_eq_of_lt (by omega)
  rw [e3]
  unfold th_nb
  rw [Nat.mod_mod_of_dvd _ (by decide)]
def th_dg (B : Nat) (r : Int64) : Prop := ∀ j : Nat, th_nb r j < B
theorem th_dg0 {B : Nat} (h : 0 < B) : th_dg B 0 := fun j => by
  show (0 : Nat) / 16 ^ j % 16 < B
  rw [Nat.zero_div]
  exact h
theorem th_Lnb {a : Nat} (h : a < 16 ^ 16) (j : Nat) : th_nb (th_L a) j = a / 16 ^ j % 16 := by
  unfold th_nb
  rw [th_Lnat h]
/-- so many digits, each below B -/
def th_di (B k a : Nat) : Prop := a < 16 ^ k ∧ ∀ j : Nat, a / 16 ^ j % 16 < B
theorem th_di0 {B : Nat} (h : 0 < B) : th_di B 0 0 := ⟨by decide, fun j => by rw [Nat.zero_div]; exact h⟩
theorem th_di1 {B k a y : Nat} (h : th_di B k a) (hy : y < B) (hB : B ≤ 16) : th_di B (k + 1) (a + y * 16 ^ k) := by
  refine ⟨th_appl h.1 (by omega), fun j => ?_⟩
  rw [th_nbL h.1 (by omega) j]
  split
  · exact hy
  · exact h.2 j
theorem th_di_dg {B C k a : Nat} (h : th_di B k a) (hk : k ≤ 16) (hBC : B ≤ C) : th_dg C (th_L a) := fun j => by
  rw [th_Lnb (Nat.lt_of_lt_of_le h.1 (Nat.pow_le_pow_right (by decide) hk))]
  exact Nat.lt_of_lt_of_le (h.2 j) hBC
theorem th_L0 : th_L 0 = 0 := rfl
/-- the notes from f on, k of them -/
def th_or (r : Int64) (f : Nat) : Nat → Nat
  | 0 => 0
  | k + 1 => th_or r f k ||| 2 ^ th_nb r (f + k)
theorem th_or_lt {r : Int64} {f B : Nat} : ∀ {k : Nat}, (∀ i : Nat, i < k → th_nb r (f + i) < B) → th_or r f k < 2 ^ B
  | 0, _ => Nat.two_pow_pos B
  | k + 1, h => Nat.or_lt_two_pow (th_or_lt (fun i hi => h i (by omega))) (Nat.pow_lt_pow_right (by decide) (h k (by omega)))
theorem th_nb16 (r : Int64) (i : Nat) : th_nb r i < 16 := Nat.mod_lt _ (by decide)
theorem th_or_bit {r : Int64} {f : Nat} : ∀ {k i : Nat}, i < k → (th_or r f k).testBit (th_nb r (f + i)) = true
  | 0, i, h => by omega
  | k + 1, i, h => by
    show (th_or r f k ||| 2 ^ th_nb r (f + k)).testBit _ = true
    rw [Nat.testBit_or]
    by_cases e : i = k
    · subst e
      rw [Nat.testBit_two_pow_self, Bool.or_true]
    · rw [th_or_bit (k := k) (by omega), Bool.true_or]
theorem th_or_full {r : Int64} {n : Nat} (h : th_or r 0 n = 2 ^ n - 1) {i : Nat} (hi : i < n) : th_nb r i < n := by
  have h1 := th_or_bit (r := r) (f := 0) hi
  rw [h, Nat.zero_add, Nat.testBit_two_pow_sub_one] at h1
  exact of_decide_eq_true h1
theorem th_1sh : ∀ w : Nat, w < 16 → ((1 : Int32) <<< (nI w &&& 31)).toBitVec.toNat = 2 ^ w := by decide +kernel
theorem th_nIor {m w : Nat} (hm : m < 2 ^ 16) (hw : w < 16) : (nI m ||| (1 <<< (nI w &&& 31))) = nI (m ||| 2 ^ w) := by
  apply Int32.toBitVec_inj.mp
  apply BitVec.eq_of_toNat_eq
  have h2 : m ||| 2 ^ w < 2 ^ 16 := Nat.or_lt_two_pow hm (Nat.pow_lt_pow_right (by decide) hw)
  have e : ∀ x : Nat, x < 2 ^ 16 → (nI x).toBitVec.toNat = x := fun x hx => by
    unfold nI
    rw [Int32.toBitVec_ofNat', BitVec.toNat_ofNat]
    exact Nat.mod_eq_of_lt (by omega)
  rw [Int32.toBitVec_or, BitVec.toNat_or, th_1sh w hw, e m hm, e _ h2]
theorem th_msk : ∀ n : Nat, n < 16 → ((1 : Int64) <<< ((4 * nI n).toInt64 &&& 63) - 1).toBitVec.toNat = 2 ^ (4 * n) - 1 := by decide +kernel
theorem th_mnat {r : Int64} {n : Nat} (hn : n < 16) : (r &&& ((1 : Int64) <<< ((4 * nI n).toInt64 &&& 63) - 1)).toBitVec.toNat = r.toBitVec.toNat % 16 ^ n := by
  rw [Int64.toBitVec_and, BitVec.toNat_and, th_msk n hn, Nat.and_two_pow_sub_one_eq_mod, th_16]
theorem th_mnb {r : Int64} {n j : Nat} (hn : n < 16) (hj : n ≤ j) : th_nb (r &&& ((1 : Int64) <<< ((4 * nI n).toInt64 &&& 63) - 1)) j = 0 := by
  unfold th_nb
  rw [th_mnat hn, Nat.div_eq_of_lt (Nat.lt_of_lt_of_le (Nat.mod_lt _ (Nat.pow_pos (by decide))) (Nat.pow_le_pow_right (by decide) hj))]
theorem th_all1 : ∀ n : Nat, n ≤ 12 → ((1 : Int32) <<< (nI n &&& 31)) - 1 = nI (2 ^ n - 1) := by decide +kernel
