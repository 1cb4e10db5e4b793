/-! ===== the intervals of the operations are right ===== -/
theorem tv_bl_ok {n : Int} {m : Nat} (hm : (m : Int) ≤ n) : m < 2 ^ tv_bl n := by
  unfold tv_bl
  have h1 : m ≤ n.toNat := by omega
  cases hn : n.toNat with
  | zero => simp only; omega
  | succ j =>
    simp only
    have h2 := Nat.lt_log2_self (n := j + 1)
    omega
theorem tv_pow_mono {a b : Nat} (h : a ≤ b) : (2 : Nat) ^ a ≤ 2 ^ b := Nat.pow_le_pow_right (by decide) h
theorem tv_sr_ok {X Y : Int × Int} {x : Int32} {k : Nat} {y : Int32} (hk : k = y.toBitVec.toNat % 32) (hx0 : 0 ≤ X.1) (h1 : X.1 ≤ x.toInt) (h2 : x.toInt ≤ X.2) (h3 : Y.1 ≤ y.toInt) (h4 : y.toInt ≤ Y.2) : (tv_sr X Y).1 ≤ x.toInt / ((2 ^ k : Nat) : Int) ∧ x.toInt / ((2 ^ k : Nat) : Int) ≤ (tv_sr X Y).2 := by
  have hp : (0 : Int) < ((2 ^ k : Nat) : Int) := by have := Nat.two_pow_pos k; omega
  unfold tv_sr
  cases hb : (tv_le 0 Y.1 && tv_le Y.2 31) with
  | false =>
    simp only [cond_false]
    refine ⟨Int.ediv_nonneg (by omega) (by omega), ?_⟩
    have := Int.ediv_le_self ((2 ^ k : Nat) : Int) (show 0 ≤ x.toInt by omega)
    omega
  | true =>
    simp only [cond_true]
    rw [Bool.and_eq_true, tv_le_iff, tv_le_iff] at hb
    have hy := tn_nn (x := y) (by omega)
    have hk2 : (k : Int) = y.toInt := by rw [hk, Nat.mod_eq_of_lt (by omega)]; omega
    have p1 : ((2 : Int) ^ Y.2.toNat) = ((2 ^ Y.2.toNat : Nat) : Int) := by simp
    have p2 : ((2 : Int) ^ Y.1.toNat) = ((2 ^ Y.1.toNat : Nat) : Int) := by simp
    rw [p1, p2]
    have q1 : 2 ^ k ≤ 2 ^ Y.2.toNat := tv_pow_mono (by omega)
    have q2 : 2 ^ Y.1.toNat ≤ 2 ^ k := tv_pow_mono (by omega)
    have r1 := Nat.two_pow_pos Y.1.toNat
    have r2 := Nat.two_pow_pos Y.2.toNat
    constructor
    · have s1 : X.1 / ((2 ^ Y.2.toNat : Nat) : Int) ≤ X.1 / ((2 ^ k : Nat) : Int) := by
        rw [Int.le_ediv_iff_mul_le hp]
        have t1 : 0 ≤ X.1 / ((2 ^ Y.2.toNat : Nat) : Int) := Int.ediv_nonneg hx0 (by omega)
        have t2 := Int.mul_le_mul_of_nonneg_left (show ((2 ^ k : Nat) : Int) ≤ ((2 ^ Y.2.toNat : Nat) : Int) by omega) t1
        have t3 := Int.ediv_mul_le X.1 (show ((2 ^ Y.2.toNat : Nat) : Int) ≠ 0 by omega)
        omega
      have s2 := Int.ediv_le_ediv hp h1
      omega
    · have s1 : X.2 / ((2 ^ k : Nat) : Int) ≤ X.2 / ((2 ^ Y.1.toNat : Nat) : Int) := by
        rw [Int.le_ediv_iff_mul_le (by omega)]
        have t1 : 0 ≤ X.2 / ((2 ^ k : Nat) : Int) := Int.ediv_nonneg (by omega) (by omega)
        have t2 := Int.mul_le_mul_of_nonneg_left (show ((2 ^ Y.1.toNat : Nat) : Int) ≤ ((2 ^ k : Nat) : Int) by omega) t1
        have t3 := Int.ediv_mul_le X.2 (show ((2 ^ k : Nat) : Int) ≠ 0 by omega)
        omega
      have s2 := Int.ediv_le_ediv hp h2
      omega
theorem tv_any_ok (x : Int32) : tv_any.1 ≤ x.toInt ∧ x.toInt ≤ tv_any.2 := tn_rng x
theorem tv_bi_ok (o : Nat) {X Y : Int × Int} {x y : Int32} (h1 : X.1 ≤ x.toInt) (h2 : x.toInt ≤ X.2) (h3 : Y.1 ≤ y.toInt) (h4 : y.toInt ≤ Y.2) (hl : tv_lo ≤ (tv_bi o X Y).1) (hh : (tv_bi o X Y).2 ≤ tv_hi) : (tv_bi o X Y).1 ≤ (tm_ib o x y).toInt ∧ (tm_ib o x y).toInt ≤ (tv_bi o X Y).2 := by
  have c1 : tv_lo = -2147483648 := rfl
  have c2 : tv_hi = 2147483647 := rfl
  match o with
  | 0 =>
    simp only [tv_bi, tm_ib] at hl hh ⊢
    rw [tn_add (by omega) (by omega)]
    omega
  | 1 =>
    simp only [tv_bi, tm_ib] at hl hh ⊢
    rw [tn_sub (by omega) (by omega)]
    omega
  | 2 =>
    simp only [tv_bi, tm_ib, tv_mn_eq, tv_mx_eq] at hl hh ⊢
    have e := tn_prod h1 h2 h3 h4
    rw [tn_mul (by omega) (by omega)]
    exact e
  | 3 =>
    simp only [tv_bi, tm_ib] at hl hh ⊢
    have ha := tn_and x y
    have l1 := Nat.and_le_left (n := x.toBitVec.toNat) (m := y.toBitVec.toNat)
    have l2 := Nat.and_le_right (n := x.toBitVec.toNat) (m := y.toBitVec.toNat)
    cases hb : tv_le 0 X.1 with
    | true =>
      have g := tn_nn (x := x) (by have := (tv_le_iff _ _).mp hb; omega)
      have e := tn_of (x := x &&& y) (by omega)
      simp only [cond_true]
      cases hc : tv_le 0 Y.1 with
      | true =>
        have g2 := tn_nn (x := y) (by have := (tv_le_iff _ _).mp hc; omega)
        simp only [cond_true, tv_mn_eq]
        omega
      | false => simp only [cond_false]; omega
    | false =>
      simp only [cond_false]
      cases hc : tv_le 0 Y.1 with
      | true =>
        have g2 := tn_nn (x := y) (by have := (tv_le_iff _ _).mp hc; omega)
        have e := tn_of (x := x &&& y) (by omega)
        simp only [cond_true]
        omega
      | false => simp only [cond_false]; exact tv_any_ok _
  | 4 =>
    simp only [tv_bi, tm_ib] at hl hh ⊢
    cases hb : (tv_le 0 X.1 && tv_le 0 Y.1) with
    | false => simp only [cond_false]; exact tv_any_ok _
    | true =>
      simp only [hb, cond_true] at hh ⊢
      rw [Bool.and_eq_true, tv_le_iff, tv_le_iff] at hb
      have g1 := tn_nn (x := x) (by omega)
      have g2 := tn_nn (x := y) (by omega)
      have ha := tn_or x y
      have b1 := Nat.lt_of_lt_of_le (tv_bl_ok (n := X.2) (m := x.toBitVec.toNat) (by omega)) (tv_pow_mono (Nat.le_max_left (tv_bl X.2) (tv_bl Y.2)))
      have b2 := Nat.lt_of_lt_of_le (tv_bl_ok (n := Y.2) (m := y.toBitVec.toNat) (by omega)) (tv_pow_mono (Nat.le_max_right (tv_bl X.2) (tv_bl Y.2)))
      have b3 := Nat.or_lt_two_pow b1 b2
      have b4 : 2 ^ 31 > 0 := by decide
      have b5 := Nat.or_lt_two_pow (n := 31) (show x.toBitVec.toNat < 2 ^ 31 by omega) (show y.toBitVec.toNat < 2 ^ 31 by omega)
      have e := tn_of (x := x ||| y) (by omega)
      have l1 := Nat.left_le_or (n := x.toBitVec.toNat) (m := y.toBitVec.toNat)
      have l2 := Nat.right_le_or (n := x.toBitVec.toNat) (m := y.toBitVec.toNat)
      have p : ((2 : Int) ^ Nat.max (tv_bl X.2) (tv_bl Y.2)) = ((2 ^ Nat.max (tv_bl X.2) (tv_bl Y.2) : Nat) : Int) := by simp
      rw [p, tv_mx_eq]
      have b6 : x.toBitVec.toNat ||| y.toBitVec.toNat < 2 ^ Nat.max (tv_bl X.2) (tv_bl Y.2) := b3
      omega
  | 5 =>
    simp only [tv_bi, tm_ib] at hl hh ⊢
    cases hb : (tv_le 0 X.1 && tv_le 0 Y.1) with
    | false => simp only [cond_false]; exact tv_any_ok _
    | true =>
      simp only [hb, cond_true] at hh ⊢
      rw [Bool.and_eq_true, tv_le_iff, tv_le_iff] at hb
      have g1 := tn_nn (x := x) (by omega)
      have g2 := tn_nn (x := y) (by omega)
      have ha := tn_xor x y
      have b1 := Nat.lt_of_lt_of_le (tv_bl_ok (n := X.2) (m := x.toBitVec.toNat) (by omega)) (tv_pow_mono (Nat.le_max_left (tv_bl X.2) (tv_bl Y.2)))
      have b2 := Nat.lt_of_lt_of_le (tv_bl_ok (n := Y.2) (m := y.toBitVec.toNat) (by omega)) (tv_pow_mono (Nat.le_max_right (tv_bl X.2) (tv_bl Y.2)))
      have b3 := Nat.xor_lt_two_pow b1 b2
      have b5 := Nat.xor_lt_two_pow (n := 31) (show x.toBitVec.toNat < 2 ^ 31 by omega) (show y.toBitVec.toNat < 2 ^ 31 by omega)
      have e := tn_of (x := x ^^^ y) (by omega)
      have p : ((2 : Int) ^ Nat.max (tv_bl X.2) (tv_bl Y.2)) = ((2 ^ Nat.max (tv_bl X.2) (tv_bl Y.2) : Nat) : Int) := by simp
      rw [p]
      have b6 : x.toBitVec.toNat ^^^ y.toBitVec.toNat < 2 ^ Nat.max (tv_bl X.2) (tv_bl Y.2) := b3
      omega
  | 6 =>
    simp only [tv_bi, tm_ib] at hl hh ⊢
    cases hb : (tv_le 0 X.1 && tv_le 0 Y.1 && tv_le Y.2 31 && tv_le (X.2 * 2 ^ Y.2.toNat) tv_hi) with
    | false => simp only [cond_false]; exact tv_any_ok _
    | true =>
      simp only [hb, cond_true] at hh ⊢
      simp only [Bool.and_eq_true, tv_le_iff] at hb
      obtain ⟨⟨⟨b1, b2⟩, b3⟩, b4⟩ := hb
      have g1 := tn_nn (x := x) (by omega)
      have g2 := tn_nn (x := y) (by omega)
      have hs := tn_shl x y
      rw [Nat.mod_eq_of_lt (show y.toBitVec.toNat < 32 by omega)] at hs
      have p1 : ((2 : Int) ^ Y.2.toNat) = ((2 ^ Y.2.toNat : Nat) : Int) := by simp
      have p2 : ((2 : Int) ^ Y.1.toNat) = ((2 ^ Y.1.toNat : Nat) : Int) := by simp
      rw [p1] at b4 hh ⊢
      rw [p2]
      have q1 : 2 ^ y.toBitVec.toNat ≤ 2 ^ Y.2.toNat := tv_pow_mono (by omega)
      have q2 : 2 ^ Y.1.toNat ≤ 2 ^ y.toBitVec.toNat := tv_pow_mono (by omega)
      have m1 : x.toBitVec.toNat * 2 ^ y.toBitVec.toNat ≤ X.2.toNat * 2 ^ Y.2.toNat := Nat.mul_le_mul (by omega) q1
      have m2 : X.1.toNat * 2 ^ Y.1.toNat ≤ x.toBitVec.toNat * 2 ^ y.toBitVec.toNat := Nat.mul_le_mul (by omega) q2
      have m3 : X.2 * ((2 ^ Y.2.toNat : Nat) : Int) = ((X.2.toNat * 2 ^ Y.2.toNat : Nat) : Int) := by
        rw [Int.natCast_mul, Int.toNat_of_nonneg (by omega)]
      have m4 : X.1 * ((2 ^ Y.1.toNat : Nat) : Int) = ((X.1.toNat * 2 ^ Y.1.toNat : Nat) : Int) := by
        rw [Int.natCast_mul, Int.toNat_of_nonneg (by omega)]
      rw [m3] at b4 ⊢
      rw [m4]
      rw [Nat.mod_eq_of_lt (by omega)] at hs
      have e := tn_of (x := x <<< (y &&& 31)) (by omega)
      omega
  | 7 =>
    simp only [tv_bi, tm_ib] at hl hh ⊢
    cases hb : tv_le 0 X.1 with
    | false => simp only [cond_false]; exact tv_any_ok _
    | true =>
      simp only [cond_true]
      rw [tn_shr]
      exact tv_sr_ok rfl ((tv_le_iff _ _).mp hb) h1 h2 h3 h4
  | k + 8 =>
    simp only [tv_bi, tm_ib] at hl hh ⊢
    have hs := tn_ushr x y
    cases hb : tv_le 0 X.1 with
    | true =>
      simp only [cond_true]
      have b0 := (tv_le_iff _ _).mp hb
      have g1 := tn_nn (x := x) (by omega)
      have e := tv_sr_ok (k := y.toBitVec.toNat % 32) rfl b0 h1 h2 h3 h4
      have d1 := Nat.div_le_self x.toBitVec.toNat (2 ^ (y.toBitVec.toNat % 32))
      have e2 := tn_of (x := (x.toUInt32 >>> (y.toUInt32 &&& Int32.toUInt32 31)).toInt32) (by omega)
      rw [e2, hs, Int.natCast_ediv, ← g1.1]
      exact e
    | false =>
      simp only [cond_false]
      cases hc : (tv_le 1 Y.1 && tv_le Y.2 31) with
      | false => simp only [cond_false]; exact tv_any_ok _
      | true =>
        simp only [cond_true]
        rw [Bool.and_eq_true, tv_le_iff, tv_le_iff] at hc
        have g2 := tn_nn (x := y) (by omega)
        rw [Nat.mod_eq_of_lt (show y.toBitVec.toNat < 32 by omega)] at hs
        have q1 : 2 ^ Y.1.toNat ≤ 2 ^ y.toBitVec.toNat := tv_pow_mono (by omega)
        have q3 : 2 ^ (32 - Y.1.toNat) * 2 ^ Y.1.toNat = 4294967296 := by
          rw [← Nat.pow_add, show 32 - Y.1.toNat + Y.1.toNat = 32 by omega]
        have d1 : x.toBitVec.toNat / 2 ^ y.toBitVec.toNat < 2 ^ (32 - Y.1.toNat) := by
          rw [Nat.div_lt_iff_lt_mul (Nat.two_pow_pos _)]
          have t1 := tn_lt x
          have t2 := Nat.mul_le_mul_left (2 ^ (32 - Y.1.toNat)) q1
          omega
        have q4 : 2 ^ (32 - Y.1.toNat) ≤ 2 ^ 31 := tv_pow_mono (by omega)
        have e2 := tn_of (x := (x.toUInt32 >>> (y.toUInt32 &&& Int32.toUInt32 31)).toInt32) (by omega)
        have p : ((2 : Int) ^ (32 - Y.1.toNat)) = ((2 ^ (32 - Y.1.toNat) : Nat) : Int) := by simp
        rw [e2, hs, p]
        omega
theorem tv_nw_ok {r : Int × Int} {x : Int32} (h : tv_lo ≤ r.1 → r.2 ≤ tv_hi → r.1 ≤ x.toInt ∧ x.toInt ≤ r.2) : (tv_nw r).1 ≤ x.toInt ∧ x.toInt ≤ (tv_nw r).2 := by
  unfold tv_nw
  cases hb : (tv_le tv_lo r.1 && tv_le r.2 tv_hi) with
  | false => exact tn_rng x
  | true =>
    rw [Bool.and_eq_true, tv_le_iff, tv_le_iff] at hb
    exact h hb.1 hb.2
theorem tv_div_ok {X Y : Int × Int} {x y : Int32} (h1 : X.1 ≤ x.toInt) (h2 : x.toInt ≤ X.2) (h3 : Y.1 ≤ y.toInt) (h4 : y.toInt ≤ Y.2) (hy : 1 ≤ Y.1) : (cond (tv_le 0 X.1) (X.1 / Y.2, X.2 / Y.1) (tv_mn X.1 0, tv_mx X.2 0)).1 ≤ (x / y).toInt ∧ (x / y).toInt ≤ (cond (tv_le 0 X.1) (X.1 / Y.2, X.2 / Y.1) (tv_mn X.1 0, tv_mx X.2 0)).2 := by
  have hne : y ≠ -1 := by
    intro e
    rw [e] at h3
    have : (-1 : Int32).toInt = -1 := by decide
    omega
  rw [Int32.toInt_div_of_ne_right x y hne]
  have hp : 0 < y.toInt := by omega
  cases hb : tv_le 0 X.1 with
  | true =>
    have b0 := (tv_le_iff _ _).mp hb
    simp only [cond_true]
    rw [Int.tdiv_eq_ediv_of_nonneg (by omega)]
    constructor
    · have s1 : X.1 / Y.2 ≤ X.1 / y.toInt := by
        rw [Int.le_ediv_iff_mul_le hp]
        have t1 : 0 ≤ X.1 / Y.2 := Int.ediv_nonneg b0 (by omega)
        have t2 := Int.mul_le_mul_of_nonneg_left h4 t1
        have t3 := Int.ediv_mul_le X.1 (show Y.2 ≠ 0 by omega)
        omega
      have s2 := Int.ediv_le_ediv hp h1
      omega
    · have s1 : X.2 / y.toInt ≤ X.2 / Y.1 := by
        rw [Int.le_ediv_iff_mul_le (by omega)]
        have t1 : 0 ≤ X.2 / y.toInt := Int.ediv_nonneg (by omega) (by omega)
        have t2 := Int.mul_le_mul_of_nonneg_left h3 t1
        have t3 := Int.ediv_mul_le X.2 (show y.toInt ≠ 0 by omega)
        omega
      have s2 := Int.ediv_le_ediv hp h2
      omega
  | false =>
    simp only [cond_false, tv_mn_eq, tv_mx_eq]
    rcases Int.le_total 0 x.toInt with hx | hx
    · rw [Int.tdiv_eq_ediv_of_nonneg hx]
      have t1 := Int.ediv_nonneg hx (show 0 ≤ y.toInt by omega)
      have t2 := Int.ediv_le_self y.toInt hx
      omega
    · have e : x.toInt.tdiv y.toInt = -((-x.toInt) / y.toInt) := by
        rw [← Int.tdiv_eq_ediv_of_nonneg (show 0 ≤ -x.toInt by omega), Int.neg_tdiv, Int.neg_neg]
      rw [e]
      have t1 := Int.ediv_nonneg (show 0 ≤ -x.toInt by omega) (show 0 ≤ y.toInt by omega)
      have t2 := Int.ediv_le_self y.toInt (show 0 ≤ -x.toInt by omega)
      omega
theorem tv_rem_ok {X Y : Int × Int} {x y : Int32} (h1 : X.1 ≤ x.toInt) (h2 : x.toInt ≤ X.2) (h3 : Y.1 ≤ y.toInt) (h4 : y.toInt ≤ Y.2) (hy : 1 ≤ Y.1) : (cond (tv_le 0 X.1) (0, tv_mn X.2 (Y.2 - 1)) (1 - Y.2, Y.2 - 1)).1 ≤ (x - x / y * y).toInt ∧ (x - x / y * y).toInt ≤ (cond (tv_le 0 X.1) (0, tv_mn X.2 (Y.2 - 1)) (1 - Y.2, Y.2 - 1)).2 := by
  have hne : y ≠ -1 := by
    intro e
    rw [e] at h3
    have : (-1 : Int32).toInt = -1 := by decide
    omega
  have hp : 0 < y.toInt := by omega
  have rx := tn_rng x
  have ry := tn_rng y
  have hd := Int32.toInt_div_of_ne_right x y hne
  have hm : x.toInt.tmod y.toInt + y.toInt * x.toInt.tdiv y.toInt = x.toInt := by first | exact Int.tmod_add_mul_tdiv _ _ | (have := Int.mul_tdiv_add_tmod x.toInt y.toInt; omega) | (have := Int.tdiv_add_tmod x.toInt y.toInt; omega)
  have l1 := Int.tmod_lt_of_pos x.toInt hp
  have l2 : -y.toInt < x.toInt.tmod y.toInt := by
    rcases Int.le_total 0 x.toInt with hx | hx
    · have := Int.tmod_nonneg y.toInt hx
      omega
    · have t1 := Int.tmod_lt_of_pos (-x.toInt) hp
      rw [Int.neg_tmod] at t1
      omega
  have l3 : 0 ≤ x.toInt → 0 ≤ x.toInt.tmod y.toInt ∧ x.toInt.tmod y.toInt ≤ x.toInt := fun hx => by
    refine ⟨Int.tmod_nonneg y.toInt hx, ?_⟩
    have t1 : 0 ≤ y.toInt * x.toInt.tdiv y.toInt := Int.mul_nonneg (by omega) (Int.tdiv_nonneg hx (by omega))
    omega
  have l4 : x.toInt ≤ 0 → x.toInt.tmod y.toInt ≤ 0 ∧ x.toInt ≤ x.toInt.tmod y.toInt := fun hx => by
    have t1 := Int.tmod_nonneg y.toInt (show 0 ≤ -x.toInt by omega)
    rw [Int.neg_tmod] at t1
    have t2 : 0 ≤ y.toInt * (-x.toInt).tdiv y.toInt := Int.mul_nonneg (by omega) (Int.tdiv_nonneg (by omega) (by omega))
    rw [Int.neg_tdiv, Int.mul_neg] at t2
    omega
  have l5 : (x / y * y).toInt = x.toInt.tdiv y.toInt * y.toInt := by
    rw [tn_mul, hd]
    · rw [hd, Int.mul_comm]
      rcases Int.le_total 0 x.toInt with hx | hx
      · have := l3 hx; omega
      · have := l4 hx; omega
    · rw [hd, Int.mul_comm]
      rcases Int.le_total 0 x.toInt with hx | hx
      · have := l3 hx; omega
      · have := l4 hx; omega
  have l6 : (x - x / y * y).toInt = x.toInt.tmod y.toInt := by
    rw [tn_sub, l5, Int.mul_comm]
    · omega
    · rw [l5, Int.mul_comm]; omega
    · rw [l5, Int.mul_comm]; omega
  rw [l6]
  cases hb : tv_le 0 X.1 with
  | true =>
    have b0 := (tv_le_iff _ _).mp hb
    have := l3 (by omega)
    simp only [cond_true, tv_mn_eq]
    omega
  | false => simp only [cond_false]; omega
