/-! ===== rounds: bits of 24 ===== -/
theorem tw_as {x y m k : Nat} (hx : x < 2 ^ 8) (hm : m < 2 ^ 8) : (2 ^ 8 * y + x) &&& (2 ^ 8 * k + m) = 2 ^ 8 * (y &&& k) + (x &&& m) := by
  apply Nat.eq_of_testBit_eq
  intro i
  rw [Nat.testBit_and, Nat.testBit_two_pow_mul_add _ hx, Nat.testBit_two_pow_mul_add _ hm, Nat.testBit_two_pow_mul_add _ (Nat.and_lt_two_pow _ hm)]
  by_cases h : i < 8
  · rw [if_pos h, if_pos h, if_pos h, Nat.testBit_and]
  · rw [if_neg h, if_neg h, if_neg h, Nat.testBit_and]
/-- what bitCount does to one byte -/
def tw_l0 (a : Nat) : Nat := a - ((a / 2) &&& 85)
def tw_l1 (a : Nat) : Nat := (a &&& 51) + ((a / 4) &&& 51)
def tw_l2 (a : Nat) : Nat := (a + a / 16) &&& 15
theorem tw_k0 : (List.range 256).all (fun a => (List.range 2).all (fun r => Nat.beq ((a / 2 + 128 * r) &&& 85) ((a / 2) &&& 85) && Nat.beq ((a / 2) &&& 21845) ((a / 2) &&& 85) && Nat.ble (tw_l0 a) 170 && Nat.ble ((a / 2) &&& 85) a)) = true := by decide +kernel
theorem tw_k1 : (List.range 256).all (fun a => (List.range 4).all (fun r => Nat.beq ((a / 4 + 64 * r) &&& 51) ((a / 4) &&& 51) && Nat.beq ((a / 4) &&& 13107) ((a / 4) &&& 51) && Nat.beq (a &&& 13107) (a &&& 51) && Nat.ble (tw_l1 (tw_l0 a)) 68 && Nat.ble ((a &&& 51) + ((a / 4) &&& 51)) 102 && Nat.ble (tw_l1 (tw_l0 a) % 16) 4)) = true := by decide +kernel
theorem tw_k2 : (List.range 69).all (fun a => (List.range 5).all (fun r => Nat.beq ((a + a / 16 + 16 * r) &&& 15) (tw_l2 a) && Nat.beq ((a + a / 16) &&& 3855) (tw_l2 a))) = true := by decide +kernel
theorem tw_k3 : (List.range 256).all (fun a => Nat.beq (tw_l2 (tw_l1 (tw_l0 a))) (th_po a 8) && Nat.ble (th_po a 8) 8) = true := by decide +kernel
theorem tw_k0o {a r : Nat} (ha : a < 256) (hr : r < 2) : (a / 2 + 128 * r) &&& 85 = (a / 2) &&& 85 ∧ (a / 2) &&& 21845 = (a / 2) &&& 85 ∧ tw_l0 a ≤ 170 ∧ (a / 2) &&& 85 ≤ a := by
  have h := List.all_eq_true.mp (List.all_eq_true.mp tw_k0 a (List.mem_range.mpr ha)) r (List.mem_range.mpr hr)
  rw [Bool.and_eq_true, Bool.and_eq_true, Bool.and_eq_true] at h
  exact ⟨Nat.eq_of_beq_eq_true h.1.1.1, Nat.eq_of_beq_eq_true h.1.1.2, Nat.le_of_ble_eq_true h.1.2, Nat.le_of_ble_eq_true h.2⟩
theorem tw_k1o {a r : Nat} (ha : a < 256) (hr : r < 4) : (a / 4 + 64 * r) &&& 51 = (a / 4) &&& 51 ∧ (a / 4) &&& 13107 = (a / 4) &&& 51 ∧ a &&& 13107 = a &&& 51 ∧ tw_l1 (tw_l0 a) ≤ 68 ∧ (a &&& 51) + ((a / 4) &&& 51) ≤ 102 ∧ tw_l1 (tw_l0 a) % 16 ≤ 4 := by
  have h := List.all_eq_true.mp (List.all_eq_true.mp tw_k1 a (List.mem_range.mpr ha)) r (List.mem_range.mpr hr)
  rw [Bool.and_eq_true, Bool.and_eq_true, Bool.and_eq_true, Bool.and_eq_true, Bool.and_eq_true] at h
  exact ⟨Nat.eq_of_beq_eq_true h.1.1.1.1.1, Nat.eq_of_beq_eq_true h.1.1.1.1.2, Nat.eq_of_beq_eq_true h.1.1.1.2, Nat.le_of_ble_eq_true h.1.1.2, Nat.le_of_ble_eq_true h.1.2, Nat.le_of_ble_eq_true h.2⟩
theorem tw_k2o {a r : Nat} (ha : a < 69) (hr : r < 5) : (a + a / 16 + 16 * r) &&& 15 = tw_l2 a ∧ (a + a / 16) &&& 3855 = tw_l2 a := by
  have h := List.all_eq_true.mp (List.all_eq_true.mp tw_k2 a (List.mem_range.mpr ha)) r (List.mem_range.mpr hr)
  rw [Bool.and_eq_true] at h
  exact ⟨Nat.eq_of_beq_eq_true h.1, Nat.eq_of_beq_eq_true h.2⟩
theorem tw_k3o {a : Nat} (ha : a < 256) : tw_l2 (tw_l1 (tw_l0 a)) = th_po a 8 ∧ th_po a 8 ≤ 8 := by
  have h := List.all_eq_true.mp tw_k3 a (List.mem_range.mpr ha)
  rw [Bool.and_eq_true] at h
  exact ⟨Nat.eq_of_beq_eq_true h.1, Nat.le_of_ble_eq_true h.2⟩
/-- the steps on numbers -/
def tw_b0 (X : Nat) : Nat := X - ((X / 2) &&& 1431655765)
def tw_b1 (X : Nat) : Nat := (X &&& 858993459) + ((X / 4) &&& 858993459)
def tw_b2 (X : Nat) : Nat := (X + X / 16) &&& 252645135
theorem tw_e0 {a b c : Nat} (ha : a < 256) (hb : b < 256) (hc : c < 256) : tw_b0 (2 ^ 8 * (2 ^ 8 * c + b) + a) = 2 ^ 8 * (2 ^ 8 * tw_l0 c + tw_l0 b) + tw_l0 a := by
  have a1 := tw_k0o (r := (2 ^ 8 * c + b) % 2) ha (by omega)
  have b1 := tw_k0o (r := c % 2) hb (by omega)
  have c1 := tw_k0o (r := 0) hc (by decide)
  have h : (2 ^ 8 * (2 ^ 8 * c + b) + a) / 2 = 2 ^ 8 * (2 ^ 8 * (c / 2) + (b / 2 + 128 * (c % 2))) + (a / 2 + 128 * ((2 ^ 8 * c + b) % 2)) := by omega
  unfold tw_b0 tw_l0
  rw [h, show (1431655765 : Nat) = 2 ^ 8 * (2 ^ 8 * 21845 + 85) + 85 from rfl, tw_as (by omega) (by decide), tw_as (by omega) (by decide), a1.1, b1.1, c1.2.1]
  omega
theorem tw_e1 {a b c : Nat} (ha : a < 256) (hb : b < 256) (hc : c < 256) : tw_b1 (2 ^ 8 * (2 ^ 8 * c + b) + a) = 2 ^ 8 * (2 ^ 8 * tw_l1 c + tw_l1 b) + tw_l1 a := by
  have a1 := tw_k1o (r := (2 ^ 8 * c + b) % 4) ha (by omega)
  have b1 := tw_k1o (r := c % 4) hb (by omega)
  have c1 := tw_k1o (r := 0) hc (by decide)
  have h : (2 ^ 8 * (2 ^ 8 * c + b) + a) / 4 = 2 ^ 8 * (2 ^ 8 * (c / 4) + (b / 4 + 64 * (c % 4))) + (a / 4 + 64 * ((2 ^ 8 * c + b) % 4)) := by omega
  unfold tw_b1 tw_l1
  rw [h, show (858993459 : Nat) = 2 ^ 8 * (2 ^ 8 * 13107 + 51) + 51 from rfl, tw_as (by omega) (by decide), tw_as (by omega) (by decide), tw_as (by omega) (by decide), tw_as (by omega) (by decide), a1.1, b1.1, c1.2.1, c1.2.2.1]
  omega
theorem tw_e2 {a b c : Nat} (ha : a ≤ 68) (hb : b ≤ 68) (hc : c ≤ 68) (hb4 : b % 16 ≤ 4) (hc4 : c % 16 ≤ 4) : tw_b2 (2 ^ 8 * (2 ^ 8 * c + b) + a) = 2 ^ 8 * (2 ^ 8 * tw_l2 c + tw_l2 b) + tw_l2 a := by
  have a1 := tw_k2o (a := a) (r := b % 16) (by omega) (by omega)
  have b1 := tw_k2o (a := b) (r := c % 16) (by omega) (by omega)
  have c1 := tw_k2o (a := c) (r := 0) (by omega) (by decide)
  have h : 2 ^ 8 * (2 ^ 8 * c + b) + a + (2 ^ 8 * (2 ^ 8 * c + b) + a) / 16 = 2 ^ 8 * (2 ^ 8 * (c + c / 16) + (b + b / 16 + 16 * (c % 16))) + (a + a / 16 + 16 * (b % 16)) := by omega
  unfold tw_b2
  rw [h, show (252645135 : Nat) = 2 ^ 8 * (2 ^ 8 * 3855 + 15) + 15 from rfl, tw_as (by omega) (by decide), tw_as (by omega) (by decide), a1.1, b1.1, c1.2]
theorem tw_ush {X k : Nat} (hX : X < 2 ^ 31) (hk : k < 32) : ((nI X).toUInt32 >>> ((nI k : Int32).toUInt32 &&& Int32.toUInt32 31)).toInt32 = nI (X / 2 ^ k) := by
  have hd : X / 2 ^ k ≤ X := Nat.div_le_self _ _
  refine th_iof ?_ (by omega)
  rw [tn_ushr, th_nn hX, th_nn (by omega), Nat.mod_eq_of_lt hk]
theorem tw_and {a c : Nat} (ha : a < 2 ^ 31) (hc : c < 2 ^ 31) : nI a &&& nI c = nI (a &&& c) := by
  have hl : a &&& c ≤ a := Nat.and_le_left
  refine th_iof ?_ (by omega)
  rw [tn_and, th_nn ha, th_nn hc]
theorem tw_po3 {a b c : Nat} (ha : a < 256) (hb : b < 256) (hc : c < 256) : th_po (2 ^ 8 * (2 ^ 8 * c + b) + a) 24 = th_po a 8 + (th_po b 8 + th_po c 8) := by
  have h1 := th_sm_sh (f := (2 ^ 8 * (2 ^ 8 * c + b) + a).testBit) (a := 8) (n := 16)
  have h2 := th_sm_sh (f := (2 ^ 8 * c + b).testBit) (a := 8) (n := 8)
  have e1 : th_sm (2 ^ 8 * (2 ^ 8 * c + b) + a).testBit 8 = th_sm a.testBit 8 := th_sm_eq (fun i hi => by rw [Nat.testBit_two_pow_mul_add _ ha, if_pos hi])
  have e2 : th_sm (fun i => (2 ^ 8 * (2 ^ 8 * c + b) + a).testBit (8 + i)) 16 = th_sm (2 ^ 8 * c + b).testBit 16 := th_sm_eq (fun i hi => by rw [Nat.testBit_two_pow_mul_add _ ha, if_neg (by omega), show 8 + i - 8 = i by omega])
  have e3 : th_sm (2 ^ 8 * c + b).testBit 8 = th_sm b.testBit 8 := th_sm_eq (fun i hi => by rw [Nat.testBit_two_pow_mul_add _ hb, if_pos hi])
  have e4 : th_sm (fun i => (2 ^ 8 * c + b).testBit (8 + i)) 8 = th_sm c.testBit 8 := th_sm_eq (fun i hi => by rw [Nat.testBit_two_pow_mul_add _ hb, if_neg (by omega), show 8 + i - 8 = i by omega])
  unfold th_po
  rw [show (24 : Nat) = 8 + 16 from rfl, h1, e1, e2, show (16 : Nat) = 8 + 8 from rfl, h2, e3, e4]
/-- bitCount of 24 bits -/
theorem tw_bc {S : Nat} (hS : S < 2 ^ 24) : th_bit (nI S) = nI (th_po S 24) := by
  obtain ⟨a, b, c, ha, hb, hc, rfl⟩ : ∃ a b c : Nat, a < 256 ∧ b < 256 ∧ c < 256 ∧ S = 2 ^ 8 * (2 ^ 8 * c + b) + a := ⟨S % 256, S / 256 % 256, S / 65536, by omega, by omega, by omega, by omega⟩
  have a0 := tw_k0o (r := 0) ha (by decide)
  have b0 := tw_k0o (r := 0) hb (by decide)
  have c0 := tw_k0o (r := 0) hc (by decide)
  have a1 := tw_k1o (r := 0) ha (by decide)
  have b1 := tw_k1o (r := 0) hb (by decide)
  have c1 := tw_k1o (r := 0) hc (by decide)
  have a3 := tw_k3o ha
  have b3 := tw_k3o hb
  have c3 := tw_k3o hc
  have e0 := tw_e0 ha hb hc
  have e1 := tw_e1 (a := tw_l0 a) (b := tw_l0 b) (c := tw_l0 c) (by omega) (by omega) (by omega)
  have e2 := tw_e2 a1.2.2.2.1 b1.2.2.2.1 c1.2.2.2.1 b1.2.2.2.2.2 c1.2.2.2.2.2
  rw [a3.1, b3.1, c3.1] at e2
  have s0 : th_b0 (nI (2 ^ 8 * (2 ^ 8 * c + b) + a)) = nI (2 ^ 8 * (2 ^ 8 * tw_l0 c + tw_l0 b) + tw_l0 a) := by
    rw [← e0]
    unfold th_b0 tw_b0
    rw [show (1 : Int32) = nI 1 from rfl, tw_ush (by omega) (by decide), show (1431655765 : Int32) = nI 1431655765 from rfl, tw_and (by omega) (by decide), th_subN (Nat.le_trans Nat.and_le_left (by omega)) (by omega)]
  have s1 : th_b1 (nI (2 ^ 8 * (2 ^ 8 * tw_l0 c + tw_l0 b) + tw_l0 a)) = nI (2 ^ 8 * (2 ^ 8 * tw_l1 (tw_l0 c) + tw_l1 (tw_l0 b)) + tw_l1 (tw_l0 a)) := by
    rw [← e1]
    unfold th_b1 tw_b1
    rw [show (2 : Int32) = nI 2 from rfl, tw_ush (by omega) (by decide), show (858993459 : Int32) = nI 858993459 from rfl, tw_and (by omega) (by decide), tw_and (by omega) (by decide), nI_add]
  have s2 : th_b2 (nI (2 ^ 8 * (2 ^ 8 * tw_l1 (tw_l0 c) + tw_l1 (tw_l0 b)) + tw_l1 (tw_l0 a))) = nI (2 ^ 8 * (2 ^ 8 * th_po c 8 + th_po b 8) + th_po a 8) := by
    rw [← e2]
    unfold th_b2 tw_b2
    rw [show (4 : Int32) = nI 4 from rfl, tw_ush (by omega) (by decide), nI_add, show (252645135 : Int32) = nI 252645135 from rfl, tw_and (by omega) (by decide)]
  have s3 : th_b3 (nI (2 ^ 8 * (2 ^ 8 * th_po c 8 + th_po b 8) + th_po a 8)) = nI (2 ^ 16 * th_po c 8 + 2 ^ 8 * (th_po b 8 + th_po c 8) + (th_po a 8 + th_po b 8)) := by
    unfold th_b3
    rw [show (8 : Int32) = nI 8 from rfl, tw_ush (by omega) (by decide), nI_add]
    congr 1
    omega
  have s4 : th_b4 (nI (2 ^ 16 * th_po c 8 + 2 ^ 8 * (th_po b 8 + th_po c 8) + (th_po a 8 + th_po b 8))) = nI (2 ^ 16 * th_po c 8 + 2 ^ 8 * (th_po b 8 + th_po c 8) + (th_po a 8 + (th_po b 8 + th_po c 8))) := by
    unfold th_b4
    rw [show (16 : Int32) = nI 16 from rfl, tw_ush (by omega) (by decide), nI_add]
    congr 1
    omega
  unfold th_bit
  rw [s0, s1, s2, s3, s4, tw_po3 ha hb hc, show (63 : Int32) = nI 63 from rfl, tw_and (by omega) (by decide), show (63 : Nat) = 2 ^ 6 - 1 from rfl, Nat.and_two_pow_sub_one_eq_mod]
  congr 1
  omega
/-- the least bit of a number -/
theorem tw_lb {X L : Nat} (h0 : X.testBit L = true) (hl : ∀ i : Nat, i < L → X.testBit i = false) (i : Nat) : (X - 1).testBit i = (decide (i < L) || (X.testBit i && decide (¬ i = L))) := by
  have e : X % 2 ^ (L + 1) = 2 ^ L := by
    apply Nat.eq_of_testBit_eq
    intro k
    rw [Nat.testBit_mod_two_pow, Nat.testBit_two_pow]
    by_cases c : k = L
    · subst c
      rw [h0]
      simp
    · by_cases c2 : k < L
      · rw [hl k c2]
        simp [show ¬ L = k from fun q => c q.symm]
      · simp [show ¬ k < L + 1 by omega, show ¬ L = k from fun q => c q.symm]
  have hp : 0 < 2 ^ L := Nat.two_pow_pos L
  have e2 : X - 1 = 2 ^ (L + 1) * (X / 2 ^ (L + 1)) + (2 ^ L - 1) := by
    have := Nat.div_add_mod X (2 ^ (L + 1))
    omega
  have hlt : 2 ^ L - 1 < 2 ^ (L + 1) := by
    rw [Nat.pow_succ]
    omega
  rw [e2, Nat.testBit_two_pow_mul_add _ hlt]
  by_cases c : i < L + 1
  · rw [if_pos c, Nat.testBit_two_pow_sub_one]
    by_cases c2 : i < L
    · simp [c2]
    · have c3 : i = L := by omega
      simp [c3]
  · rw [if_neg c, Nat.testBit_div_two_pow, show i - (L + 1) + (L + 1) = i by omega]
    simp [show ¬ i < L by omega, show ¬ i = L by omega]
theorem tw_z {x : Int32} {X L : Nat} (hX : x.toBitVec.toNat = X) (h0 : X.testBit L = true) (hl : ∀ i : Nat, i < L → X.testBit i = false) (hL : L < 31) : (x ^^^ (-1)) &&& (x - 1) = nI (2 ^ L - 1) := by
  have hX32 : X < 2 ^ 32 := by rw [← hX]; exact x.toBitVec.isLt
  have hpos : 0 < X := by
    rcases Nat.eq_zero_or_pos X with e | e
    · rw [e, Nat.zero_testBit] at h0
      cases h0
    · exact e
  have h31 : 2 ^ L ≤ 2 ^ 30 := Nat.pow_le_pow_right (by decide) (by omega)
  have e1 : (x - 1).toBitVec.toNat = X - 1 := by
    rw [Int32.toBitVec_sub, BitVec.toNat_sub, hX, show (1 : Int32).toBitVec.toNat = 1 from rfl]
    omega
  refine th_iof ?_ (by omega)
  rw [tn_and, tn_xor, hX, e1, show (-1 : Int32).toBitVec.toNat = 2 ^ 32 - 1 from rfl]
  apply Nat.eq_of_testBit_eq
  intro i
  rw [Nat.testBit_and, Nat.testBit_xor, tw_lb h0 hl, Nat.testBit_two_pow_sub_one, Nat.testBit_two_pow_sub_one]
  by_cases c : i < L
  · rw [hl i c]
    simp [c, show i < 32 by omega]
  · by_cases c2 : i < 32
    · simp only [c, c2, decide_false, decide_true, Bool.false_or, Bool.xor_true]
      cases X.testBit i <;> simp
    · rw [Nat.testBit_lt_two_pow (Nat.lt_of_lt_of_le hX32 (Nat.pow_le_pow_right (by decide) (by omega)))]
      simp [c]
set_option maxRecDepth 100000 in
set_option maxHeartbeats 4000000 in
theorem tw_ntz {d X L : Nat} {x : Int32} {σ : tm_S} (hX : x.toBitVec.toNat = X) (h0 : X.testBit L = true) (hl : ∀ i : Nat, i < L → X.testBit i = false) (hL : L < 24) : WM d 39 [.int x] σ (th_is (.int (nI L)) σ) := by
  have k7 : ∀ (L : Nat) (v : Int32), L < 24 → WP d 39 7 [(0, .int v)] [.int (nI (2 ^ L - 1))] σ (th_is (.int (nI L)) σ) := by
    intro L v hL
    match L, hL with
    | 0, _ =>
      refine wq_sti [(0, .int (nI (2 ^ 0 - 1)))] rfl rfl ?_
      refine wp_ldi rfl tm_m0 ?_
      refine wq_ifgt rfl (fun h9 => absurd h9 (by decide)) (fun h9 => ?_)
      refine wp_ldi rfl tm_m0 ?_
      refine wq_con (x := 32) rfl (by decide) ?_
      refine wq_iand rfl ?_
      exact wp_reti rfl (th_nI rfl) ⟨congrArg (fun x => some (Value.int x)) (by decide), rfl⟩
    | 1, _ =>
      refine wq_sti [(0, .int (nI (2 ^ 1 - 1)))] rfl rfl ?_
      refine wp_ldi rfl tm_m0 ?_
      refine wq_ifgt rfl (fun h9 => ?_) (fun h9 => absurd (by decide) h9)
      refine wq_con (x := 1) rfl (by decide) ?_
      refine wq_sti [(1, .int 1), (0, .int (nI (2 ^ 1 - 1)))] rfl rfl ?_
      refine wp_ldi rfl tm_m1 ?_
      refine wq_con (x := 65536) rfl (by decide) ?_
      refine wq_icle rfl (fun h23 => ?_) (fun h23 => absurd (by decide) h23)
      refine wp_ldi rfl tm_m1 ?_
      refine wq_con (x := 256) rfl (by decide) ?_
      refine wq_icle rfl (fun h38 => ?_) (fun h38 => absurd (by decide) h38)
      refine wp_ldi rfl tm_m1 ?_
      refine wq_con (x := 16) rfl (by decide) ?_
      refine wq_icle rfl (fun h52 => ?_) (fun h52 => absurd (by decide) h52)
      refine wp_ldi rfl tm_m1 ?_
      refine wq_con (x := 4) rfl (by decide) ?_
      refine wq_icle rfl (fun h64 => ?_) (fun h64 => absurd (by decide) h64)
      refine wp_ldi rfl tm_m0 ?_
      refine wp_ldi rfl tm_m1 ?_
      refine wq_con (x := 1) rfl (by decide) ?_
      refine wq_iushr rfl ?_
      refine wq_iadd rfl ?_
      exact wp_reti rfl (th_nI rfl) ⟨congrArg (fun x => some (Value.int x)) (by decide), rfl⟩
    | 2, _ =>
      refine wq_sti [(0, .int (nI (2 ^ 2 - 1)))] rfl rfl ?_
      refine wp_ldi rfl tm_m0 ?_
      refine wq_ifgt rfl (fun h9 => ?_) (fun h9 => absurd (by decide) h9)
      refine wq_con (x := 1) rfl (by decide) ?_
      refine wq_sti [(1, .int 1), (0, .int (nI (2 ^ 2 - 1)))] rfl rfl ?_
      refine wp_ldi rfl tm_m1 ?_
      refine wq_con (x := 65536) rfl (by decide) ?_
      refine wq_icle rfl (fun h23 => ?_) (fun h23 => absurd (by decide) h23)
      refine wp_ldi rfl tm_m1 ?_
      refine wq_con (x := 256) rfl (by decide) ?_
      refine wq_icle rfl (fun h38 => ?_) (fun h38 => absurd (by decide) h38)
      refine wp_ldi rfl tm_m1 ?_
      refine wq_con (x := 16) rfl (by decide) ?_
      refine wq_icle rfl (fun h52 => ?_) (fun h52 => absurd (by decide) h52)
      refine wp_ldi rfl tm_m1 ?_
      refine wq_con (x := 4) rfl (by decide) ?_
      refine wq_icle rfl (fun h64 => ?_) (fun h64 => absurd (by decide) h64)
      refine wp_ldi rfl tm_m0 ?_
      refine wp_ldi rfl tm_m1 ?_
      refine wq_con (x := 1) rfl (by decide) ?_
      refine wq_iushr rfl ?_
      refine wq_iadd rfl ?_
      exact wp_reti rfl (th_nI rfl) ⟨congrArg (fun x => some (Value.int x)) (by decide), rfl⟩
    | 3, _ =>
      refine wq_sti [(0, .int (nI (2 ^ 3 - 1)))] rfl rfl ?_
      refine wp_ldi rfl tm_m0 ?_
      refine wq_ifgt rfl (fun h9 => ?_) (fun h9 => absurd (by decide) h9)
      refine wq_con (x := 1) rfl (by decide) ?_
      refine wq_sti [(1, .int 1), (0, .int (nI (2 ^ 3 - 1)))] rfl rfl ?_
      refine wp_ldi rfl tm_m1 ?_
      refine wq_con (x := 65536) rfl (by decide) ?_
      refine wq_icle rfl (fun h23 => ?_) (fun h23 => absurd (by decide) h23)
      refine wp_ldi rfl tm_m1 ?_
      refine wq_con (x := 256) rfl (by decide) ?_
      refine wq_icle rfl (fun h38 => ?_) (fun h38 => absurd (by decide) h38)
      refine wp_ldi rfl tm_m1 ?_
      refine wq_con (x := 16) rfl (by decide) ?_
      refine wq_icle rfl (fun h52 => ?_) (fun h52 => absurd (by decide) h52)
      refine wp_ldi rfl tm_m1 ?_
      refine wq_con (x := 4) rfl (by decide) ?_
      refine wq_icle rfl (fun h64 => absurd h64 (by decide)) (fun h64 => ?_)
      refine wq_inc (c := 2) [(1, .int (1 + 2)), (0, .int (nI (2 ^ 3 - 1)))] rfl tm_m0 rfl rfl ?_
      refine wp_ldi rfl tm_m1 ?_
      refine wq_con (x := 2) rfl (by decide) ?_
      refine wq_iushr rfl ?_
      refine wq_sti [(0, .int ((((nI (2 ^ 3 - 1)) : Int32).toUInt32 >>> ((2 : Int32).toUInt32 &&& Int32.toUInt32 31)).toInt32)), (1, .int (1 + 2))] rfl rfl ?_
      refine wp_ldi rfl tm_m1 ?_
      refine wp_ldi rfl tm_m0 ?_
      refine wq_con (x := 1) rfl (by decide) ?_
      refine wq_iushr rfl ?_
      refine wq_iadd rfl ?_
      exact wp_reti rfl (th_nI rfl) ⟨congrArg (fun x => some (Value.int x)) (by decide), rfl⟩
    | 4, _ =>
      refine wq_sti [(0, .int (nI (2 ^ 4 - 1)))] rfl rfl ?_
      refine wp_ldi rfl tm_m0 ?_
      refine wq_ifgt rfl (fun h9 => ?_) (fun h9 => absurd (by decide) h9)
      refine wq_con (x := 1) rfl (by decide) ?_
      refine wq_sti [(1, .int 1), (0, .int (nI (2 ^ 4 - 1)))] rfl rfl ?_
      refine wp_ldi rfl tm_m1 ?_
      refine wq_con (x := 65536) rfl (by decide) ?_
      refine wq_icle rfl (fun h23 => ?_) (fun h23 => absurd (by decide) h23)
      refine wp_ldi rfl tm_m1 ?_
      refine wq_con (x := 256) rfl (by decide) ?_
      refine wq_icle rfl (fun h38 => ?_) (fun h38 => absurd (by decide) h38)
      refine wp_ldi rfl tm_m1 ?_
      refine wq_con (x := 16) rfl (by decide) ?_
      refine wq_icle rfl (fun h52 => ?_) (fun h52 => absurd (by decide) h52)
      refine wp_ldi rfl tm_m1 ?_
      refine wq_con (x := 4) rfl (by decide) ?_
      refine wq_icle rfl (fun h64 => absurd h64 (by decide)) (fun h64 => ?_)
      refine wq_inc (c := 2) [(1, .int (1 + 2)), (0, .int (nI (2 ^ 4 - 1)))] rfl tm_m0 rfl rfl ?_
      refine wp_ldi rfl tm_m1 ?_
      refine wq_con (x := 2) rfl (by decide) ?_
      refine wq_iushr rfl ?_
      refine wq_sti [(0, .int ((((nI (2 ^ 4 - 1)) : Int32).toUInt32 >>> ((2 : Int32).toUInt32 &&& Int32.toUInt32 31)).toInt32)), (1, .int (1 + 2))] rfl rfl ?_
      refine wp_ldi rfl tm_m1 ?_
      refine wp_ldi rfl tm_m0 ?_
      refine wq_con (x := 1) rfl (by decide) ?_
      refine wq_iushr rfl ?_
      refine wq_iadd rfl ?_
      exact wp_reti rfl (th_nI rfl) ⟨congrArg (fun x => some (Value.int x)) (by decide), rfl⟩
    | 5, _ =>
      refine wq_sti [(0, .int (nI (2 ^ 5 - 1)))] rfl rfl ?_
      refine wp_ldi rfl tm_m0 ?_
      refine wq_ifgt rfl (fun h9 => ?_) (fun h9 => absurd (by decide) h9)
      refine wq_con (x := 1) rfl (by decide) ?_
      refine wq_sti [(1, .int 1), (0, .int (nI (2 ^ 5 - 1)))] rfl rfl ?_
      refine wp_ldi rfl tm_m1 ?_
      refine wq_con (x := 65536) rfl (by decide) ?_
      refine wq_icle rfl (fun h23 => ?_) (fun h23 => absurd (by decide) h23)
      refine wp_ldi rfl tm_m1 ?_
      refine wq_con (x := 256) rfl (by decide) ?_
      refine wq_icle rfl (fun h38 => ?_) (fun h38 => absurd (by decide) h38)
      refine wp_ldi rfl tm_m1 ?_
      refine wq_con (x := 16) rfl (by decide) ?_
      refine wq_icle rfl (fun h52 => absurd h52 (by decide)) (fun h52 => ?_)
      refine wq_inc (c := 4) [(1, .int (1 + 4)), (0, .int (nI (2 ^ 5 - 1)))] rfl tm_m0 rfl rfl ?_
      refine wp_ldi rfl tm_m1 ?_
      refine wq_con (x := 4) rfl (by decide) ?_
      refine wq_iushr rfl ?_
      refine wq_sti [(0, .int ((((nI (2 ^ 5 - 1)) : Int32).toUInt32 >>> ((4 : Int32).toUInt32 &&& Int32.toUInt32 31)).toInt32)), (1, .int (1 + 4))] rfl rfl ?_
      refine wp_ldi rfl tm_m0 ?_
      refine wq_con (x := 4) rfl (by decide) ?_
      refine wq_icle rfl (fun h64 => ?_) (fun h64 => absurd (by decide) h64)
      refine wp_ldi rfl tm_m1 ?_
      refine wp_ldi rfl tm_m0 ?_
      refine wq_con (x := 1) rfl (by decide) ?_
      refine wq_iushr rfl ?_
      refine wq_iadd rfl ?_
      exact wp_reti rfl (th_nI rfl) ⟨congrArg (fun x => some (Value.int x)) (by decide), rfl⟩
    | 6, _ =>
      refine wq_sti [(0, .int (nI (2 ^ 6 - 1)))] rfl rfl ?_
      refine wp_ldi rfl tm_m0 ?_
      refine wq_ifgt rfl (fun h9 => ?_) (fun h9 => absurd (by decide) h9)
      refine wq_con (x := 1) rfl (by decide) ?_
      refine wq_sti [(1, .int 1), (0, .int (nI (2 ^ 6 - 1)))] rfl rfl ?_
      refine wp_ldi rfl tm_m1 ?_
      refine wq_con (x := 65536) rfl (by decide) ?_
      refine wq_icle rfl (fun h23 => ?_) (fun h23 => absurd (by decide) h23)
      refine wp_ldi rfl tm_m1 ?_
      refine wq_con (x := 256) rfl (by decide) ?_
      refine wq_icle rfl (fun h38 => ?_) (fun h38 => absurd (by decide) h38)
      refine wp_ldi rfl tm_m1 ?_
      refine wq_con (x := 16) rfl (by decide) ?_
      refine wq_icle rfl (fun h52 => absurd h52 (by decide)) (fun h52 => ?_)
      refine wq_inc (c := 4) [(1, .int (1 + 4)), (0, .int (nI (2 ^ 6 - 1)))] rfl tm_m0 rfl rfl ?_
      refine wp_ldi rfl tm_m1 ?_
      refine wq_con (x := 4) rfl (by decide) ?_
      refine wq_iushr rfl ?_
      refine wq_sti [(0, .int ((((nI (2 ^ 6 - 1)) : Int32).toUInt32 >>> ((4 : Int32).toUInt32 &&& Int32.toUInt32 31)).toInt32)), (1, .int (1 + 4))] rfl rfl ?_
      refine wp_ldi rfl tm_m0 ?_
      refine wq_con (x := 4) rfl (by decide) ?_
      refine wq_icle rfl (fun h64 => ?_) (fun h64 => absurd (by decide) h64)
      refine wp_ldi rfl tm_m1 ?_
      refine wp_ldi rfl tm_m0 ?_
      refine wq_con (x := 1) rfl (by decide) ?_
      refine wq_iushr rfl ?_
      refine wq_iadd rfl ?_
      exact wp_reti rfl (th_nI rfl) ⟨congrArg (fun x => some (Value.int x)) (by decide), rfl⟩
    | 7, _ =>
      refine wq_sti [(0, .int (nI (2 ^ 7 - 1)))] rfl rfl ?_
      refine wp_ldi rfl tm_m0 ?_
      refine wq_ifgt rfl (fun h9 => ?_) (fun h9 => absurd (by decide) h9)
      refine wq_con (x := 1) rfl (by decide) ?_
      refine wq_sti [(1, .int 1), (0, .int (nI (2 ^ 7 - 1)))] rfl rfl ?_
      refine wp_ldi rfl tm_m1 ?_
      refine wq_con (x := 65536) rfl (by decide) ?_
      refine wq_icle rfl (fun h23 => ?_) (fun h23 => absurd (by decide) h23)
      refine wp_ldi rfl tm_m1 ?_
      refine wq_con (x := 256) rfl (by decide) ?_
      refine wq_icle rfl (fun h38 => ?_) (fun h38 => absurd (by decide) h38)
      refine wp_ldi rfl tm_m1 ?_
      refine wq_con (x := 16) rfl (by decide) ?_
      refine wq_icle rfl (fun h52 => absurd h52 (by decide)) (fun h52 => ?_)
      refine wq_inc (c := 4) [(1, .int (1 + 4)), (0, .int (nI (2 ^ 7 - 1)))] rfl tm_m0 rfl rfl ?_
      refine wp_ldi rfl tm_m1 ?_
      refine wq_con (x := 4) rfl (by decide) ?_
      refine wq_iushr rfl ?_
      refine wq_sti [(0, .int ((((nI (2 ^ 7 - 1)) : Int32).toUInt32 >>> ((4 : Int32).toUInt32 &&& Int32.toUInt32 31)).toInt32)), (1, .int (1 + 4))] rfl rfl ?_
      refine wp_ldi rfl tm_m0 ?_
      refine wq_con (x := 4) rfl (by decide) ?_
      refine wq_icle rfl (fun h64 => absurd h64 (by decide)) (fun h64 => ?_)
      refine wq_inc (c := 2) [(1, .int ((1 + 4) + 2)), (0, .int ((((nI (2 ^ 7 - 1)) : Int32).toUInt32 >>> ((4 : Int32).toUInt32 &&& Int32.toUInt32 31)).toInt32))] rfl tm_m1 rfl rfl ?_
      refine wp_ldi rfl tm_m1 ?_
      refine wq_con (x := 2) rfl (by decide) ?_
      refine wq_iushr rfl ?_
      refine wq_sti [(0, .int (((((((nI (2 ^ 7 - 1)) : Int32).toUInt32 >>> ((4 : Int32).toUInt32 &&& Int32.toUInt32 31)).toInt32) : Int32).toUInt32 >>> ((2 : Int32).toUInt32 &&& Int32.toUInt32 31)).toInt32)), (1, .int ((1 + 4) + 2))] rfl rfl ?_
      refine wp_ldi rfl tm_m1 ?_
      refine wp_ldi rfl tm_m0 ?_
      refine wq_con (x := 1) rfl (by decide) ?_
      refine wq_iushr rfl ?_
      refine wq_iadd rfl ?_
      exact wp_reti rfl (th_nI rfl) ⟨congrArg (fun x => some (Value.int x)) (by decide), rfl⟩
    | 8, _ =>
      refine wq_sti [(0, .int (nI (2 ^ 8 - 1)))] rfl rfl ?_
      refine wp_ldi rfl tm_m0 ?_
      refine wq_ifgt rfl (fun h9 => ?_) (fun h9 => absurd (by decide) h9)
      refine wq_con (x := 1) rfl (by decide) ?_
      refine wq_sti [(1, .int 1), (0, .int (nI (2 ^ 8 - 1)))] rfl rfl ?_
      refine wp_ldi rfl tm_m1 ?_
      refine wq_con (x := 65536) rfl (by decide) ?_
      refine wq_icle rfl (fun h23 => ?_) (fun h23 => absurd (by decide) h23)
      refine wp_ldi rfl tm_m1 ?_
      refine wq_con (x := 256) rfl (by decide) ?_
      refine wq_icle rfl (fun h38 => ?_) (fun h38 => absurd (by decide) h38)
      refine wp_ldi rfl tm_m1 ?_
      refine wq_con (x := 16) rfl (by decide) ?_
      refine wq_icle rfl (fun h52 => absurd h52 (by decide)) (fun h52 => ?_)
      refine wq_inc (c := 4) [(1, .int (1 + 4)), (0, .int (nI (2 ^ 8 - 1)))] rfl tm_m0 rfl rfl ?_
      refine wp_ldi rfl tm_m1 ?_
      refine wq_con (x := 4) rfl (by decide) ?_
      refine wq_iushr rfl ?_
      refine wq_sti [(0, .int ((((nI (2 ^ 8 - 1)) : Int32).toUInt32 >>> ((4 : Int32).toUInt32 &&& Int32.toUInt32 31)).toInt32)), (1, .int (1 + 4))] rfl rfl ?_
      refine wp_ldi rfl tm_m0 ?_
      refine wq_con (x := 4) rfl (by decide) ?_
      refine wq_icle rfl (fun h64 => absurd h64 (by decide)) (fun h64 => ?_)
      refine wq_inc (c := 2) [(1, .int ((1 + 4) + 2)), (0, .int ((((nI (2 ^ 8 - 1)) : Int32).toUInt32 >>> ((4 : Int32).toUInt32 &&& Int32.toUInt32 31)).toInt32))] rfl tm_m1 rfl rfl ?_
      refine wp_ldi rfl tm_m1 ?_
      refine wq_con (x := 2) rfl (by decide) ?_
      refine wq_iushr rfl ?_
      refine wq_sti [(0, .int (((((((nI (2 ^ 8 - 1)) : Int32).toUInt32 >>> ((4 : Int32).toUInt32 &&& Int32.toUInt32 31)).toInt32) : Int32).toUInt32 >>> ((2 : Int32).toUInt32 &&& Int32.toUInt32 31)).toInt32)), (1, .int ((1 + 4) + 2))] rfl rfl ?_
      refine wp_ldi rfl tm_m1 ?_
      refine wp_ldi rfl tm_m0 ?_
      refine wq_con (x := 1) rfl (by decide) ?_
      refine wq_iushr rfl ?_
      refine wq_iadd rfl ?_
      exact wp_reti rfl (th_nI rfl) ⟨congrArg (fun x => some (Value.int x)) (by decide), rfl⟩
    | 9, _ =>
      refine wq_sti [(0, .int (nI (2 ^ 9 - 1)))] rfl rfl ?_
      refine wp_ldi rfl tm_m0 ?_
      refine wq_ifgt rfl (fun h9 => ?_) (fun h9 => absurd (by decide) h9)
      refine wq_con (x := 1) rfl (by decide) ?_
      refine wq_sti [(1, .int 1), (0, .int (nI (2 ^ 9 - 1)))] rfl rfl ?_
      refine wp_ldi rfl tm_m1 ?_
      refine wq_con (x := 65536) rfl (by decide) ?_
      refine wq_icle rfl (fun h23 => ?_) (fun h23 => absurd (by decide) h23)
      refine wp_ldi rfl tm_m1 ?_
      refine wq_con (x := 256) rfl (by decide) ?_
      refine wq_icle rfl (fun h38 => absurd h38 (by decide)) (fun h38 => ?_)
      refine wq_inc (c := 8) [(1, .int (1 + 8)), (0, .int (nI (2 ^ 9 - 1)))] rfl tm_m0 rfl rfl ?_
      refine wp_ldi rfl tm_m1 ?_
      refine wq_con (x := 8) rfl (by decide) ?_
      refine wq_iushr rfl ?_
      refine wq_sti [(0, .int ((((nI (2 ^ 9 - 1)) : Int32).toUInt32 >>> ((8 : Int32).toUInt32 &&& Int32.toUInt32 31)).toInt32)), (1, .int (1 + 8))] rfl rfl ?_
      refine wp_ldi rfl tm_m0 ?_
      refine wq_con (x := 16) rfl (by decide) ?_
      refine wq_icle rfl (fun h52 => ?_) (fun h52 => absurd (by decide) h52)
      refine wp_ldi rfl tm_m0 ?_
      refine wq_con (x := 4) rfl (by decide) ?_
      refine wq_icle rfl (fun h64 => ?_) (fun h64 => absurd (by decide) h64)
      refine wp_ldi rfl tm_m1 ?_
      refine wp_ldi rfl tm_m0 ?_
      refine wq_con (x := 1) rfl (by decide) ?_
      refine wq_iushr rfl ?_
      refine wq_iadd rfl ?_
      exact wp_reti rfl (th_nI rfl) ⟨congrArg (fun x => some (Value.int x)) (by decide), rfl⟩
    | 10, _ =>
      refine wq_sti [(0, .int (nI (2 ^ 10 - 1)))] rfl rfl ?_
      refine wp_ldi rfl tm_m0 ?_
      refine wq_ifgt rfl (fun h9 => ?_) (fun h9 => absurd (by decide) h9)
      refine wq_con (x := 1) rfl (by decide) ?_
      refine wq_sti [(1, .int 1), (0, .int (nI (2 ^ 10 - 1)))] rfl rfl ?_
      refine wp_ldi rfl tm_m1 ?_
      refine wq_con (x := 65536) rfl (by decide) ?_
      refine wq_icle rfl (fun h23 => ?_) (fun h23 => absurd (by decide) h23)
      refine wp_ldi rfl tm_m1 ?_
      refine wq_con (x := 256) rfl (by decide) ?_
      refine wq_icle rfl (fun h38 => absurd h38 (by decide)) (fun h38 => ?_)
      refine wq_inc (c := 8) [(1, .int (1 + 8)), (0, .int (nI (2 ^ 10 - 1)))] rfl tm_m0 rfl rfl ?_
      refine wp_ldi rfl tm_m1 ?_
      refine wq_con (x := 8) rfl (by decide) ?_
      refine wq_iushr rfl ?_
      refine wq_sti [(0, .int ((((nI (2 ^ 10 - 1)) : Int32).toUInt32 >>> ((8 : Int32).toUInt32 &&& Int32.toUInt32 31)).toInt32)), (1, .int (1 + 8))] rfl rfl ?_
      refine wp_ldi rfl tm_m0 ?_
      refine wq_con (x := 16) rfl (by decide) ?_
      refine wq_icle rfl (fun h52 => ?_) (fun h52 => absurd (by decide) h52)
      refine wp_ldi rfl tm_m0 ?_
      refine wq_con (x := 4) rfl (by decide) ?_
      refine wq_icle rfl (fun h64 => ?_) (fun h64 => absurd (by decide) h64)
      refine wp_ldi rfl tm_m1 ?_
      refine wp_ldi rfl tm_m0 ?_
      refine wq_con (x := 1) rfl (by decide) ?_
      refine wq_iushr rfl ?_
      refine wq_iadd rfl ?_
      exact wp_reti rfl (th_nI rfl) ⟨congrArg (fun x => some (Value.int x)) (by decide), rfl⟩
    | 11, _ =>
      refine wq_sti [(0, .int (nI (2 ^ 11 - 1)))] rfl rfl ?_
      refine wp_ldi rfl tm_m0 ?_
      refine wq_ifgt rfl (fun h9 => ?_) (fun h9 => absurd (by decide) h9)
      refine wq_con (x := 1) rfl (by decide) ?_
      refine wq_sti [(1, .int 1), (0, .int (nI (2 ^ 11 - 1)))] rfl rfl ?_
      refine wp_ldi rfl tm_m1 ?_
      refine wq_con (x := 65536) rfl (by decide) ?_
      refine wq_icle rfl (fun h23 => ?_) (fun h23 => absurd (by decide) h23)
      refine wp_ldi rfl tm_m1 ?_
      refine wq_con (x := 256) rfl (by decide) ?_
      refine wq_icle rfl (fun h38 => absurd h38 (by decide)) (fun h38 => ?_)
      refine wq_inc (c := 8) [(1, .int (1 + 8)), (0, .int (nI (2 ^ 11 - 1)))] rfl tm_m0 rfl rfl ?_
      refine wp_ldi rfl tm_m1 ?_
      refine wq_con (x := 8) rfl (by decide) ?_
      refine wq_iushr rfl ?_
      refine wq_sti [(0, .int ((((nI (2 ^ 11 - 1)) : Int32).toUInt32 >>> ((8 : Int32).toUInt32 &&& Int32.toUInt32 31)).toInt32)), (1, .int (1 + 8))] rfl rfl ?_
      refine wp_ldi rfl tm_m0 ?_
      refine wq_con (x := 16) rfl (by decide) ?_
      refine wq_icle rfl (fun h52 => ?_) (fun h52 => absurd (by decide) h52)
      refine wp_ldi rfl tm_m0 ?_
      refine wq_con (x := 4) rfl (by decide) ?_
      refine wq_icle rfl (fun h64 => absurd h64 (by decide)) (fun h64 => ?_)
      refine wq_inc (c := 2) [(1, .int ((1 + 8) + 2)), (0, .int ((((nI (2 ^ 11 - 1)) : Int32).toUInt32 >>> ((8 : Int32).toUInt32 &&& Int32.toUInt32 31)).toInt32))] rfl tm_m1 rfl rfl ?_
      refine wp_ldi rfl tm_m1 ?_
      refine wq_con (x := 2) rfl (by decide) ?_
      refine wq_iushr rfl ?_
      refine wq_sti [(0, .int (((((((nI (2 ^ 11 - 1)) : Int32).toUInt32 >>> ((8 : Int32).toUInt32 &&& Int32.toUInt32 31)).toInt32) : Int32).toUInt32 >>> ((2 : Int32).toUInt32 &&& Int32.toUInt32 31)).toInt32)), (1, .int ((1 + 8) + 2))] rfl rfl ?_
      refine wp_ldi rfl tm_m1 ?_
      refine wp_ldi rfl tm_m0 ?_
      refine wq_con (x := 1) rfl (by decide) ?_
      refine wq_iushr rfl ?_
      refine wq_iadd rfl ?_
      exact wp_reti rfl (th_nI rfl) ⟨congrArg (fun x => some (Value.int x)) (by decide), rfl⟩
    | 12, _ =>
      refine wq_sti [(0, .int (nI (2 ^ 12 - 1)))] rfl rfl ?_
      refine wp_ldi rfl tm_m0 ?_
      refine wq_ifgt rfl (fun h9 => ?_) (fun h9 => absurd (by decide) h9)
      refine wq_con (x := 1) rfl (by decide) ?_
      refine wq_sti [(1, .int 1), (0, .int (nI (2 ^ 12 - 1)))] rfl rfl ?_
      refine wp_ldi rfl tm_m1 ?_
      refine wq_con (x := 65536) rfl (by decide) ?_
      refine wq_icle rfl (fun h23 => ?_) (fun h23 => absurd (by decide) h23)
      refine wp_ldi rfl tm_m1 ?_
      refine wq_con (x := 256) rfl (by decide) ?_
      refine wq_icle rfl (fun h38 => absurd h38 (by decide)) (fun h38 => ?_)
      refine wq_inc (c := 8) [(1, .int (1 + 8)), (0, .int (nI (2 ^ 12 - 1)))] rfl tm_m0 rfl rfl ?_
      refine wp_ldi rfl tm_m1 ?_
      refine wq_con (x := 8) rfl (by decide) ?_
      refine wq_iushr rfl ?_
      refine wq_sti [(0, .int ((((nI (2 ^ 12 - 1)) : Int32).toUInt32 >>> ((8 : Int32).toUInt32 &&& Int32.toUInt32 31)).toInt32)), (1, .int (1 + 8))] rfl rfl ?_
      refine wp_ldi rfl tm_m0 ?_
      refine wq_con (x := 16) rfl (by decide) ?_
      refine wq_icle rfl (fun h52 => ?_) (fun h52 => absurd (by decide) h52)
      refine wp_ldi rfl tm_m0 ?_
      refine wq_con (x := 4) rfl (by decide) ?_
      refine wq_icle rfl (fun h64 => absurd h64 (by decide)) (fun h64 => ?_)
      refine wq_inc (c := 2) [(1, .int ((1 + 8) + 2)), (0, .int ((((nI (2 ^ 12 - 1)) : Int32).toUInt32 >>> ((8 : Int32).toUInt32 &&& Int32.toUInt32 31)).toInt32))] rfl tm_m1 rfl rfl ?_
      refine wp_ldi rfl tm_m1 ?_
      refine wq_con (x := 2) rfl (by decide) ?_
      refine wq_iushr rfl ?_
      refine wq_sti [(0, .int (((((((nI (2 ^ 12 - 1)) : Int32).toUInt32 >>> ((8 : Int32).toUInt32 &&& Int32.toUInt32 31)).toInt32) : Int32).toUInt32 >>> ((2 : Int32).toUInt32 &&& Int32.toUInt32 31)).toInt32)), (1, .int ((1 + 8) + 2))] rfl rfl ?_
      refine wp_ldi rfl tm_m1 ?_
      refine wp_ldi rfl tm_m0 ?_
      refine wq_con (x := 1) rfl (by decide) ?_
      refine wq_iushr rfl ?_
      refine wq_iadd rfl ?_
      exact wp_reti rfl (th_nI rfl) ⟨congrArg (fun x => some (Value.int x)) (by decide), rfl⟩
    | 13, _ =>
      refine wq_sti [(0, .int (nI (2 ^ 13 - 1)))] rfl rfl ?_
      refine wp_ldi rfl tm_m0 ?_
      refine wq_ifgt rfl (fun h9 => ?_) (fun h9 => absurd (by decide) h9)
      refine wq_con (x := 1) rfl (by decide) ?_
      refine wq_sti [(1, .int 1), (0, .int (nI (2 ^ 13 - 1)))] rfl rfl ?_
      refine wp_ldi rfl tm_m1 ?_
      refine wq_con (x := 65536) rfl (by decide) ?_
      refine wq_icle rfl (fun h23 => ?_) (fun h23 => absurd (by decide) h23)
      refine wp_ldi rfl tm_m1 ?_
      refine wq_con (x := 256) rfl (by decide) ?_
      refine wq_icle rfl (fun h38 => absurd h38 (by decide)) (fun h38 => ?_)
      refine wq_inc (c := 8) [(1, .int (1 + 8)), (0, .int (nI (2 ^ 13 - 1)))] rfl tm_m0 rfl rfl ?_
      refine wp_ldi rfl tm_m1 ?_
      refine wq_con (x := 8) rfl (by decide) ?_
      refine wq_iushr rfl ?_
      refine wq_sti [(0, .int ((((nI (2 ^ 13 - 1)) : Int32).toUInt32 >>> ((8 : Int32).toUInt32 &&& Int32.toUInt32 31)).toInt32)), (1, .int (1 + 8))] rfl rfl ?_
      refine wp_ldi rfl tm_m0 ?_
      refine wq_con (x := 16) rfl (by decide) ?_
      refine wq_icle rfl (fun h52 => absurd h52 (by decide)) (fun h52 => ?_)
      refine wq_inc (c := 4) [(1, .int ((1 + 8) + 4)), (0, .int ((((nI (2 ^ 13 - 1)) : Int32).toUInt32 >>> ((8 : Int32).toUInt32 &&& Int32.toUInt32 31)).toInt32))] rfl tm_m1 rfl rfl ?_
      refine wp_ldi rfl tm_m1 ?_
      refine wq_con (x := 4) rfl (by decide) ?_
      refine wq_iushr rfl ?_
      refine wq_sti [(0, .int (((((((nI (2 ^ 13 - 1)) : Int32).toUInt32 >>> ((8 : Int32).toUInt32 &&& Int32.toUInt32 31)).toInt32) : Int32).toUInt32 >>> ((4 : Int32).toUInt32 &&& Int32.toUInt32 31)).toInt32)), (1, .int ((1 + 8) + 4))] rfl rfl ?_
      refine wp_ldi rfl tm_m0 ?_
      refine wq_con (x := 4) rfl (by decide) ?_
      refine wq_icle rfl (fun h64 => ?_) (fun h64 => absurd (by decide) h64)
      refine wp_ldi rfl tm_m1 ?_
      refine wp_ldi rfl tm_m0 ?_
      refine wq_con (x := 1) rfl (by decide) ?_
      refine wq_iushr rfl ?_
      refine wq_iadd rfl ?_
      exact wp_reti rfl (th_nI rfl) ⟨congrArg (fun x => some (Value.int x)) (by decide), rfl⟩
    | 14, _ =>
      refine wq_sti [(0, .int (nI (2 ^ 14 - 1)))] rfl rfl ?_
      refine wp_ldi rfl tm_m0 ?_
      refine wq_ifgt rfl (fun h9 => ?_) (fun h9 => absurd (by decide) h9)
      refine wq_con (x := 1) rfl (by decide) ?_
      refine wq_sti [(1, .int 1), (0, .int (nI (2 ^ 14 - 1)))] rfl rfl ?_
      refine wp_ldi rfl tm_m1 ?_
      refine wq_con (x := 65536) rfl (by decide) ?_
      refine wq_icle rfl (fun h23 => ?_) (fun h23 => absurd (by decide) h23)
      refine wp_ldi rfl tm_m1 ?_
      refine wq_con (x := 256) rfl (by decide) ?_
      refine wq_icle rfl (fun h38 => absurd h38 (by decide)) (fun h38 => ?_)
      refine wq_inc (c := 8) [(1, .int (1 + 8)), (0, .int (nI (2 ^ 14 - 1)))] rfl tm_m0 rfl rfl ?_
      refine wp_ldi rfl tm_m1 ?_
      refine wq_con (x := 8) rfl (by decide) ?_
      refine wq_iushr rfl ?_
      refine wq_sti [(0, .int ((((nI (2 ^ 14 - 1)) : Int32).toUInt32 >>> ((8 : Int32).toUInt32 &&& Int32.toUInt32 31)).toInt32)), (1, .int (1 + 8))] rfl rfl ?_
      refine wp_ldi rfl tm_m0 ?_
      refine wq_con (x := 16) rfl (by decide) ?_
      refine wq_icle rfl (fun h52 => absurd h52 (by decide)) (fun h52 => ?_)
      refine wq_inc (c := 4) [(1, .int ((1 + 8) + 4)), (0, .int ((((nI (2 ^ 14 - 1)) : Int32).toUInt32 >>> ((8 : Int32).toUInt32 &&& Int32.toUInt32 31)).toInt32))] rfl tm_m1 rfl rfl ?_
      refine wp_ldi rfl tm_m1 ?_
      refine wq_con (x := 4) rfl (by decide) ?_
      refine wq_iushr rfl ?_
      refine wq_sti [(0, .int (((((((nI (2 ^ 14 - 1)) : Int32).toUInt32 >>> ((8 : Int32).toUInt32 &&& Int32.toUInt32 31)).toInt32) : Int32).toUInt32 >>> ((4 : Int32).toUInt32 &&& Int32.toUInt32 31)).toInt32)), (1, .int ((1 + 8) + 4))] rfl rfl ?_
      refine wp_ldi rfl tm_m0 ?_
      refine wq_con (x := 4) rfl (by decide) ?_
      refine wq_icle rfl (fun h64 => ?_) (fun h64 => absurd (by decide) h64)
      refine wp_ldi rfl tm_m1 ?_
      refine wp_ldi rfl tm_m0 ?_
      refine wq_con (x := 1) rfl (by decide) ?_
      refine wq_iushr rfl ?_
      refine wq_iadd rfl ?_
      exact wp_reti rfl (th_nI rfl) ⟨congrArg (fun x => some (Value.int x)) (by decide), rfl⟩
    | 15, _ =>
      refine wq_sti [(0, .int (nI (2 ^ 15 - 1)))] rfl rfl ?_
      refine wp_ldi rfl tm_m0 ?_
      refine wq_ifgt rfl (fun h9 => ?_) (fun h9 => absurd (by decide) h9)
      refine wq_con (x := 1) rfl (by decide) ?_
      refine wq_sti [(1, .int 1), (0, .int (nI (2 ^ 15 - 1)))] rfl rfl ?_
      refine wp_ldi rfl tm_m1 ?_
      refine wq_con (x := 65536) rfl (by decide) ?_
      refine wq_icle rfl (fun h23 => ?_) (fun h23 => absurd (by decide) h23)
      refine wp_ldi rfl tm_m1 ?_
      refine wq_con (x := 256) rfl (by decide) ?_
      refine wq_icle rfl (fun h38 => absurd h38 (by decide)) (fun h38 => ?_)
      refine wq_inc (c := 8) [(1, .int (1 + 8)), (0, .int (nI (2 ^ 15 - 1)))] rfl tm_m0 rfl rfl ?_
      refine wp_ldi rfl tm_m1 ?_
      refine wq_con (x := 8) rfl (by decide) ?_
      refine wq_iushr rfl ?_
      refine wq_sti [(0, .int ((((nI (2 ^ 15 - 1)) : Int32).toUInt32 >>> ((8 : Int32).toUInt32 &&& Int32.toUInt32 31)).toInt32)), (1, .int (1 + 8))] rfl rfl ?_
      refine wp_ldi rfl tm_m0 ?_
      refine wq_con (x := 16) rfl (by decide) ?_
      refine wq_icle rfl (fun h52 => absurd h52 (by decide)) (fun h52 => ?_)
      refine wq_inc (c := 4) [(1, .int ((1 + 8) + 4)), (0, .int ((((nI (2 ^ 15 - 1)) : Int32).toUInt32 >>> ((8 : Int32).toUInt32 &&& Int32.toUInt32 31)).toInt32))] rfl tm_m1 rfl rfl ?_
      refine wp_ldi rfl tm_m1 ?_
      refine wq_con (x := 4) rfl (by decide) ?_
      refine wq_iushr rfl ?_
      refine wq_sti [(0, .int (((((((nI (2 ^ 15 - 1)) : Int32).toUInt32 >>> ((8 : Int32).toUInt32 &&& Int32.toUInt32 31)).toInt32) : Int32).toUInt32 >>> ((4 : Int32).toUInt32 &&& Int32.toUInt32 31)).toInt32)), (1, .int ((1 + 8) + 4))] rfl rfl ?_
      refine wp_ldi rfl tm_m0 ?_
      refine wq_con (x := 4) rfl (by decide) ?_
      refine wq_icle rfl (fun h64 => absurd h64 (by decide)) (fun h64 => ?_)
      refine wq_inc (c := 2) [(1, .int (((1 + 8) + 4) + 2)), (0, .int (((((((nI (2 ^ 15 - 1)) : Int32).toUInt32 >>> ((8 : Int32).toUInt32 &&& Int32.toUInt32 31)).toInt32) : Int32).toUInt32 >>> ((4 : Int32).toUInt32 &&& Int32.toUInt32 31)).toInt32))] rfl tm_m1 rfl rfl ?_
      refine wp_ldi rfl tm_m1 ?_
      refine wq_con (x := 2) rfl (by decide) ?_
      refine wq_iushr rfl ?_
      refine wq_sti [(0, .int ((((((((((nI (2 ^ 15 - 1)) : Int32).toUInt32 >>> ((8 : Int32).toUInt32 &&& Int32.toUInt32 31)).toInt32) : Int32).toUInt32 >>> ((4 : Int32).toUInt32 &&& Int32.toUInt32 31)).toInt32) : Int32).toUInt32 >>> ((2 : Int32).toUInt32 &&& Int32.toUInt32 31)).toInt32)), (1, .int (((1 + 8) + 4) + 2))] rfl rfl ?_
      refine wp_ldi rfl tm_m1 ?_
      refine wp_ldi rfl tm_m0 ?_
      refine wq_con (x := 1) rfl (by decide) ?_
      refine wq_iushr rfl ?_
      refine wq_iadd rfl ?_
      exact wp_reti rfl (th_nI rfl) ⟨congrArg (fun x => some (Value.int x)) (by decide), rfl⟩
    | 16, _ =>
      refine wq_sti [(0, .int (nI (2 ^ 16 - 1)))] rfl rfl ?_
      refine wp_ldi rfl tm_m0 ?_
      refine wq_ifgt rfl (fun h9 => ?_) (fun h9 => absurd (by decide) h9)
      refine wq_con (x := 1) rfl (by decide) ?_
      refine wq_sti [(1, .int 1), (0, .int (nI (2 ^ 16 - 1)))] rfl rfl ?_
      refine wp_ldi rfl tm_m1 ?_
      refine wq_con (x := 65536) rfl (by decide) ?_
      refine wq_icle rfl (fun h23 => ?_) (fun h23 => absurd (by decide) h23)
      refine wp_ldi rfl tm_m1 ?_
      refine wq_con (x := 256) rfl (by decide) ?_
      refine wq_icle rfl (fun h38 => absurd h38 (by decide)) (fun h38 => ?_)
      refine wq_inc (c := 8) [(1, .int (1 + 8)), (0, .int (nI (2 ^ 16 - 1)))] rfl tm_m0 rfl rfl ?_
      refine wp_ldi rfl tm_m1 ?_
      refine wq_con (x := 8) rfl (by decide) ?_
      refine wq_iushr rfl ?_
      refine wq_sti [(0, .int ((((nI (2 ^ 16 - 1)) : Int32).toUInt32 >>> ((8 : Int32).toUInt32 &&& Int32.toUInt32 31)).toInt32)), (1, .int (1 + 8))] rfl rfl ?_
      refine wp_ldi rfl tm_m0 ?_
      refine wq_con (x := 16) rfl (by decide) ?_
      refine wq_icle rfl (fun h52 => absurd h52 (by decide)) (fun h52 => ?_)
      refine wq_inc (c := 4) [(1, .int ((1 + 8) + 4)), (0, .int ((((nI (2 ^ 16 - 1)) : Int32).toUInt32 >>> ((8 : Int32).toUInt32 &&& Int32.toUInt32 31)).toInt32))] rfl tm_m1 rfl rfl ?_
      refine wp_ldi rfl tm_m1 ?_
      refine wq_con (x := 4) rfl (by decide) ?_
      refine wq_iushr rfl ?_
      refine wq_sti [(0, .int (((((((nI (2 ^ 16 - 1)) : Int32).toUInt32 >>> ((8 : Int32).toUInt32 &&& Int32.toUInt32 31)).toInt32) : Int32).toUInt32 >>> ((4 : Int32).toUInt32 &&& Int32.toUInt32 31)).toInt32)), (1, .int ((1 + 8) + 4))] rfl rfl ?_
      refine wp_ldi rfl tm_m0 ?_
      refine wq_con (x := 4) rfl (by decide) ?_
      refine wq_icle rfl (fun h64 => absurd h64 (by decide)) (fun h64 => ?_)
      refine wq_inc (c := 2) [(1, .int (((1 + 8) + 4) + 2)), (0, .int (((((((nI (2 ^ 16 - 1)) : Int32).toUInt32 >>> ((8 : Int32).toUInt32 &&& Int32.toUInt32 31)).toInt32) : Int32).toUInt32 >>> ((4 : Int32).toUInt32 &&& Int32.toUInt32 31)).toInt32))] rfl tm_m1 rfl rfl ?_
      refine wp_ldi rfl tm_m1 ?_
      refine wq_con (x := 2) rfl (by decide) ?_
      refine wq_iushr rfl ?_
      refine wq_sti [(0, .int ((((((((((nI (2 ^ 16 - 1)) : Int32).toUInt32 >>> ((8 : Int32).toUInt32 &&& Int32.toUInt32 31)).toInt32) : Int32).toUInt32 >>> ((4 : Int32).toUInt32 &&& Int32.toUInt32 31)).toInt32) : Int32).toUInt32 >>> ((2 : Int32).toUInt32 &&& Int32.toUInt32 31)).toInt32)), (1, .int (((1 + 8) + 4) + 2))] rfl rfl ?_
      refine wp_ldi rfl tm_m1 ?_
      refine wp_ldi rfl tm_m0 ?_
      refine wq_con (x := 1) rfl (by decide) ?_
      refine wq_iushr rfl ?_
      refine wq_iadd rfl ?_
      exact wp_reti rfl (th_nI rfl) ⟨congrArg (fun x => some (Value.int x)) (by decide), rfl⟩
    | 17, _ =>
      refine wq_sti [(0, .int (nI (2 ^ 17 - 1)))] rfl rfl ?_
      refine wp_ldi rfl tm_m0 ?_
      refine wq_ifgt rfl (fun h9 => ?_) (fun h9 => absurd (by decide) h9)
      refine wq_con (x := 1) rfl (by decide) ?_
      refine wq_sti [(1, .int 1), (0, .int (nI (2 ^ 17 - 1)))] rfl rfl ?_
      refine wp_ldi rfl tm_m1 ?_
      refine wq_con (x := 65536) rfl (by decide) ?_
      refine wq_icle rfl (fun h23 => absurd h23 (by decide)) (fun h23 => ?_)
      refine wq_inc (c := 16) [(1, .int (1 + 16)), (0, .int (nI (2 ^ 17 - 1)))] rfl tm_m0 rfl rfl ?_
      refine wp_ldi rfl tm_m1 ?_
      refine wq_con (x := 16) rfl (by decide) ?_
      refine wq_iushr rfl ?_
      refine wq_sti [(0, .int ((((nI (2 ^ 17 - 1)) : Int32).toUInt32 >>> ((16 : Int32).toUInt32 &&& Int32.toUInt32 31)).toInt32)), (1, .int (1 + 16))] rfl rfl ?_
      refine wp_ldi rfl tm_m0 ?_
      refine wq_con (x := 256) rfl (by decide) ?_
      refine wq_icle rfl (fun h38 => ?_) (fun h38 => absurd (by decide) h38)
      refine wp_ldi rfl tm_m0 ?_
      refine wq_con (x := 16) rfl (by decide) ?_
      refine wq_icle rfl (fun h52 => ?_) (fun h52 => absurd (by decide) h52)
      refine wp_ldi rfl tm_m0 ?_
      refine wq_con (x := 4) rfl (by decide) ?_
      refine wq_icle rfl (fun h64 => ?_) (fun h64 => absurd (by decide) h64)
      refine wp_ldi rfl tm_m1 ?_
      refine wp_ldi rfl tm_m0 ?_
      refine wq_con (x := 1) rfl (by decide) ?_
      refine wq_iushr rfl ?_
      refine wq_iadd rfl ?_
      exact wp_reti rfl (th_nI rfl) ⟨congrArg (fun x => some (Value.int x)) (by decide), rfl⟩
    | 18, _ =>
      refine wq_sti [(0, .int (nI (2 ^ 18 - 1)))] rfl rfl ?_
      refine wp_ldi rfl tm_m0 ?_
      refine wq_ifgt rfl (fun h9 => ?_) (fun h9 => absurd (by decide) h9)
      refine wq_con (x := 1) rfl (by decide) ?_
      refine wq_sti [(1, .int 1), (0, .int (nI (2 ^ 18 - 1)))] rfl rfl ?_
      refine wp_ldi rfl tm_m1 ?_
      refine wq_con (x := 65536) rfl (by decide) ?_
      refine wq_icle rfl (fun h23 => absurd h23 (by decide)) (fun h23 => ?_)
      refine wq_inc (c := 16) [(1, .int (1 + 16)), (0, .int (nI (2 ^ 18 - 1)))] rfl tm_m0 rfl rfl ?_
      refine wp_ldi rfl tm_m1 ?_
      refine wq_con (x := 16) rfl (by decide) ?_
      refine wq_iushr rfl ?_
      refine wq_sti [(0, .int ((((nI (2 ^ 18 - 1)) : Int32).toUInt32 >>> ((16 : Int32).toUInt32 &&& Int32.toUInt32 31)).toInt32)), (1, .int (1 + 16))] rfl rfl ?_
      refine wp_ldi rfl tm_m0 ?_
      refine wq_con (x := 256) rfl (by decide) ?_
      refine wq_icle rfl (fun h38 => ?_) (fun h38 => absurd (by decide) h38)
      refine wp_ldi rfl tm_m0 ?_
      refine wq_con (x := 16) rfl (by decide) ?_
      refine wq_icle rfl (fun h52 => ?_) (fun h52 => absurd (by decide) h52)
      refine wp_ldi rfl tm_m0 ?_
      refine wq_con (x := 4) rfl (by decide) ?_
      refine wq_icle rfl (fun h64 => ?_) (fun h64 => absurd (by decide) h64)
      refine wp_ldi rfl tm_m1 ?_
      refine wp_ldi rfl tm_m0 ?_
      refine wq_con (x := 1) rfl (by decide) ?_
      refine wq_iushr rfl ?_
      refine wq_iadd rfl ?_
      exact wp_reti rfl (th_nI rfl) ⟨congrArg (fun x => some (Value.int x)) (by decide), rfl⟩
    | 19, _ =>
      refine wq_sti [(0, .int (nI (2 ^ 19 - 1)))] rfl rfl ?_
      refine wp_ldi rfl tm_m0 ?_
      refine wq_ifgt rfl (fun h9 => ?_) (fun h9 => absurd (by decide) h9)
      refine wq_con (x := 1) rfl (by decide) ?_
      refine wq_sti [(1, .int 1), (0, .int (nI (2 ^ 19 - 1)))] rfl rfl ?_
      refine wp_ldi rfl tm_m1 ?_
      refine wq_con (x := 65536) rfl (by decide) ?_
      refine wq_icle rfl (fun h23 => absurd h23 (by decide)) (fun h23 => ?_)
      refine wq_inc (c := 16) [(1, .int (1 + 16)), (0, .int (nI (2 ^ 19 - 1)))] rfl tm_m0 rfl rfl ?_
      refine wp_ldi rfl tm_m1 ?_
      refine wq_con (x := 16) rfl (by decide) ?_
      refine wq_iushr rfl ?_
      refine wq_sti [(0, .int ((((nI (2 ^ 19 - 1)) : Int32).toUInt32 >>> ((16 : Int32).toUInt32 &&& Int32.toUInt32 31)).toInt32)), (1, .int (1 + 16))] rfl rfl ?_
      refine wp_ldi rfl tm_m0 ?_
      refine wq_con (x := 256) rfl (by decide) ?_
      refine wq_icle rfl (fun h38 => ?_) (fun h38 => absurd (by decide) h38)
      refine wp_ldi rfl tm_m0 ?_
      refine wq_con (x := 16) rfl (by decide) ?_
      refine wq_icle rfl (fun h52 => ?_) (fun h52 => absurd (by decide) h52)
      refine wp_ldi rfl tm_m0 ?_
      refine wq_con (x := 4) rfl (by decide) ?_
      refine wq_icle rfl (fun h64 => absurd h64 (by decide)) (fun h64 => ?_)
      refine wq_inc (c := 2) [(1, .int ((1 + 16) + 2)), (0, .int ((((nI (2 ^ 19 - 1)) : Int32).toUInt32 >>> ((16 : Int32).toUInt32 &&& Int32.toUInt32 31)).toInt32))] rfl tm_m1 rfl rfl ?_
      refine wp_ldi rfl tm_m1 ?_
      refine wq_con (x := 2) rfl (by decide) ?_
      refine wq_iushr rfl ?_
      refine wq_sti [(0, .int (((((((nI (2 ^ 19 - 1)) : Int32).toUInt32 >>> ((16 : Int32).toUInt32 &&& Int32.toUInt32 31)).toInt32) : Int32).toUInt32 >>> ((2 : Int32).toUInt32 &&& Int32.toUInt32 31)).toInt32)), (1, .int ((1 + 16) + 2))] rfl rfl ?_
      refine wp_ldi rfl tm_m1 ?_
      refine wp_ldi rfl tm_m0 ?_
      refine wq_con (x := 1) rfl (by decide) ?_
      refine wq_iushr rfl ?_
      refine wq_iadd rfl ?_
      exact wp_reti rfl (th_nI rfl) ⟨congrArg (fun x => some (Value.int x)) (by decide), rfl⟩
    | 20, _ =>
      refine wq_sti [(0, .int (nI (2 ^ 20 - 1)))] rfl rfl ?_
      refine wp_ldi rfl tm_m0 ?_
      refine wq_ifgt rfl (fun h9 => ?_) (fun h9 => absurd (by decide) h9)
      refine wq_con (x := 1) rfl (by decide) ?_
      refine wq_sti [(1, .int 1), (0, .int (nI (2 ^ 20 - 1)))] rfl rfl ?_
      refine wp_ldi rfl tm_m1 ?_
      refine wq_con (x := 65536) rfl (by decide) ?_
      refine wq_icle rfl (fun h23 => absurd h23 (by decide)) (fun h23 => ?_)
      refine wq_inc (c := 16) [(1, .int (1 + 16)), (0, .int (nI (2 ^ 20 - 1)))] rfl tm_m0 rfl rfl ?_
      refine wp_ldi rfl tm_m1 ?_
      refine wq_con (x := 16) rfl (by decide) ?_
      refine wq_iushr rfl ?_
      refine wq_sti [(0, .int ((((nI (2 ^ 20 - 1)) : Int32).toUInt32 >>> ((16 : Int32).toUInt32 &&& Int32.toUInt32 31)).toInt32)), (1, .int (1 + 16))] rfl rfl ?_
      refine wp_ldi rfl tm_m0 ?_
      refine wq_con (x := 256) rfl (by decide) ?_
      refine wq_icle rfl (fun h38 => ?_) (fun h38 => absurd (by decide) h38)
      refine wp_ldi rfl tm_m0 ?_
      refine wq_con (x := 16) rfl (by decide) ?_
      refine wq_icle rfl (fun h52 => ?_) (fun h52 => absurd (by decide) h52)
      refine wp_ldi rfl tm_m0 ?_
      refine wq_con (x := 4) rfl (by decide) ?_
      refine wq_icle rfl (fun h64 => absurd h64 (by decide)) (fun h64 => ?_)
      refine wq_inc (c := 2) [(1, .int ((1 + 16) + 2)), (0, .int ((((nI (2 ^ 20 - 1)) : Int32).toUInt32 >>> ((16 : Int32).toUInt32 &&& Int32.toUInt32 31)).toInt32))] rfl tm_m1 rfl rfl ?_
      refine wp_ldi rfl tm_m1 ?_
      refine wq_con (x := 2) rfl (by decide) ?_
      refine wq_iushr rfl ?_
      refine wq_sti [(0, .int (((((((nI (2 ^ 20 - 1)) : Int32).toUInt32 >>> ((16 : Int32).toUInt32 &&& Int32.toUInt32 31)).toInt32) : Int32).toUInt32 >>> ((2 : Int32).toUInt32 &&& Int32.toUInt32 31)).toInt32)), (1, .int ((1 + 16) + 2))] rfl rfl ?_
      refine wp_ldi rfl tm_m1 ?_
      refine wp_ldi rfl tm_m0 ?_
      refine wq_con (x := 1) rfl (by decide) ?_
      refine wq_iushr rfl ?_
      refine wq_iadd rfl ?_
      exact wp_reti rfl (th_nI rfl) ⟨congrArg (fun x => some (Value.int x)) (by decide), rfl⟩
    | 21, _ =>
      refine wq_sti [(0, .int (nI (2 ^ 21 - 1)))] rfl rfl ?_
      refine wp_ldi rfl tm_m0 ?_
      refine wq_ifgt rfl (fun h9 => ?_) (fun h9 => absurd (by decide) h9)
      refine wq_con (x := 1) rfl (by decide) ?_
      refine wq_sti [(1, .int 1), (0, .int (nI (2 ^ 21 - 1)))] rfl rfl ?_
      refine wp_ldi rfl tm_m1 ?_
      refine wq_con (x := 65536) rfl (by decide) ?_
      refine wq_icle rfl (fun h23 => absurd h23 (by decide)) (fun h23 => ?_)
      refine wq_inc (c := 16) [(1, .int (1 + 16)), (0, .int (nI (2 ^ 21 - 1)))] rfl tm_m0 rfl rfl ?_
      refine wp_ldi rfl tm_m1 ?_
      refine wq_con (x := 16) rfl (by decide) ?_
      refine wq_iushr rfl ?_
      refine wq_sti [(0, .int ((((nI (2 ^ 21 - 1)) : Int32).toUInt32 >>> ((16 : Int32).toUInt32 &&& Int32.toUInt32 31)).toInt32)), (1, .int (1 + 16))] rfl rfl ?_
      refine wp_ldi rfl tm_m0 ?_
      refine wq_con (x := 256) rfl (by decide) ?_
      refine wq_icle rfl (fun h38 => ?_) (fun h38 => absurd (by decide) h38)
      refine wp_ldi rfl tm_m0 ?_
      refine wq_con (x := 16) rfl (by decide) ?_
      refine wq_icle rfl (fun h52 => absurd h52 (by decide)) (fun h52 => ?_)
      refine wq_inc (c := 4) [(1, .int ((1 + 16) + 4)), (0, .int ((((nI (2 ^ 21 - 1)) : Int32).toUInt32 >>> ((16 : Int32).toUInt32 &&& Int32.toUInt32 31)).toInt32))] rfl tm_m1 rfl rfl ?_
      refine wp_ldi rfl tm_m1 ?_
      refine wq_con (x := 4) rfl (by decide) ?_
      refine wq_iushr rfl ?_
      refine wq_sti [(0, .int (((((((nI (2 ^ 21 - 1)) : Int32).toUInt32 >>> ((16 : Int32).toUInt32 &&& Int32.toUInt32 31)).toInt32) : Int32).toUInt32 >>> ((4 : Int32).toUInt32 &&& Int32.toUInt32 31)).toInt32)), (1, .int ((1 + 16) + 4))] rfl rfl ?_
      refine wp_ldi rfl tm_m0 ?_
      refine wq_con (x := 4) rfl (by decide) ?_
      refine wq_icle rfl (fun h64 => ?_) (fun h64 => absurd (by decide) h64)
      refine wp_ldi rfl tm_m1 ?_
      refine wp_ldi rfl tm_m0 ?_
      refine wq_con (x := 1) rfl (by decide) ?_
      refine wq_iushr rfl ?_
      refine wq_iadd rfl ?_
      exact wp_reti rfl (th_nI rfl) ⟨congrArg (fun x => some (Value.int x)) (by decide), rfl⟩
    | 22, _ =>
      refine wq_sti [(0, .int (nI (2 ^ 22 - 1)))] rfl rfl ?_
      refine wp_ldi rfl tm_m0 ?_
      refine wq_ifgt rfl (fun h9 => ?_) (fun h9 => absurd (by decide) h9)
      refine wq_con (x := 1) rfl (by decide) ?_
      refine wq_sti [(1, .int 1), (0, .int (nI (2 ^ 22 - 1)))] rfl rfl ?_
      refine wp_ldi rfl tm_m1 ?_
      refine wq_con (x := 65536) rfl (by decide) ?_
      refine wq_icle rfl (fun h23 => absurd h23 (by decide)) (fun h23 => ?_)
      refine wq_inc (c := 16) [(1, .int (1 + 16)), (0, .int (nI (2 ^ 22 - 1)))] rfl tm_m0 rfl rfl ?_
      refine wp_ldi rfl tm_m1 ?_
      refine wq_con (x := 16) rfl (by decide) ?_
      refine wq_iushr rfl ?_
      refine wq_sti [(0, .int ((((nI (2 ^ 22 - 1)) : Int32).toUInt32 >>> ((16 : Int32).toUInt32 &&& Int32.toUInt32 31)).toInt32)), (1, .int (1 + 16))] rfl rfl ?_
      refine wp_ldi rfl tm_m0 ?_
      refine wq_con (x := 256) rfl (by decide) ?_
      refine wq_icle rfl (fun h38 => ?_) (fun h38 => absurd (by decide) h38)
      refine wp_ldi rfl tm_m0 ?_
      refine wq_con (x := 16) rfl (by decide) ?_
      refine wq_icle rfl (fun h52 => absurd h52 (by decide)) (fun h52 => ?_)
      refine wq_inc (c := 4) [(1, .int ((1 + 16) + 4)), (0, .int ((((nI (2 ^ 22 - 1)) : Int32).toUInt32 >>> ((16 : Int32).toUInt32 &&& Int32.toUInt32 31)).toInt32))] rfl tm_m1 rfl rfl ?_
      refine wp_ldi rfl tm_m1 ?_
      refine wq_con (x := 4) rfl (by decide) ?_
      refine wq_iushr rfl ?_
      refine wq_sti [(0, .int (((((((nI (2 ^ 22 - 1)) : Int32).toUInt32 >>> ((16 : Int32).toUInt32 &&& Int32.toUInt32 31)).toInt32) : Int32).toUInt32 >>> ((4 : Int32).toUInt32 &&& Int32.toUInt32 31)).toInt32)), (1, .int ((1 + 16) + 4))] rfl rfl ?_
      refine wp_ldi rfl tm_m0 ?_
      refine wq_con (x := 4) rfl (by decide) ?_
      refine wq_icle rfl (fun h64 => ?_) (fun h64 => absurd (by decide) h64)
      refine wp_ldi rfl tm_m1 ?_
      refine wp_ldi rfl tm_m0 ?_
      refine wq_con (x := 1) rfl (by decide) ?_
      refine wq_iushr rfl ?_
      refine wq_iadd rfl ?_
      exact wp_reti rfl (th_nI rfl) ⟨congrArg (fun x => some (Value.int x)) (by decide), rfl⟩
    | 23, _ =>
      refine wq_sti [(0, .int (nI (2 ^ 23 - 1)))] rfl rfl ?_
      refine wp_ldi rfl tm_m0 ?_
      refine wq_ifgt rfl (fun h9 => ?_) (fun h9 => absurd (by decide) h9)
      refine wq_con (x := 1) rfl (by decide) ?_
      refine wq_sti [(1, .int 1), (0, .int (nI (2 ^ 23 - 1)))] rfl rfl ?_
      refine wp_ldi rfl tm_m1 ?_
      refine wq_con (x := 65536) rfl (by decide) ?_
      refine wq_icle rfl (fun h23 => absurd h23 (by decide)) (fun h23 => ?_)
      refine wq_inc (c := 16) [(1, .int (1 + 16)), (0, .int (nI (2 ^ 23 - 1)))] rfl tm_m0 rfl rfl ?_
      refine wp_ldi rfl tm_m1 ?_
      refine wq_con (x := 16) rfl (by decide) ?_
      refine wq_iushr rfl ?_
      refine wq_sti [(0, .int ((((nI (2 ^ 23 - 1)) : Int32).toUInt32 >>> ((16 : Int32).toUInt32 &&& Int32.toUInt32 31)).toInt32)), (1, .int (1 + 16))] rfl rfl ?_
      refine wp_ldi rfl tm_m0 ?_
      refine wq_con (x := 256) rfl (by decide) ?_
      refine wq_icle rfl (fun h38 => ?_) (fun h38 => absurd (by decide) h38)
      refine wp_ldi rfl tm_m0 ?_
      refine wq_con (x := 16) rfl (by decide) ?_
      refine wq_icle rfl (fun h52 => absurd h52 (by decide)) (fun h52 => ?_)
      refine wq_inc (c := 4) [(1, .int ((1 + 16) + 4)), (0, .int ((((nI (2 ^ 23 - 1)) : Int32).toUInt32 >>> ((16 : Int32).toUInt32 &&& Int32.toUInt32 31)).toInt32))] rfl tm_m1 rfl rfl ?_
      refine wp_ldi rfl tm_m1 ?_
      refine wq_con (x := 4) rfl (by decide) ?_
      refine wq_iushr rfl ?_
      refine wq_sti [(0, .int (((((((nI (2 ^ 23 - 1)) : Int32).toUInt32 >>> ((16 : Int32).toUInt32 &&& Int32.toUInt32 31)).toInt32) : Int32).toUInt32 >>> ((4 : Int32).toUInt32 &&& Int32.toUInt32 31)).toInt32)), (1, .int ((1 + 16) + 4))] rfl rfl ?_
      refine wp_ldi rfl tm_m0 ?_
      refine wq_con (x := 4) rfl (by decide) ?_
      refine wq_icle rfl (fun h64 => absurd h64 (by decide)) (fun h64 => ?_)
      refine wq_inc (c := 2) [(1, .int (((1 + 16) + 4) + 2)), (0, .int (((((((nI (2 ^ 23 - 1)) : Int32).toUInt32 >>> ((16 : Int32).toUInt32 &&& Int32.toUInt32 31)).toInt32) : Int32).toUInt32 >>> ((4 : Int32).toUInt32 &&& Int32.toUInt32 31)).toInt32))] rfl tm_m1 rfl rfl ?_
      refine wp_ldi rfl tm_m1 ?_
      refine wq_con (x := 2) rfl (by decide) ?_
      refine wq_iushr rfl ?_
      refine wq_sti [(0, .int ((((((((((nI (2 ^ 23 - 1)) : Int32).toUInt32 >>> ((16 : Int32).toUInt32 &&& Int32.toUInt32 31)).toInt32) : Int32).toUInt32 >>> ((4 : Int32).toUInt32 &&& Int32.toUInt32 31)).toInt32) : Int32).toUInt32 >>> ((2 : Int32).toUInt32 &&& Int32.toUInt32 31)).toInt32)), (1, .int (((1 + 16) + 4) + 2))] rfl rfl ?_
      refine wp_ldi rfl tm_m1 ?_
      refine wp_ldi rfl tm_m0 ?_
      refine wq_con (x := 1) rfl (by decide) ?_
      refine wq_iushr rfl ?_
      refine wq_iadd rfl ?_
      exact wp_reti rfl (th_nI rfl) ⟨congrArg (fun x => some (Value.int x)) (by decide), rfl⟩
    | L + 24, hL => exact absurd hL (by omega)
  show WP d 39 0 [(0, .int x)] [] σ _
  refine wp_ldi rfl tm_m0 ?_
  refine wq_con (x := (-1)) rfl (by decide) ?_
  refine wq_ixor rfl ?_
  refine wp_ldi rfl tm_m0 ?_
  refine wq_con (x := 1) rfl (by decide) ?_
  refine wq_isub rfl ?_
  refine wq_iand rfl ?_
  rw [tw_z hX h0 hl (by omega)]
  exact k7 _ _ hL
set_option maxRecDepth 100000 in
set_option maxHeartbeats 4000000 in
theorem tw_lm {d X L : Nat} {x : Int32} {σ : tm_S} (hX : x.toBitVec.toNat = X) (h0 : X.testBit L = true) (hl : ∀ i : Nat, i < L → X.testBit i = false) (hL : L < 24) : WM (d + 1) 38 [.int x] σ (th_is (.int (nI L)) σ) := by
  show WP (d + 1) 38 0 [(0, .int x)] [] σ _
  refine wp_ldi rfl tm_m0 ?_
  refine wq_cals [.int x] rfl rfl rfl rfl rfl rfl (tw_ntz hX h0 hl hL) ?_
  rintro _ _ ⟨rfl, rfl⟩
  exact wp_reti rfl (th_nI rfl) ⟨rfl, rfl⟩
set_option maxRecDepth 100000 in
set_option maxHeartbeats 4000000 in
theorem tw_wl {d r : Nat} {σ : tm_S} (h : r < 2 ^ 24) (h0 : 0 < r) : WM d 40 [.int (nI r)] σ (th_is (.int (nI (r &&& (r - 1)))) σ) := by
  have e1 : nI r - 1 = nI (r - 1) := by rw [show r = (r - 1) + 1 by omega]; exact nI_pred _
  show WP d 40 0 [(0, .int (nI r))] [] σ _
  refine wp_ldi rfl tm_m0 ?_
  refine wp_ldi rfl tm_m0 ?_
  refine wq_con (x := 1) rfl (by decide) ?_
  refine wq_isub rfl ?_
  rw [e1]
  refine wq_iand rfl ?_
  rw [th_and24 (by omega) (by omega)]
  exact wp_reti rfl (th_nI rfl) ⟨rfl, rfl⟩
theorem tw_rx {r L : Nat} (h0 : r.testBit L = true) (hl : ∀ i : Nat, i < L → r.testBit i = false) : r &&& (r - 1) = r ^^^ 2 ^ L := by
  apply Nat.eq_of_testBit_eq
  intro i
  rw [Nat.testBit_and, tw_lb h0 hl, Nat.testBit_xor, Nat.testBit_two_pow]
  by_cases c : i = L
  · subst c
    rw [h0]
    simp
  · by_cases c2 : i < L
    · rw [hl i c2]
      simp [show ¬ L = i from fun q => c q.symm]
    · simp only [c, c2, show ¬ L = i from fun q => c q.symm, decide_false, not_false_eq_true, decide_true, Bool.and_true, Bool.false_or, Bool.xor_false, Bool.and_self]
/-- the first place that holds P -/
def tw_fs (P : Nat → Bool) : Nat → Nat → Nat
  | 0, q => q
  | f + 1, q => if P q = true then q else tw_fs P f (q + 1)
theorem tw_fsk {P : Nat → Bool} : ∀ {f q : Nat}, (∃ j : Nat, q ≤ j ∧ j < q + f ∧ P j = true) → q ≤ tw_fs P f q ∧ tw_fs P f q < q + f ∧ P (tw_fs P f q) = true ∧ ∀ j : Nat, q ≤ j → j < tw_fs P f q → P j = false
  | 0, q, ⟨j, h1, h2, _⟩ => absurd h2 (by omega)
  | f + 1, q, ⟨j, h1, h2, h3⟩ => by
    show q ≤ (if P q = true then q else tw_fs P f (q + 1)) ∧ (if P q = true then q else tw_fs P f (q + 1)) < q + (f + 1) ∧ P (if P q = true then q else tw_fs P f (q + 1)) = true ∧ ∀ j : Nat, q ≤ j → j < (if P q = true then q else tw_fs P f (q + 1)) → P j = false
    by_cases h : P q = true
    · rw [if_pos h]
      exact ⟨Nat.le_refl _, by omega, h, fun i i1 i2 => absurd i1 (by omega)⟩
    · rw [if_neg h]
      have hj : q + 1 ≤ j := by
        rcases Nat.lt_or_ge q j with e | e
        · exact e
        · obtain rfl : j = q := by omega
          exact absurd h3 h
      obtain ⟨a1, a2, a3, a4⟩ := tw_fsk (P := P) (f := f) (q := q + 1) ⟨j, hj, by omega, h3⟩
      refine ⟨by omega, by omega, a3, fun i i1 i2 => ?_⟩
      by_cases e : i = q
      · rw [e]
        exact Bool.eq_false_iff.mpr h
      · exact a4 i (by omega) i2
/-- the least open beat -/
def tw_op (c cv : Nat) : Nat := tw_fs (fun i => !(cv.testBit i)) c 0
theorem tw_opk {c cv : Nat} (h : cv < 2 ^ c) (hf : ¬ cv = 2 ^ c - 1) : tw_op c cv < c ∧ cv.testBit (tw_op c cv) = false ∧ ∀ i : Nat, i < tw_op c cv → cv.testBit i = true := by
  obtain ⟨b, b1, b2⟩ := th_clear h hf
  obtain ⟨-, q2, q3, q4⟩ := tw_fsk (P := fun i => !(cv.testBit i)) (f := c) (q := 0) ⟨b, Nat.zero_le _, by omega, by rw [b2]; rfl⟩
  refine ⟨by show tw_fs _ _ _ < _; omega, ?_, fun i hi => ?_⟩
  · have q5 : (!(cv.testBit (tw_op c cv))) = true := q3
    cases hb : cv.testBit (tw_op c cv) with
    | false => rfl
    | true => rw [hb] at q5; cases q5
  · have q5 : (!(cv.testBit i)) = false := q4 i (Nat.zero_le _) hi
    cases hb : cv.testBit i with
    | true => rfl
    | false => rw [hb] at q5; cases q5
/-- the least member -/
def tw_lo (c r : Nat) : Nat := tw_fs (fun i => r.testBit i) c 0
theorem tw_lok {c r : Nat} (h : r < 2 ^ c) (h0 : 0 < r) : tw_lo c r < c ∧ r.testBit (tw_lo c r) = true ∧ ∀ i : Nat, i < tw_lo c r → r.testBit i = false := by
  have hex : ∃ j : Nat, 0 ≤ j ∧ j < 0 + c ∧ r.testBit j = true := Classical.byContradiction (fun q => by
    have hz : r = 0 := by
      apply Nat.eq_of_testBit_eq
      intro i
      rw [Nat.zero_testBit]
      by_cases hi : i < c
      · cases hb : r.testBit i with
        | false => rfl
        | true => exact absurd ⟨i, Nat.zero_le _, by omega, hb⟩ q
      · exact Nat.testBit_lt_two_pow (Nat.lt_of_lt_of_le h (Nat.pow_le_pow_right (by decide) (by omega)))
    omega)
  obtain ⟨-, q2, q3, q4⟩ := tw_fsk (P := fun i => r.testBit i) (f := c) (q := 0) hex
  exact ⟨by show tw_fs _ _ _ < _; omega, q3, fun i hi => q4 i (Nat.zero_le _) hi⟩
