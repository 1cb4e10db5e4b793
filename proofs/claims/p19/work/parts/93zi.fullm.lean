/-! ===== full rows: the numbers ===== -/
/-- so many full rows begin with 0 -/
def tu_K (n : Nat) : Nat := [0, 0, 0, 0, 2, 0, 4, 0, 24, 0, 288, 0, 3856].getD n 0
noncomputable def tu_M (n L : Nat) : Nat := cond (Nat.beq L (Nat.sub n 1)) (Nat.pow 2 (Nat.div n 2)) (Nat.xor 4095 (Nat.pow 2 (Nat.div n 2)))
noncomputable def tu_o (n L l N G : Nat) : Nat := Nat.land (Nat.land N (Nat.lor (Nat.shiftLeft G l) (Nat.shiftRight G (Nat.sub n l)))) (tu_M n L)
noncomputable def tu_s (F : Nat → Nat) (o : Nat) (m : Nat) : Nat := Nat.rec 0 (fun m acc => cond (Nat.beq (Nat.land (Nat.shiftRight o (Nat.sub 11 m)) 1) 0) acc (Nat.add (th_f (Nat.sub 11 m) F) acc)) m
noncomputable def tu_c (n k : Nat) : Nat → Nat → Nat → Nat → Nat := Nat.rec (fun _ _ _ _ => 1) (fun _ F L l N G => th_f (tu_o n L l N G) fun o => tu_s (fun x => th_f (Nat.land N (Nat.xor 4095 (Nat.pow 2 x))) fun N2 => th_f (Nat.land G (Nat.xor 4095 (Nat.pow 2 (tu_g n l x)))) fun G2 => F (Nat.succ L) x N2 G2) o 12) k
noncomputable def tu_F (n k L l N G x : Nat) : Nat := tu_c n k (L + 1) x (N &&& (4095 ^^^ 2 ^ x)) (G &&& (4095 ^^^ 2 ^ tu_g n l x))
theorem tu_cs (n k L l N G : Nat) : tu_c n (k + 1) L l N G = tu_s (tu_F n k L l N G) (tu_o n L l N G) 12 := by
  have h : tu_c n (k + 1) L l N G = th_f (tu_o n L l N G) fun o => tu_s (fun x => th_f (Nat.land N (Nat.xor 4095 (Nat.pow 2 x))) fun N2 => th_f (Nat.land G (Nat.xor 4095 (Nat.pow 2 (tu_g n l x)))) fun G2 => tu_c n k (Nat.succ L) x N2 G2) o 12 := rfl
  have e : (fun x => th_f (Nat.land N (Nat.xor 4095 (Nat.pow 2 x))) fun N2 => th_f (Nat.land G (Nat.xor 4095 (Nat.pow 2 (tu_g n l x)))) fun G2 => tu_c n k (Nat.succ L) x N2 G2) = tu_F n k L l N G := by
    funext x
    rw [th_f_eq, th_f_eq]
    rfl
  rw [h, th_f_eq, e]
theorem tu_s1 (F : Nat → Nat) (o m : Nat) : tu_s F o (m + 1) = (if o.testBit (11 - m) = true then F (11 - m) else 0) + tu_s F o m := by
  have h : tu_s F o (m + 1) = cond (Nat.beq (Nat.land (Nat.shiftRight o (Nat.sub 11 m)) 1) 0) (tu_s F o m) (Nat.add (th_f (Nat.sub 11 m) F) (tu_s F o m)) := rfl
  rw [h, th_f_eq]
  show cond (Nat.beq ((o >>> (11 - m)) &&& 1) 0) (tu_s F o m) (F (11 - m) + tu_s F o m) = _
  by_cases hc : (o >>> (11 - m)) &&& 1 = 0
  · rw [hc, if_neg (by rw [(th_bz _ _).mp hc]; decide), Nat.zero_add]
    rfl
  · have hb : o.testBit (11 - m) = true := by
      cases hb : o.testBit (11 - m) with
      | true => rfl
      | false => exact absurd ((th_bz _ _).mpr hb) hc
    rw [if_pos hb, show Nat.beq ((o >>> (11 - m)) &&& 1) 0 = false from Bool.eq_false_iff.mpr (fun e => hc (tv_beq e))]
    rfl
/-- without one member -/
theorem tu_sx {F : Nat → Nat} {o y : Nat} (hy : y < 12) (hb : o.testBit y = true) : ∀ m : Nat, m ≤ 12 → tu_s F o m = (if 11 - y < m then F y else 0) + tu_s F (o ^^^ 2 ^ y) m
  | 0, _ => rfl
  | m + 1, h => by
    rw [tu_s1, tu_s1, tu_sx hy hb m (by omega), Nat.testBit_xor, Nat.testBit_two_pow]
    by_cases e : y = 11 - m
    · rw [← e, hb, if_neg (show ¬ 11 - y < m by omega), if_pos (show 11 - y < m + 1 by omega)]
      simp
    · have e2 : (11 - y < m) ↔ (11 - y < m + 1) := by omega
      simp only [e, e2, decide_false, Bool.xor_false]
      omega
theorem tu_s0 {F : Nat → Nat} : ∀ m : Nat, tu_s F 0 m = 0
  | 0 => rfl
  | m + 1 => by
    rw [tu_s1, Nat.zero_testBit, tu_s0 m]
    rfl
theorem tu_st {F : Nat → Nat} {r : Nat} (h : r < 4096) (h0 : ¬ r = 0) : tu_s F r 12 = F (tl_low r 12) + tu_s F (r &&& (r - 1)) 12 := by
  obtain ⟨l1, l2, l3, -⟩ := tl_lw h h0
  rw [tu_sx l2 l1 12 (Nat.le_refl _), if_pos (by omega), l3]
set_option maxRecDepth 100000 in
set_option maxHeartbeats 4000000 in
theorem tu_r3 : th_ff 3 2 0 1 0 = tu_K 3 := Nat.eq_of_beq_eq_true (by decide +kernel)
set_option maxRecDepth 100000 in
set_option maxHeartbeats 4000000 in
theorem tu_r4 : th_ff 4 3 0 1 0 = tu_K 4 := Nat.eq_of_beq_eq_true (by decide +kernel)
set_option maxRecDepth 100000 in
set_option maxHeartbeats 4000000 in
theorem tu_r5 : th_ff 5 4 0 1 0 = tu_K 5 := Nat.eq_of_beq_eq_true (by decide +kernel)
set_option maxRecDepth 100000 in
set_option maxHeartbeats 4000000 in
theorem tu_r6 : th_ff 6 5 0 1 0 = tu_K 6 := Nat.eq_of_beq_eq_true (by decide +kernel)
set_option maxRecDepth 100000 in
set_option maxHeartbeats 4000000 in
theorem tu_r7 : th_ff 7 6 0 1 0 = tu_K 7 := Nat.eq_of_beq_eq_true (by decide +kernel)
set_option maxRecDepth 100000 in
set_option maxHeartbeats 4000000 in
theorem tu_r8 : th_ff 8 7 0 1 0 = tu_K 8 := Nat.eq_of_beq_eq_true (by decide +kernel)
set_option maxRecDepth 100000 in
set_option maxHeartbeats 4000000 in
theorem tu_r9 : th_ff 9 8 0 1 0 = tu_K 9 := Nat.eq_of_beq_eq_true (by decide +kernel)
set_option maxRecDepth 100000 in
set_option maxHeartbeats 4000000 in
theorem tu_r10 : th_ff 10 9 0 1 0 = tu_K 10 := Nat.eq_of_beq_eq_true (by decide +kernel)
set_option maxRecDepth 100000 in
set_option maxHeartbeats 4000000 in
theorem tu_r11 : th_ff 11 10 0 1 0 = tu_K 11 := by
  rw [th_ff_s 11 9, th_d11, th_c11_1, th_c11_2, th_c11_3, th_c11_4, th_c11_5, th_c11_6, th_c11_7, th_c11_8, th_c11_9, th_c11_10]
  decide
set_option maxRecDepth 100000 in
set_option maxHeartbeats 4000000 in
theorem tu_r12 : th_ff 12 11 0 1 0 = tu_K 12 := by
  rw [th_ff_s 12 10, th_d12, th_c12_1, th_c12_2, th_c12_3, th_c12_4, th_c12_5, th_c12_6, th_c12_7, th_c12_8, th_c12_9, th_c12_10, th_c12_11]
  decide
theorem tu_r {n : Nat} (h3 : 3 ≤ n) (hn : n ≤ 12) : th_ff n (n - 1) 0 1 0 = tu_K n := by
  rcases (by omega : n = 3 ∨ n = 4 ∨ n = 5 ∨ n = 6 ∨ n = 7 ∨ n = 8 ∨ n = 9 ∨ n = 10 ∨ n = 11 ∨ n = 12) with rfl | rfl | rfl | rfl | rfl | rfl | rfl | rfl | rfl | rfl
  · exact tu_r3
  · exact tu_r4
  · exact tu_r5
  · exact tu_r6
  · exact tu_r7
  · exact tu_r8
  · exact tu_r9
  · exact tu_r10
  · exact tu_r11
  · exact tu_r12
set_option maxRecDepth 100000 in
set_option maxHeartbeats 4000000 in
theorem tu_x4 : tu_c 4 3 1 0 14 14 = tu_K 4 := Nat.eq_of_beq_eq_true (by decide +kernel)
set_option maxRecDepth 100000 in
set_option maxHeartbeats 4000000 in
theorem tu_x6 : tu_c 6 5 1 0 62 62 = tu_K 6 := Nat.eq_of_beq_eq_true (by decide +kernel)
set_option maxRecDepth 100000 in
set_option maxHeartbeats 4000000 in
theorem tu_x8 : tu_c 8 7 1 0 254 254 = tu_K 8 := Nat.eq_of_beq_eq_true (by decide +kernel)
set_option maxRecDepth 100000 in
set_option maxHeartbeats 4000000 in
theorem tu_x10 : tu_c 10 9 1 0 1022 1022 = tu_K 10 := Nat.eq_of_beq_eq_true (by decide +kernel)
set_option maxRecDepth 100000 in
set_option maxHeartbeats 4000000 in
theorem tu_y1 : tu_c 12 10 2 1 4092 4092 = 382 := Nat.eq_of_beq_eq_true (by decide +kernel)
set_option maxRecDepth 100000 in
set_option maxHeartbeats 4000000 in
theorem tu_y2 : tu_c 12 10 2 2 4090 4090 = 356 := Nat.eq_of_beq_eq_true (by decide +kernel)
set_option maxRecDepth 100000 in
set_option maxHeartbeats 4000000 in
theorem tu_y3 : tu_c 12 10 2 3 4086 4086 = 424 := Nat.eq_of_beq_eq_true (by decide +kernel)
set_option maxRecDepth 100000 in
set_option maxHeartbeats 4000000 in
theorem tu_y4 : tu_c 12 10 2 4 4078 4078 = 384 := Nat.eq_of_beq_eq_true (by decide +kernel)
set_option maxRecDepth 100000 in
set_option maxHeartbeats 4000000 in
theorem tu_y5 : tu_c 12 10 2 5 4062 4062 = 382 := Nat.eq_of_beq_eq_true (by decide +kernel)
set_option maxRecDepth 100000 in
set_option maxHeartbeats 4000000 in
theorem tu_y7 : tu_c 12 10 2 7 3966 3966 = 382 := Nat.eq_of_beq_eq_true (by decide +kernel)
set_option maxRecDepth 100000 in
set_option maxHeartbeats 4000000 in
theorem tu_y8 : tu_c 12 10 2 8 3838 3838 = 384 := Nat.eq_of_beq_eq_true (by decide +kernel)
set_option maxRecDepth 100000 in
set_option maxHeartbeats 4000000 in
theorem tu_y9 : tu_c 12 10 2 9 3582 3582 = 424 := Nat.eq_of_beq_eq_true (by decide +kernel)
set_option maxRecDepth 100000 in
set_option maxHeartbeats 4000000 in
theorem tu_y10 : tu_c 12 10 2 10 3070 3070 = 356 := Nat.eq_of_beq_eq_true (by decide +kernel)
set_option maxRecDepth 100000 in
set_option maxHeartbeats 4000000 in
theorem tu_y11 : tu_c 12 10 2 11 2046 2046 = 382 := Nat.eq_of_beq_eq_true (by decide +kernel)
set_option maxRecDepth 100000 in
set_option maxHeartbeats 4000000 in
theorem tu_d12 (F : Nat → Nat → Nat → Nat → Nat) : tu_s (fun x => F 2 x (4094 &&& (4095 ^^^ 2 ^ x)) (4094 &&& (4095 ^^^ 2 ^ tu_g 12 0 x))) (tu_o 12 1 0 4094 4094) 12 = F 2 1 4092 4092 + (F 2 2 4090 4090 + (F 2 3 4086 4086 + (F 2 4 4078 4078 + (F 2 5 4062 4062 + (F 2 7 3966 3966 + (F 2 8 3838 3838 + (F 2 9 3582 3582 + (F 2 10 3070 3070 + (F 2 11 2046 2046 + (0)))))))))) := rfl
set_option maxRecDepth 100000 in
set_option maxHeartbeats 4000000 in
theorem tu_x12 : tu_c 12 11 1 0 4094 4094 = tu_K 12 := by
  have h := tu_d12 (tu_c 12 10)
  rw [tu_y1, tu_y2, tu_y3, tu_y4, tu_y5, tu_y7, tu_y8, tu_y9, tu_y10, tu_y11] at h
  rw [tu_cs 12 10]
  exact h
theorem tu_x {n : Nat} (h3 : 3 ≤ n) (hn : n ≤ 12) (he : n % 2 = 0) : tu_c n (n - 1) 1 0 (2 ^ n - 2) (2 ^ n - 2) = tu_K n := by
  rcases (by omega : n = 4 ∨ n = 6 ∨ n = 8 ∨ n = 10 ∨ n = 12) with rfl | rfl | rfl | rfl | rfl
  · exact tu_x4
  · exact tu_x6
  · exact tu_x8
  · exact tu_x10
  · exact tu_x12
theorem tu_odd {n : Nat} (h3 : 3 ≤ n) (hn : n ≤ 12) (he : ¬ n % 2 = 0) : tu_K n = 0 := by
  rcases (by omega : n = 3 ∨ n = 5 ∨ n = 7 ∨ n = 9 ∨ n = 11) with rfl | rfl | rfl | rfl | rfl <;> rfl
theorem tu_Kb {n : Nat} (hn : n ≤ 12) : tu_K n ≤ 3856 := by
  rcases (by omega : n = 0 ∨ n = 1 ∨ n = 2 ∨ n = 3 ∨ n = 4 ∨ n = 5 ∨ n = 6 ∨ n = 7 ∨ n = 8 ∨ n = 9 ∨ n = 10 ∨ n = 11 ∨ n = 12) with rfl | rfl | rfl | rfl | rfl | rfl | rfl | rfl | rfl | rfl | rfl | rfl | rfl <;> decide
/-- sums over what is listed -/
theorem tu_S1 {f k : Nat → Nat} {n : Nat} (h0 : f n = 0) : ∀ N : Nat, (∀ i : Nat, i < N → f i ≤ k i) → n < N → tg_S f N + k n ≤ tg_S k N
  | 0, _, h => absurd h (by omega)
  | N + 1, hle, h => by
    show tg_S f N + f N + k n ≤ tg_S k N + k N
    by_cases e : n = N
    · subst e
      have h1 : ∀ M : Nat, M ≤ n → tg_S f M ≤ tg_S k M := fun M => by
        induction M with
        | zero => exact fun _ => Nat.le_refl _
        | succ M ih =>
          intro hM
          have h2 := ih (by omega)
          have h3 := hle M (by omega)
          show tg_S f M + f M ≤ tg_S k M + k M
          omega
      have h4 := h1 n (Nat.le_refl _)
      omega
    · have h2 := tu_S1 h0 N (fun i hi => hle i (by omega)) (by omega)
      have h3 := hle N (by omega)
      omega
theorem tu_S2 {f g : Nat → Nat} {n v : Nat} (h0 : f n = 0) (h1 : g n = v) (ho : ∀ i : Nat, ¬ i = n → g i = f i) : ∀ N : Nat, n < N → tg_S g N = tg_S f N + v
  | 0, h => absurd h (by omega)
  | N + 1, h => by
    show tg_S g N + g N = tg_S f N + f N + v
    by_cases e : n = N
    · subst e
      rw [tg_S_eq (n := n) (fun i hi => ho i (by omega)), h0, h1]
      omega
    · rw [tu_S2 h0 h1 ho N (by omega), ho N (fun q => e q.symm)]
      omega
theorem tu_S3 : tg_S tu_K 13 = 4174 := by decide
/-- bits taken away -/
theorem tu_not {o c : Nat} (ho : o < 4096) (hc : c < 4096) : nI o &&& (nI c ^^^ (-1)) = nI (o &&& (4095 ^^^ c)) := by
  have hl : o &&& (4095 ^^^ c) ≤ o := Nat.and_le_left
  refine th_iof ?_ (by omega)
  rw [tn_and, tn_xor, th_nn (by omega), th_nn (by omega), show (-1 : Int32).toBitVec.toNat = 4294967295 from rfl]
  apply Nat.eq_of_testBit_eq
  intro i
  rw [Nat.testBit_and, Nat.testBit_and, Nat.testBit_xor, Nat.testBit_xor, show (4294967295 : Nat) = 2 ^ 32 - 1 from rfl, show (4095 : Nat) = 2 ^ 12 - 1 from rfl, Nat.testBit_two_pow_sub_one, Nat.testBit_two_pow_sub_one]
  by_cases hi : i < 12
  · have e1 : decide (i < 12) = true := decide_eq_true hi
    have e2 : decide (i < 32) = true := decide_eq_true (by omega)
    rw [e1, e2]
    cases o.testBit i <;> cases c.testBit i <;> rfl
  · rw [Nat.testBit_lt_two_pow (Nat.lt_of_lt_of_le (show o < 2 ^ 12 from ho) (Nat.pow_le_pow_right (by decide) (by omega))), Bool.false_and, Bool.false_and]
theorem tu_rt {n N G l : Nat} (hn : n ≤ 12) (hl : l < n) (hN : N < 2 ^ n) (hG : G < 2 ^ n) : N &&& th_R n G l = N &&& (G <<< l ||| G >>> (n - l)) := by
  apply Nat.eq_of_testBit_eq
  intro i
  rw [Nat.testBit_and, Nat.testBit_and]
  by_cases hi : i < n
  · rw [th_R_bit (by omega) hG hl i hi, Nat.testBit_or, Nat.testBit_shiftLeft, Nat.testBit_shiftRight]
    congr 1
    by_cases hc : l ≤ i
    · have e1 : (i + (n - l)) % n = i - l := by rw [show i + (n - l) = (i - l) + n by omega, Nat.add_mod_right, Nat.mod_eq_of_lt (by omega)]
      have e2 : G.testBit (n - l + i) = false := Nat.testBit_lt_two_pow (Nat.lt_of_lt_of_le hG (Nat.pow_le_pow_right (by decide) (by omega)))
      rw [e1, e2]
      simp [hc]
    · have e1 : (i + (n - l)) % n = n - l + i := by rw [show i + (n - l) = n - l + i by omega, Nat.mod_eq_of_lt (by omega)]
      rw [e1]
      simp [hc]
  · rw [Nat.testBit_lt_two_pow (Nat.lt_of_lt_of_le hN (Nat.pow_le_pow_right (by decide) (by omega))), Bool.false_and, Bool.false_and]
theorem tu_an {n N c : Nat} (hN : N < 2 ^ n) : N &&& c < 2 ^ n := Nat.lt_of_le_of_lt Nat.and_le_left hN
