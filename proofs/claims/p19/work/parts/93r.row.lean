/-! ===== row: what both answer ===== -/
theorem th_note3 {r : Int64} {i : Nat} (hi : i < 16) : (r >>> ((4 * nI i).toInt64 &&& 63) &&& 15).toInt32 = nI (th_nb r i) := by
  have hlt := th_nb16 r i
  have e1 : (r >>> ((4 * nI i).toInt64 &&& 63) &&& 15).toBitVec.toNat = th_nb r i := by
    rw [th_sh4 i hi, Int64.toBitVec_and, Int64.toBitVec_shiftRight, BitVec.sshiftRight_eq', th_smod i hi]
    unfold th_nb
    apply Nat.eq_of_testBit_eq
    intro k
    have e15 : (15 : Int64).toBitVec.toNat = 2 ^ 4 - 1 := by decide
    rw [BitVec.testBit_toNat, BitVec.getLsbD_and, BitVec.getLsbD_sshiftRight, ← BitVec.testBit_toNat (x := (15 : Int64).toBitVec), e15, Nat.testBit_two_pow_sub_one, th_16, show (16 : Nat) = 2 ^ 4 from rfl, Nat.testBit_mod_two_pow, Nat.testBit_div_two_pow]
    by_cases hk : k < 4
    · have h1 : 4 * i + k < 64 := by omega
      have h2 : ¬ 64 ≤ k := by omega
      rw [← BitVec.testBit_toNat]
      simp [hk, h1, h2, Nat.add_comm]
      exact fun h => absurd h (by omega)
    · simp [hk]
  apply Int32.toBitVec_inj.mp
  apply BitVec.eq_of_toNat_eq
  rw [th_nn (by omega), Int64.toBitVec_toInt32, BitVec.signExtend_eq_setWidth_of_le _ (by decide), BitVec.toNat_setWidth, e1]
  exact Nat.mod_eq_of_lt (by omega)
theorem th_or_eq {r q : Int64} {f : Nat} : ∀ {k : Nat}, (∀ i : Nat, i < k → th_nb r (f + i) = th_nb q (f + i)) → th_or r f k = th_or q f k
  | 0, _ => rfl
  | k + 1, h => by
    show th_or r f k ||| 2 ^ th_nb r (f + k) = th_or q f k ||| 2 ^ th_nb q (f + k)
    rw [th_or_eq (k := k) (fun i hi => h i (by omega)), h k (by omega)]
theorem th_mnb2 {r : Int64} {n j : Nat} (hn : n < 16) (hj : j < n) : th_nb (r &&& ((1 : Int64) <<< ((4 * nI n).toInt64 &&& 63) - 1)) j = th_nb r j := by
  unfold th_nb
  obtain ⟨k, rfl⟩ : ∃ k, n = j + (k + 1) := ⟨n - j - 1, by omega⟩
  rw [th_mnat hn, Nat.pow_add, Nat.mod_mul_right_div_self, Nat.mod_mod_of_dvd _ ⟨16 ^ k, by rw [Nat.pow_succ, Nat.mul_comm]⟩]
set_option maxRecDepth 100000 in
set_option maxHeartbeats 4000000 in
theorem th_isl2 {d : Nat} {s : Int32} {σ : tm_S} : WM d 53 [.int s] σ (fun q σ' => ((q = some (.int 1) ∧ (0 ≤ s.toInt ∧ s.toInt < 6)) ∨ (q = some (.int 0) ∧ ¬ (0 ≤ s.toInt ∧ s.toInt < 6))) ∧ σ = σ') := by
  show WP d 53 0 [(0, .int s)] [] σ _
  refine wp_ldi rfl tm_m0 ?_
  refine wq_iflt rfl (fun h1 => ?_) (fun h1 => ?_)
  · have g1 : (s).toInt < 0 := tn_ltI.mp h1
    refine wq_con (x := 0) rfl (by decide) ?_
    exact wp_reti rfl (th_n0 rfl) ⟨Or.inr ⟨rfl, fun hk => by omega⟩, rfl⟩
  · have g1 : ¬ (s).toInt < 0 := fun g => h1 (tn_ltI.mpr g)
    refine wp_ldi rfl tm_m0 ?_
    refine wq_con (x := 6) rfl (by decide) ?_
    refine wq_icge rfl (fun h7 => ?_) (fun h7 => ?_)
    · have g7 : 6 ≤ (s).toInt := tn_leI.mp h7
      refine wq_con (x := 0) rfl (by decide) ?_
      exact wp_reti rfl (th_n0 rfl) ⟨Or.inr ⟨rfl, fun hk => by omega⟩, rfl⟩
    · have g7 : ¬ 6 ≤ (s).toInt := fun g => h7 (tn_leI.mpr g)
      refine wq_con (x := 1) rfl (by decide) ?_
      refine wp_go rfl ?_
      exact wp_reti rfl (th_n1 rfl) ⟨Or.inl ⟨rfl, by omega, by omega⟩, rfl⟩
set_option maxRecDepth 100000 in
set_option maxHeartbeats 4000000 in
theorem th_isl3 {d : Nat} {s : Int32} {σ : tm_S} : WM d 186 [.ref 11, .int s] σ (fun q σ' => ((q = some (.int 1) ∧ (0 ≤ s.toInt ∧ s.toInt < 6)) ∨ (q = some (.int 0) ∧ ¬ (0 ≤ s.toInt ∧ s.toInt < 6))) ∧ σ = σ') := by
  show WP d 186 0 [(0, .ref 11), (1, .int s)] [] σ _
  refine wp_ldi rfl tm_m1 ?_
  refine wq_iflt rfl (fun h1 => ?_) (fun h1 => ?_)
  · have g1 : (s).toInt < 0 := tn_ltI.mp h1
    refine wq_con (x := 0) rfl (by decide) ?_
    exact wp_reti rfl (th_n0 rfl) ⟨Or.inr ⟨rfl, fun hk => by omega⟩, rfl⟩
  · have g1 : ¬ (s).toInt < 0 := fun g => h1 (tn_ltI.mpr g)
    refine wp_ldi rfl tm_m1 ?_
    refine wq_con (x := 6) rfl (by decide) ?_
    refine wq_icge rfl (fun h7 => ?_) (fun h7 => ?_)
    · have g7 : 6 ≤ (s).toInt := tn_leI.mp h7
      refine wq_con (x := 0) rfl (by decide) ?_
      exact wp_reti rfl (th_n0 rfl) ⟨Or.inr ⟨rfl, fun hk => by omega⟩, rfl⟩
    · have g7 : ¬ 6 ≤ (s).toInt := fun g => h7 (tn_leI.mpr g)
      refine wq_con (x := 1) rfl (by decide) ?_
      refine wp_go rfl ?_
      exact wp_reti rfl (th_n1 rfl) ⟨Or.inl ⟨rfl, by omega, by omega⟩, rfl⟩
set_option maxRecDepth 100000 in
set_option maxHeartbeats 4000000 in
theorem th_isrow2 {d : Nat} {r : Int64} {n : Nat} {σ : tm_S} (hn : n ≤ 12) : WM (d + 2) 54 [.long r, .int (nI n)] σ (fun q σ' => ((q = some (.int 1) ∧ (th_or r 0 n = 2 ^ n - 1)) ∨ (q = some (.int 0) ∧ ¬ (th_or r 0 n = 2 ^ n - 1))) ∧ σ = σ') := by
  show WP (d + 2) 54 0 [(0, .long r), (2, .int (nI n))] [] σ _
  have hl : th_or r 0 n < 2 ^ 16 := th_or_lt (fun i _ => th_nb16 r (0 + i))
  have hp : 2 ^ n - 1 < 4096 := by have := Nat.pow_le_pow_right (n := 2) (by decide) hn; omega
  refine wp_ldl rfl tm_m0 ?_
  refine wq_con (x := nI 0) rfl (by decide) ?_
  refine wp_ldi rfl tm_m1 ?_
  refine wq_cals [.long r, .int (nI 0), .int (nI n)] rfl rfl rfl rfl rfl rfl (th_nof (f := 0) (k := n) (by omega)) ?_
  rintro _ _ ⟨rfl, rfl⟩
  refine wq_con (x := 1) rfl (by decide) ?_
  refine wp_ldi rfl tm_m1 ?_
  refine wq_ishl rfl ?_
  refine wq_con (x := 1) rfl (by decide) ?_
  refine wq_isub rfl ?_
  rw [th_all1 n hn]
  refine wq_icne rfl (fun h11 => ?_) (fun h11 => ?_)
  · refine wq_con (x := 0) rfl (by decide) ?_
    exact wp_reti rfl (th_n0 rfl) ⟨Or.inr ⟨rfl, fun hk => h11 (by rw [hk])⟩, rfl⟩
  · refine wq_con (x := 1) rfl (by decide) ?_
    refine wp_go rfl ?_
    exact wp_reti rfl (th_n1 rfl) ⟨Or.inl ⟨rfl, (nI_eq (by omega) (by omega)).mp (Classical.not_not.mp h11)⟩, rfl⟩
/-- what row answers -/
def tp_row (n : Nat) (s : Int32) (r : Int64) (z : Int32) : Prop := (z = 1 ∧ (0 ≤ s.toInt ∧ s.toInt < 6) ∧ th_or r 0 n = 2 ^ n - 1) ∨ (z = 0 ∧ ¬ ((0 ≤ s.toInt ∧ s.toInt < 6) ∧ th_or r 0 n = 2 ^ n - 1))
theorem tp_row_u {n : Nat} {s z w : Int32} {r : Int64} (h : tp_row n s r z) (g : tp_row n s r w) : z = w := by
  rcases h with ⟨h1, h2⟩ | ⟨h1, h2⟩ <;> rcases g with ⟨g1, g2⟩ | ⟨g1, g2⟩
  · rw [h1, g1]
  · exact absurd h2 g2
  · exact absurd g2 h2
  · rw [h1, g1]
set_option maxRecDepth 100000 in
set_option maxHeartbeats 4000000 in
theorem tf_x_row {n : Nat} {s : Int32} {r : Int64} {σ : tm_S} (h : th_IV n σ) : WM 90 52 [.ref 0, .int s, .long r] σ (fun q σ' => ∃ z : Int32, q = some (.int z) ∧ tp_row n s r z ∧ th_IV n σ') := by
  have ⟨h3, hn, hT, hS⟩ := h
  have hN0 := th_N0 hT hn
  show WP 90 52 0 [(0, .ref 0), (1, .int s), (2, .long r)] [] σ _
  refine wp_lda rfl tm_m0 ?_
  refine wq_getr (p := 1) rfl rfl (f := 0) rfl rfl ?_
  refine wq_calv [] rfl rfl rfl rfl rfl rfl rfl rfl rfl (th_size) ?_
  rintro _ _ ⟨rfl, rfl⟩
  rw [hN0]
  refine wq_sti [(4, .int (nI n)), (0, .ref 0), (1, .int s), (2, .long r)] rfl rfl ?_
  refine wp_ldl rfl tm_m3 ?_
  refine wq_lco (x := 1) rfl (by decide) ?_
  refine wq_con (x := 4) rfl (by decide) ?_
  refine wp_ldi rfl tm_m0 ?_
  refine wq_imul rfl ?_
  refine wq_lshl rfl ?_
  refine wq_lco (x := 1) rfl (by decide) ?_
  refine wq_lsub rfl ?_
  refine wq_land rfl ?_
  have he : th_or (r &&& ((1 <<< (((4 * (nI n)) : Int32).toInt64 &&& 63)) - 1)) 0 n = th_or r 0 n := th_or_eq (fun i hi => th_mnb2 (by omega) (by omega))
  generalize hr : r &&& ((1 <<< (((4 * (nI n)) : Int32).toInt64 &&& 63)) - 1) = row at he
  refine wq_stl [(5, .long row), (4, .int (nI n)), (0, .ref 0), (1, .int s), (2, .long r)] rfl rfl ?_
  refine wp_ldi rfl tm_m3 ?_
  refine wq_cals [.int s] rfl rfl rfl rfl rfl rfl (th_isl2) ?_
  rintro r22 _ ⟨hr22, rfl⟩
  obtain ⟨z22, rfl, hz22, hn22⟩ : ∃ z : Int32, r22 = some (.int z) ∧ (¬ z = 0 → (0 ≤ s.toInt ∧ s.toInt < 6)) ∧ (z = 0 → ¬ (0 ≤ s.toInt ∧ s.toInt < 6)) := by
    rcases hr22 with ⟨rfl, g⟩ | ⟨rfl, g⟩
    · exact ⟨_, rfl, fun _ => g, fun e => absurd e (by decide)⟩
    · exact ⟨_, rfl, fun e => absurd rfl e, fun _ => g⟩
  refine wq_ifeq rfl (fun h25 => ?_) (fun h25 => ?_)
  · refine wq_con (x := 0) rfl (by decide) ?_
    refine wp_reti rfl (th_n0 rfl) ⟨_, rfl, Or.inr ⟨rfl, fun hk => ?_⟩, h⟩
    first | exact hn22 h25 hk.1 | exact hn32 (Classical.not_not.mp h35) (by rw [he]; exact hk.2)
  · refine wp_ldl rfl tm_m0 ?_
    refine wp_ldi rfl tm_m1 ?_
    refine wq_cals [.long row, .int (nI n)] rfl rfl rfl rfl rfl rfl (WM.deep (th_isrow2 (d := 0) hn) (by decide)) ?_
    rintro r32 _ ⟨hr32, rfl⟩
    obtain ⟨z32, rfl, hz32, hn32⟩ : ∃ z : Int32, r32 = some (.int z) ∧ (¬ z = 0 → (th_or row 0 n = 2 ^ n - 1)) ∧ (z = 0 → ¬ (th_or row 0 n = 2 ^ n - 1)) := by
      rcases hr32 with ⟨rfl, g⟩ | ⟨rfl, g⟩
      · exact ⟨_, rfl, fun _ => g, fun e => absurd e (by decide)⟩
      · exact ⟨_, rfl, fun e => absurd rfl e, fun _ => g⟩
    refine wq_ifne rfl (fun h35 => ?_) (fun h35 => ?_)
    · have hs := hz22 h25
      have hf := hz32 h35
      have hd : th_dg 12 row := by
        intro i
        by_cases hi : i < n
        · have := th_or_full hf hi
          omega
        · rw [← hr, th_mnb (by omega) (by omega)]
          decide
      refine wp_lda rfl tm_m2 ?_
      refine wq_getr (p := 12) rfl rfl (f := 5) rfl rfl ?_
      refine wp_ldi rfl tm_m3 ?_
      refine wp_ldl rfl tm_m0 ?_
      refine wp_last rfl rfl (tn_in hs.1 hs.2) ?_
      refine wq_con (x := 1) rfl (by decide) ?_
      exact wp_reti rfl (th_n1 rfl) ⟨_, rfl, Or.inl ⟨rfl, hs, by rw [← he]; exact hf⟩, h3, hn, ⟨hT.1, hT.2⟩, th_SLs hS hd⟩
    · refine wq_con (x := 0) rfl (by decide) ?_
      refine wp_reti rfl (th_n0 rfl) ⟨_, rfl, Or.inr ⟨rfl, fun hk => ?_⟩, h⟩
      first | exact hn22 h25 hk.1 | exact hn32 (Classical.not_not.mp h35) (by rw [he]; exact hk.2)
set_option maxRecDepth 100000 in
set_option maxHeartbeats 4000000 in
theorem tf_m_row {n : Nat} {s : Int32} {r : Int64} {σ : tm_S} (h : th_IV n σ) : WM 90 185 [.ref 11, .int s, .long r] σ (fun q σ' => ∃ z : Int32, q = some (.int z) ∧ tp_row n s r z ∧ th_IV n σ') := by
  have ⟨h3, hn, hT, hS⟩ := h
  have hp : 2 ^ n ≤ 4096 := Nat.pow_le_pow_right (n := 2) (by decide) hn
  have k87 : ∀ (m i : Nat) (t : tm_S), i + m = n → (0 ≤ s.toInt ∧ s.toInt < 6) → th_or r 0 n = 2 ^ n - 1 → tv_TY (tc_T (n : Int)) t → tv_un σ t [(11, 0), (50, 64), (51, 64)] → WP 90 185 87 [(5, .int (nI i)), (0, .ref 11), (1, .int s), (2, .long r)] [] t (fun q σ' => ∃ z : Int32, q = some (.int z) ∧ tp_row n s r z ∧ th_IV n σ') := by
    intro m
    induction m with
    | zero =>
      intro i t hi hs hf Ft Fu
      obtain rfl : i = n := by omega
      have ei : (nI i).toInt = i := nI_toInt (by omega)
      have e12 : (12 * s).toInt = 12 * s.toInt := by rw [tn_mul (by show (-2147483648 : Int) ≤ 12 * s.toInt; omega) (by show 12 * s.toInt ≤ 2147483647; omega)]; rfl
      have e13 : (12 * s + nI i).toInt = 12 * s.toInt + i := by rw [tn_add (by omega) (by omega), e12, ei]
      refine wp_ldi rfl tm_m0 ?_
      refine wp_lda rfl tm_m1 ?_
      refine wq_geti rfl rfl (f := 1) rfl rfl (Or.inl rfl) ?_
      rw [th_N1 Ft hn]
      refine wq_icge rfl (fun h93 => ?_) (fun h93 => absurd (nI_le (Nat.le_refl _) (by omega)) h93)
      refine wp_lda rfl tm_m1 ?_
      refine wq_getr (p := 50) rfl rfl (f := 9) rfl rfl ?_
      refine wp_ldi rfl tm_m2 ?_
      refine wq_con (x := 1) rfl (by decide) ?_
      refine wp_zast rfl rfl (tn_in hs.1 hs.2) (Or.inr rfl) ?_
      refine wq_con (x := 1) rfl (by decide) ?_
      exact wp_reti rfl (th_n1 rfl) ⟨_, rfl, Or.inl ⟨rfl, hs, hf⟩, h3, hn, tv_TY_row Ft (ty := (0, 1)) (fun _ => rfl) (by decide) (by decide), th_SLu hT hS (tv_un_tr Fu (tv_un_ar rfl rfl)) (by decide)⟩
    | succ m ih =>
      intro i t hi hs hf Ft Fu
      have ei : (nI i).toInt = i := nI_toInt (by omega)
      have e12 : (12 * s).toInt = 12 * s.toInt := by rw [tn_mul (by show (-2147483648 : Int) ≤ 12 * s.toInt; omega) (by show 12 * s.toInt ≤ 2147483647; omega)]; rfl
      have e13 : (12 * s + nI i).toInt = 12 * s.toInt + i := by rw [tn_add (by omega) (by omega), e12, ei]
      refine wp_ldi rfl tm_m0 ?_
      refine wp_lda rfl tm_m1 ?_
      refine wq_geti rfl rfl (f := 1) rfl rfl (Or.inl rfl) ?_
      rw [th_N1 Ft hn]
      refine wq_icge rfl (fun h93 => absurd h93 (nI_ge (by omega) (by omega))) (fun h93 => ?_)
      refine wp_lda rfl tm_m1 ?_
      refine wq_getr (p := 51) rfl rfl (f := 10) rfl rfl ?_
      refine wq_con (x := 12) rfl (by decide) ?_
      refine wp_ldi rfl tm_m2 ?_
      refine wq_imul rfl ?_
      refine wp_ldi rfl tm_m0 ?_
      refine wq_iadd rfl ?_
      refine wp_ldl rfl tm_m3 ?_
      refine wq_con (x := 4) rfl (by decide) ?_
      refine wp_ldi rfl tm_m0 ?_
      refine wq_imul rfl ?_
      refine wq_lshr rfl ?_
      refine wq_lco (x := 15) rfl (by decide) ?_
      refine wq_land rfl ?_
      refine wp_l2i rfl ?_
      rw [th_note3 (by omega)]
      refine wp_iast rfl rfl (tn_in (by rw [e13]; omega) (by rw [e13]; omega)) ?_
      refine wq_inc (c := 1) [(5, .int ((nI i) + 1)), (0, .ref 11), (1, .int s), (2, .long r)] rfl tm_m0 rfl rfl ?_
      refine wp_go rfl ?_
      rw [nI_1]
      exact WP.less (ih (i + 1) _ (by omega) hs hf (tv_TY_row Ft (ty := ((-2147483648), 2147483647)) (fun _ => rfl) (tn_rng _).1 (tn_rng _).2) (tv_un_tr Fu (tv_un_ar rfl rfl))) (by simp)
  have k21 : ∀ (m i : Nat) (t : tm_S), i + m = n → (0 ≤ s.toInt ∧ s.toInt < 6) → (∀ k : Nat, k < i → th_nb r k < n) → tv_TY (tc_T (n : Int)) t → tv_un σ t [(11, 0), (50, 64), (51, 64)] → WP 90 185 21 [(5, .int (nI i)), (4, .int (nI (th_or r 0 i))), (0, .ref 11), (1, .int s), (2, .long r)] [] t (fun q σ' => ∃ z : Int32, q = some (.int z) ∧ tp_row n s r z ∧ th_IV n σ') := by
    intro m
    induction m with
    | zero =>
      intro i t hi hs hk Ft Fu
      obtain rfl : i = n := by omega
      have hlo : th_or r 0 i < 2 ^ i := th_or_lt (fun k hk2 => by rw [Nat.zero_add]; exact hk k hk2)
      refine wp_ldi rfl tm_m0 ?_
      refine wp_lda rfl tm_m2 ?_
      refine wq_geti rfl rfl (f := 1) rfl rfl (Or.inl rfl) ?_
      rw [th_N1 Ft hn]
      refine wq_icge rfl (fun h27 => ?_) (fun h27 => absurd (nI_le (Nat.le_refl _) (by omega)) h27)
      refine wp_ldi rfl tm_m1 ?_
      refine wq_con (x := 1) rfl (by decide) ?_
      refine wp_lda rfl tm_m2 ?_
      refine wq_geti rfl rfl (f := 1) rfl rfl (Or.inl rfl) ?_
      rw [th_N1 Ft hn]
      refine wq_ishl rfl ?_
      refine wq_con (x := 1) rfl (by decide) ?_
      refine wq_isub rfl ?_
      rw [th_all1 _ hn]
      refine wq_iceq rfl (fun h79 => ?_) (fun h79 => ?_)
      · refine wq_con (x := nI 0) rfl (by decide) ?_
        refine wq_sti [(5, .int (nI 0)), (4, .int (nI (th_or r 0 i))), (0, .ref 11), (1, .int s), (2, .long r)] rfl rfl ?_
        exact WP.less (k87 i 0 t (by omega) hs ((nI_eq (by omega) (by omega)).mp h79) Ft Fu) (by simp)
      · refine wq_con (x := 0) rfl (by decide) ?_
        exact wp_reti rfl (th_n0 rfl) ⟨_, rfl, Or.inr ⟨rfl, fun hk2 => h79 (by rw [hk2.2])⟩, ⟨h3, hn, Ft, th_SLu hT hS Fu (by decide)⟩⟩
    | succ m ih =>
      intro i t hi hs hk Ft Fu
      have hlo : th_or r 0 i < 2 ^ n := th_or_lt (fun k hk2 => by rw [Nat.zero_add]; exact hk k hk2)
      refine wp_ldi rfl tm_m0 ?_
      refine wp_lda rfl tm_m2 ?_
      refine wq_geti rfl rfl (f := 1) rfl rfl (Or.inl rfl) ?_
      rw [th_N1 Ft hn]
      refine wq_icge rfl (fun h27 => absurd h27 (nI_ge (by omega) (by omega))) (fun h27 => ?_)
      refine wp_ldl rfl tm_m4 ?_
      refine wq_con (x := 4) rfl (by decide) ?_
      refine wp_ldi rfl tm_m0 ?_
      refine wq_imul rfl ?_
      refine wq_lshr rfl ?_
      refine wq_lco (x := 15) rfl (by decide) ?_
      refine wq_land rfl ?_
      refine wp_l2i rfl ?_
      rw [th_note3 (by omega)]
      refine wq_sti [(6, .int (nI (th_nb r i))), (5, .int (nI i)), (4, .int (nI (th_or r 0 i))), (0, .ref 11), (1, .int s), (2, .long r)] rfl rfl ?_
      refine wp_ldi rfl tm_m0 ?_
      refine wp_lda rfl tm_m3 ?_
      refine wq_geti rfl rfl (f := 1) rfl rfl (Or.inl rfl) ?_
      rw [th_N1 Ft hn]
      refine wq_iclt rfl (fun h49 => ?_) (fun h49 => ?_)
      · have hx : th_nb r i < n := by
          rcases Nat.lt_or_ge (th_nb r i) n with g | g
          · exact g
          · exact absurd h49 (nI_nlt g (by have := th_nb16 r i; omega))
        refine wp_ldi rfl tm_m2 ?_
        refine wq_con (x := 1) rfl (by decide) ?_
        refine wp_ldi rfl tm_m0 ?_
        refine wq_ishl rfl ?_
        refine wq_ior rfl ?_
        rw [th_nIor (show th_or r 0 i < 2 ^ 16 by omega) (th_nb16 r i), show th_or r 0 i ||| 2 ^ th_nb r i = th_or r 0 (i + 1) by show _ = th_or r 0 i ||| 2 ^ th_nb r (0 + i); rw [Nat.zero_add]]
        refine wq_sti [(4, .int (nI (th_or r 0 (i + 1)))), (6, .int (nI (th_nb r i))), (5, .int (nI i)), (0, .ref 11), (1, .int s), (2, .long r)] rfl rfl ?_
        refine wq_inc (c := 1) [(5, .int ((nI i) + 1)), (4, .int (nI (th_or r 0 (i + 1)))), (6, .int (nI (th_nb r i))), (0, .ref 11), (1, .int s), (2, .long r)] rfl tm_m2 rfl rfl ?_
        refine wp_go rfl ?_
        rw [nI_1]
        refine WP.less (ih (i + 1) t (by omega) hs (fun k k1 => ?_) Ft Fu) (by simp)
        rcases Nat.lt_or_ge k i with e | e
        · exact hk k e
        · obtain rfl : k = i := by omega
          exact hx
      · refine wq_con (x := 0) rfl (by decide) ?_
        refine wp_reti rfl (th_n0 rfl) ⟨_, rfl, Or.inr ⟨rfl, fun hk2 => h49 ?_⟩, ⟨h3, hn, Ft, th_SLu hT hS Fu (by decide)⟩⟩
        have := th_or_full hk2.2 (i := i) (by omega)
        exact nI_lt this (by omega)
  show WP 90 185 0 [(0, .ref 11), (1, .int s), (2, .long r)] [] σ _
  refine wp_lda rfl tm_m0 ?_
  refine wq_con (x := 0) rfl (by decide) ?_
  refine wq_puti rfl rfl (f := 0) rfl rfl ?_
  refine wp_lda rfl tm_m0 ?_
  refine wp_ldi rfl tm_m1 ?_
  refine wq_calv [.int s] rfl rfl rfl rfl rfl rfl rfl rfl rfl (th_isl3) ?_
  rintro r7 _ ⟨hr7, rfl⟩
  obtain ⟨z7, rfl, hz7, hn7⟩ : ∃ z : Int32, r7 = some (.int z) ∧ (¬ z = 0 → (0 ≤ s.toInt ∧ s.toInt < 6)) ∧ (z = 0 → ¬ (0 ≤ s.toInt ∧ s.toInt < 6)) := by
    rcases hr7 with ⟨rfl, g⟩ | ⟨rfl, g⟩
    · exact ⟨_, rfl, fun _ => g, fun e => absurd e (by decide)⟩
    · exact ⟨_, rfl, fun e => absurd rfl e, fun _ => g⟩
  refine wq_ifne rfl (fun h10 => ?_) (fun h10 => ?_)
  · refine wq_con (x := nI 0) rfl (by decide) ?_
    refine wq_sti [(4, .int (nI 0)), (0, .ref 11), (1, .int s), (2, .long r)] rfl rfl ?_
    refine wq_con (x := nI 0) rfl (by decide) ?_
    refine wq_sti [(5, .int (nI 0)), (4, .int (nI 0)), (0, .ref 11), (1, .int s), (2, .long r)] rfl rfl ?_
    exact WP.less (k21 n 0 _ (by omega) (hz7 h10) (fun k hk => absurd hk (by omega)) (tv_TY_sI hT tv_z0 tv_z1) (tv_un_fI rfl)) (by simp [th_or])
  · refine wq_con (x := 0) rfl (by decide) ?_
    exact wp_reti rfl (th_n0 rfl) ⟨_, rfl, Or.inr ⟨rfl, fun hk => hn7 (Classical.not_not.mp h10) hk.1⟩, th_IV0 h⟩
