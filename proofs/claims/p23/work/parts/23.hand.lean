/-! ===== methods by hand, with loops ===== -/
theorem tn_1 : (1 : Int32).toInt = 1 := by decide
theorem tn_2 : (2 : Int32).toInt = 2 := by decide
theorem tn_add1 {x : Int32} (h : x.toInt < 2147483647) : (x + 1).toInt = x.toInt + 1 := by
  have h1 := (tn_rng x).1
  rw [tn_add (by rw [tn_1]; omega) (by rw [tn_1]; omega), tn_1]
theorem tn_dbl {x : Int32} (h0 : 0 ≤ x.toInt) (h : x.toInt ≤ 1000000) : (2 * x + 1).toInt = 2 * x.toInt + 1 := by
  have e : (2 * x).toInt = 2 * x.toInt := by rw [tn_mul (by rw [tn_2]; omega) (by rw [tn_2]; omega), tn_2]
  rw [tn_add1 (by rw [e]; omega), e]
theorem tn_leI {x y : Int32} : x ≤ y ↔ x.toInt ≤ y.toInt := Int32.le_iff_toInt_le
theorem tn_ltI {x y : Int32} : x < y ↔ x.toInt < y.toInt := Int32.lt_iff_toInt_lt
theorem tn_dec {x : Int32} (h : ¬ x = 0) : (x &&& (x - 1)).toBitVec.toNat < x.toBitVec.toNat := by
  have h1 : x.toBitVec.toNat ≠ 0 := fun e => h (Int32.toBitVec_inj.mp (BitVec.eq_of_toNat_eq e))
  have h2 := tn_lt x
  rw [tn_and]
  have e : (x - 1).toBitVec.toNat = x.toBitVec.toNat - 1 := by
    rw [Int32.toBitVec_sub, BitVec.toNat_sub]
    show (2 ^ 32 - 1 + x.toBitVec.toNat) % 2 ^ 32 = _
    omega
  rw [e]
  exact Nat.lt_of_le_of_lt Nat.and_le_right (by omega)
set_option maxRecDepth 100000 in
set_option maxHeartbeats 4000000 in
theorem th_ones_l {d : Nat} {σ : tm_S} {s : Int32} : ∀ (n : Nat) (k x : Int32), x.toBitVec.toNat ≤ n → WP d 174 4 [(3, .int x), (2, .int k), (0, .ref 11), (1, .int s)] [] σ (fun r σ' => (∃ z : Int32, r = some (.int z)) ∧ σ = σ') := by
  intro n
  induction n with
  | zero =>
    intro k x hx
    refine wp_ldi rfl tm_m0 ?_
    refine wq_ifeq rfl (fun h5 => ?_) (fun h5 => absurd (Int32.toBitVec_inj.mp (BitVec.eq_of_toNat_eq (Nat.le_zero.mp hx))) h5)
    refine wp_ldi rfl tm_m1 ?_
    exact wp_reti rfl (th_nI rfl) ⟨⟨_, rfl⟩, rfl⟩
  | succ n ih =>
    intro k x hx
    refine wp_ldi rfl tm_m0 ?_
    refine wq_ifeq rfl (fun h5 => ?_) (fun h5 => ?_)
    · refine wp_ldi rfl tm_m1 ?_
      exact wp_reti rfl (th_nI rfl) ⟨⟨_, rfl⟩, rfl⟩
    · refine wp_ldi rfl tm_m1 ?_
      refine wq_con (x := 1) rfl (by decide) ?_
      refine wq_iadd rfl ?_
      refine wq_sti [(2, .int (k + 1)), (3, .int x), (0, .ref 11), (1, .int s)] rfl rfl ?_
      refine wp_ldi rfl tm_m1 ?_
      refine wp_ldi rfl tm_m1 ?_
      refine wq_con (x := 1) rfl (by decide) ?_
      refine wq_isub rfl ?_
      refine wq_iand rfl ?_
      refine wq_sti [(3, .int (x &&& (x - 1))), (2, .int (k + 1)), (0, .ref 11), (1, .int s)] rfl rfl ?_
      refine wp_go rfl ?_
      exact WP.less (ih (k + 1) (x &&& (x - 1)) (Nat.le_of_lt_succ (Nat.lt_of_lt_of_le (tn_dec h5) hx))) (by simp)
set_option maxRecDepth 100000 in
set_option maxHeartbeats 4000000 in
theorem th_ones {d : Nat} {σ : tm_S} {s : Int32} : WM d 174 [.ref 11, .int s] σ (fun r σ' => (∃ z : Int32, r = some (.int z)) ∧ σ = σ') := by
  show WP d 174 0 [(0, .ref 11), (1, .int s)] [] σ _
  refine wq_con (x := 0) rfl (by decide) ?_
  refine wq_sti [(2, .int 0), (0, .ref 11), (1, .int s)] rfl rfl ?_
  refine wp_ldi rfl tm_m2 ?_
  refine wq_sti [(3, .int s), (2, .int 0), (0, .ref 11), (1, .int s)] rfl rfl ?_
  exact WP.less (th_ones_l (s := s) _ 0 s (Nat.le_refl _)) (by simp)
set_option maxRecDepth 100000 in
set_option maxHeartbeats 4000000 in
theorem th_sink_l {d : Nat} {I : tm_S → Prop} (hI : ∀ σ k x, I σ → I (tm_sI σ 28 k x)) {va tp sz : Int32} (hsz : sz.toInt ≤ 6561) : ∀ (n : Nat) (at_ ch : Int32) (σ : tm_S), I σ → 0 ≤ at_.toInt → at_.toInt ≤ 6560 → 0 ≤ ch.toInt → 6561 ≤ ch.toInt + n → WP d 85 17 [(5, .int ch), (4, .int at_), (3, .int va), (0, .ref 5), (1, .int tp), (2, .int sz)] [] σ (fun r σ' => r = none ∧ I σ') := by
  have fin : ∀ (at_ ch : Int32) (σ : tm_S), I σ → 0 ≤ at_.toInt → at_.toInt ≤ 6560 → WP d 85 96 [(5, .int ch), (4, .int at_), (3, .int va), (0, .ref 5), (1, .int tp), (2, .int sz)] [] σ (fun r σ' => r = none ∧ I σ') := by
    intro at_ ch σ hσ h1 h2
    refine wp_lda rfl tm_m3 ?_
    refine wq_getr (p := 28) rfl rfl (f := 0) rfl rfl ?_
    refine wp_ldi rfl tm_m1 ?_
    refine wp_ldi rfl tm_m2 ?_
    refine wp_iast rfl rfl (tn_in h1 (by omega)) ?_
    exact wp_retv rfl ⟨rfl, hI _ _ _ hσ⟩
  intro n
  induction n with
  | zero =>
    intro at_ ch σ hσ h1 h2 h3 h4
    refine wp_ldi rfl tm_m0 ?_
    refine wp_ldi rfl tm_m5 ?_
    refine wq_icge rfl (fun h20 => ?_) (fun h20 => absurd (tn_leI.mpr (by omega)) h20)
    exact fin _ _ _ hσ h1 h2
  | succ n ih =>
    intro at_ ch σ hσ h1 h2 h3 h4
    have k53 : ∀ ch2 : Int32, ch.toInt ≤ ch2.toInt → ch2.toInt ≤ 6560 → WP d 85 53 [(5, .int ch2), (4, .int at_), (3, .int va), (0, .ref 5), (1, .int tp), (2, .int sz)] [] σ (fun r σ' => r = none ∧ I σ') := by
      intro ch2 g1 g2
      have e1 := tn_dbl (x := ch2) (by omega) (by omega)
      refine wp_lda rfl tm_m3 ?_
      refine wq_getr (p := 28) rfl rfl (f := 0) rfl rfl ?_
      refine wp_ldi rfl tm_m0 ?_
      refine wp_iald rfl rfl (tn_in (by omega) (by omega)) ?_
      refine wp_ldi rfl tm_m2 ?_
      refine wq_icgt rfl (fun h61 => ?_) (fun h61 => ?_)
      · refine wp_lda rfl tm_m3 ?_
        refine wq_getr (p := 28) rfl rfl (f := 0) rfl rfl ?_
        refine wp_ldi rfl tm_m1 ?_
        refine wp_lda rfl tm_m3 ?_
        refine wq_getr (p := 28) rfl rfl (f := 0) rfl rfl ?_
        refine wp_ldi rfl tm_m0 ?_
        refine wp_iald rfl rfl (tn_in (by omega) (by omega)) ?_
        refine wp_iast rfl rfl (tn_in h1 (by omega)) ?_
        refine wp_ldi rfl tm_m0 ?_
        refine wq_sti [(4, .int ch2), (5, .int ch2), (3, .int va), (0, .ref 5), (1, .int tp), (2, .int sz)] rfl rfl ?_
        refine wq_con (x := 2) rfl (by decide) ?_
        refine wp_ldi rfl tm_m1 ?_
        refine wq_imul rfl ?_
        refine wq_con (x := 1) rfl (by decide) ?_
        refine wq_iadd rfl ?_
        refine wq_sti [(5, .int ((2 * ch2) + 1)), (4, .int ch2), (3, .int va), (0, .ref 5), (1, .int tp), (2, .int sz)] rfl rfl ?_
        refine wp_go rfl ?_
        exact WP.less (ih ch2 ((2 * ch2) + 1) _ (hI _ _ _ hσ) (by omega) g2 (by omega) (by omega)) (by simp)
      · refine wp_go rfl ?_
        exact WP.less (fin at_ ch2 _ hσ h1 h2) (by simp)
    refine wp_ldi rfl tm_m0 ?_
    refine wp_ldi rfl tm_m5 ?_
    refine wq_icge rfl (fun h20 => ?_) (fun h20 => ?_)
    · exact fin _ _ _ hσ h1 h2
    · have e20 : ch.toInt < sz.toInt := by rw [tn_leI] at h20; omega
      have e1 := tn_add1 (x := ch) (by omega)
      refine wp_ldi rfl tm_m0 ?_
      refine wq_con (x := 1) rfl (by decide) ?_
      refine wq_iadd rfl ?_
      refine wp_ldi rfl tm_m5 ?_
      refine wq_icge rfl (fun h28 => ?_) (fun h28 => ?_)
      · exact WP.less (k53 ch (by omega) (by omega)) (by simp)
      · have e28 : (ch + 1).toInt < sz.toInt := by rw [tn_leI] at h28; omega
        refine wp_lda rfl tm_m3 ?_
        refine wq_getr (p := 28) rfl rfl (f := 0) rfl rfl ?_
        refine wp_ldi rfl tm_m0 ?_
        refine wq_con (x := 1) rfl (by decide) ?_
        refine wq_iadd rfl ?_
        refine wp_iald rfl rfl (tn_in (by omega) (by omega)) ?_
        refine wp_lda rfl tm_m3 ?_
        refine wq_getr (p := 28) rfl rfl (f := 0) rfl rfl ?_
        refine wp_ldi rfl tm_m0 ?_
        refine wp_iald rfl rfl (tn_in (by omega) (by omega)) ?_
        refine wq_icle rfl (fun h47 => ?_) (fun h47 => ?_)
        · exact WP.less (k53 ch (by omega) (by omega)) (by simp)
        · refine wq_inc (c := 1) [(5, .int (ch + 1)), (4, .int at_), (3, .int va), (0, .ref 5), (1, .int tp), (2, .int sz)] rfl tm_m0 rfl rfl ?_
          exact WP.less (k53 (ch + 1) (by omega) (by omega)) (by simp)
set_option maxRecDepth 100000 in
set_option maxHeartbeats 4000000 in
theorem th_sink {d : Nat} {I : tm_S → Prop} (hI : ∀ σ k x, I σ → I (tm_sI σ 28 k x)) {tp sz : Int32} (h1 : 0 ≤ tp.toInt) (h2 : tp.toInt ≤ 6560) (hsz : sz.toInt ≤ 6561) {σ : tm_S} (hσ : I σ) : WM d 85 [.ref 5, .int tp, .int sz] σ (fun r σ' => r = none ∧ I σ') := by
  show WP d 85 0 [(0, .ref 5), (1, .int tp), (2, .int sz)] [] σ _
  have e1 := tn_dbl (x := tp) h1 (by omega)
  refine wp_lda rfl tm_m0 ?_
  refine wq_getr (p := 28) rfl rfl (f := 0) rfl rfl ?_
  refine wp_ldi rfl tm_m1 ?_
  refine wp_iald rfl rfl (tn_in h1 (by omega)) ?_
  refine wq_sti [(3, .int (σ.1 28 tp.toNatClampNeg)), (0, .ref 5), (1, .int tp), (2, .int sz)] rfl rfl ?_
  refine wp_ldi rfl tm_m2 ?_
  refine wq_sti [(4, .int tp), (3, .int (σ.1 28 tp.toNatClampNeg)), (0, .ref 5), (1, .int tp), (2, .int sz)] rfl rfl ?_
  refine wq_con (x := 2) rfl (by decide) ?_
  refine wp_ldi rfl tm_m3 ?_
  refine wq_imul rfl ?_
  refine wq_con (x := 1) rfl (by decide) ?_
  refine wq_iadd rfl ?_
  refine wq_sti [(5, .int ((2 * tp) + 1)), (4, .int tp), (3, .int (σ.1 28 tp.toNatClampNeg)), (0, .ref 5), (1, .int tp), (2, .int sz)] rfl rfl ?_
  exact WP.less (th_sink_l (va := (σ.1 28 tp.toNatClampNeg)) (tp := tp) hI hsz 6561 tp ((2 * tp) + 1) _ hσ h1 h2 (by omega) (by omega)) (by simp)
