/-! ===== intervals: what both answer ===== -/
theorem th_sm_sp {c : Bool} {a : Nat} : ∀ k : Nat, th_sm (fun i => c && decide (i = a)) k = bif c && decide (a < k) then 1 else 0
  | 0 => by
    cases c <;> simp [th_sm]
  | k + 1 => by
    show th_sm (fun i => c && decide (i = a)) k + (bif c && decide (k = a) then 1 else 0) = _
    rw [th_sm_sp k]
    cases c with
    | false => rfl
    | true =>
      simp only [Bool.true_and]
      by_cases h : k = a
      · subst h
        simp
      · by_cases h2 : a < k
        · simp [h, h2, show a < k + 1 by omega]
        · simp [h, h2, show ¬ a < k + 1 by omega]
def th_ap (n x y : Nat) : Nat := if n < 2 * (if x < y then y - x else x - y) then n - (if x < y then y - x else x - y) else (if x < y then y - x else x - y)
/-- the pairs of x with the notes above it -/
def th_pF (n S d x i : Nat) : Bool := S.testBit x && (S.testBit (x + 1 + i) && decide (th_ap n x (x + 1 + i) = d))
def th_pt (n S d : Nat) : Nat → Nat
  | 0 => 0
  | x + 1 => th_pt n S d x + th_sm (th_pF n S d x) (n - 1 - x)
def th_pa (n S d x : Nat) : Bool := S.testBit x && (decide (x + d < n) && S.testBit (x + d))
def tg_pb (n S d x : Nat) : Bool := S.testBit x && (decide (¬ 2 * d = n) && (decide (x + (n - d) < n) && S.testBit (x + (n - d))))
theorem th_pin {n S d x : Nat} (h1 : 1 ≤ d) (h2 : 2 * d ≤ n) (hx : x < n) : th_sm (th_pF n S d x) (n - 1 - x) = (bif th_pa n S d x then 1 else 0) + (bif tg_pb n S d x then 1 else 0) := by
  have e : th_sm (th_pF n S d x) (n - 1 - x) = th_sm (fun i => ((S.testBit x && S.testBit (x + d)) && decide (i = d - 1)) || ((S.testBit x && (decide (¬ 2 * d = n) && S.testBit (x + (n - d)))) && decide (i = n - d - 1))) (n - 1 - x) := by
    refine th_sm_eq (fun i hi => ?_)
    unfold th_pF
    have ea : decide (th_ap n x (x + 1 + i) = d) = (decide (i = d - 1) || (decide (¬ 2 * d = n) && decide (i = n - d - 1))) := by
      apply Bool.eq_iff_iff.mpr
      simp only [Bool.or_eq_true, Bool.and_eq_true, decide_eq_true_eq]
      unfold th_ap
      rw [if_pos (show x < x + 1 + i by omega)]
      constructor
      · intro h
        split at h <;> omega
      · intro h
        split <;> omega
    rw [ea]
    by_cases g1 : i = d - 1
    · have g2 : x + 1 + i = x + d := by omega
      by_cases g3 : i = n - d - 1
      · have g4 : 2 * d = n := by omega
        simp [g1, g4, show x + 1 + (d - 1) = x + d by omega]
      · simp [g1, show x + 1 + (d - 1) = x + d by omega, show ¬ d - 1 = n - d - 1 by omega]
    · by_cases g3 : i = n - d - 1
      · have g5 : x + 1 + (n - d - 1) = x + (n - d) := by omega
        have g6 : ¬ n - d - 1 = d - 1 := by omega
        by_cases g4 : 2 * d = n
        · exact absurd g3 (by omega)
        · simp [g3, g4, g5, g6]
      · simp [g1, g3]
  rw [e, th_sm_add (fun i hi => ?_), th_sm_sp, th_sm_sp]
  · unfold th_pa tg_pb
    have e1 : decide (d - 1 < n - 1 - x) = decide (x + d < n) := decide_eq_decide.mpr (by omega)
    have e2 : decide (n - d - 1 < n - 1 - x) = decide (x + (n - d) < n) := decide_eq_decide.mpr (by omega)
    rw [e1, e2]
    congr 2
    · cases S.testBit x <;> cases decide (x + d < n) <;> cases S.testBit (x + d) <;> rfl
    · cases S.testBit x <;> cases decide (¬ 2 * d = n) <;> cases decide (x + (n - d) < n) <;> cases S.testBit (x + (n - d)) <;> rfl
  · by_cases g1 : i = d - 1
    · by_cases g3 : i = n - d - 1
      · have g4 : 2 * d = n := by omega
        simp [g4]
      · simp [g3]
    · simp [g1]
theorem th_ptA {n S d : Nat} (h1 : 1 ≤ d) (h2 : 2 * d ≤ n) : ∀ x : Nat, x ≤ n → th_pt n S d x = th_sm (th_pa n S d) x + th_sm (tg_pb n S d) x
  | 0, _ => rfl
  | x + 1, hx => by
    show th_pt n S d x + th_sm (th_pF n S d x) (n - 1 - x) = (th_sm (th_pa n S d) x + bif th_pa n S d x then 1 else 0) + (th_sm (tg_pb n S d) x + bif tg_pb n S d x then 1 else 0)
    rw [th_ptA h1 h2 x (by omega), th_pin h1 h2 (by omega)]
    omega
theorem th_pp {n S d : Nat} (hn : n ≤ 24) (hS : S < 2 ^ n) (h1 : 1 ≤ d) (h2 : 2 * d ≤ n) : th_po (S &&& th_R n S d) n = if 2 * d = n then 2 * th_pt n S d n else th_pt n S d n := by
  have eP : th_po (S &&& th_R n S d) n = th_sm (fun i => S.testBit i && S.testBit (i + (n - d))) d + th_sm (fun i => S.testBit (d + i) && S.testBit i) (n - d) := by
    have e0 : th_po (S &&& th_R n S d) n = th_sm (fun i => S.testBit i && S.testBit ((i + (n - d)) % n)) n := by
      unfold th_po
      refine th_sm_eq (fun i hi => ?_)
      rw [Nat.testBit_and, th_R_bit hn hS (by omega) i hi]
    have e1 := th_sm_sh (f := fun i => S.testBit i && S.testBit ((i + (n - d)) % n)) (a := d) (n := n - d)
    rw [show d + (n - d) = n by omega] at e1
    rw [e0, e1]
    congr 1
    · refine th_sm_eq (fun i hi => ?_)
      rw [Nat.mod_eq_of_lt (show i + (n - d) < n by omega)]
    · refine th_sm_eq (fun i hi => ?_)
      rw [show d + i + (n - d) = i + n by omega, Nat.add_mod_right, Nat.mod_eq_of_lt (by omega)]
  have eA : th_sm (th_pa n S d) n = th_sm (fun i => S.testBit (d + i) && S.testBit i) (n - d) := by
    have e1 := th_sm_sh (f := th_pa n S d) (a := n - d) (n := d)
    rw [show n - d + d = n by omega] at e1
    rw [e1, th_sm0 (n := d) (fun i hi => by unfold th_pa; simp [show ¬ n - d + i + d < n by omega]), Nat.add_zero]
    refine th_sm_eq (fun i hi => ?_)
    unfold th_pa
    rw [show i + d = d + i by omega]
    simp [show d + i < n by omega, Bool.and_comm]
  rw [eP, th_ptA h1 h2 n (Nat.le_refl _), eA]
  by_cases h : 2 * d = n
  · rw [if_pos h, th_sm0 (f := tg_pb n S d) (fun i hi => by unfold tg_pb; simp [h]), Nat.add_zero]
    have e2 : th_sm (fun i => S.testBit i && S.testBit (i + (n - d))) d = th_sm (fun i => S.testBit (d + i) && S.testBit i) (n - d) := by
      rw [show n - d = d by omega]
      refine th_sm_eq (fun i hi => ?_)
      rw [Nat.add_comm d i, Bool.and_comm]
    rw [e2]
    omega
  · rw [if_neg h]
    have e1 := th_sm_sh (f := tg_pb n S d) (a := d) (n := n - d)
    rw [show d + (n - d) = n by omega] at e1
    rw [e1, th_sm0 (f := fun i => tg_pb n S d (d + i)) (n := n - d) (fun i hi => by unfold tg_pb; simp [show ¬ d + i + (n - d) < n by omega]), Nat.add_zero]
    have e2 : th_sm (tg_pb n S d) d = th_sm (fun i => S.testBit i && S.testBit (i + (n - d))) d := by
      refine th_sm_eq (fun i hi => ?_)
      unfold tg_pb
      simp [h, show i + (n - d) < n by omega]
    rw [e2]
    omega
theorem tg_bk : (List.range 4096).all (fun S => decide (th_bit (nI S) = nI (th_po S 12))) = true := by decide +kernel
theorem th_bn {S : Nat} (h : S < 4096) : th_bit (nI S) = nI (th_po S 12) := of_decide_eq_true (List.all_eq_true.mp tg_bk S (List.mem_range.mpr h))
theorem th_po12 {S n : Nat} (hn : n ≤ 12) (h : S < 2 ^ n) : th_po S 12 = th_po S n := by
  have e1 := th_sm_sh (f := S.testBit) (a := n) (n := 12 - n)
  rw [show n + (12 - n) = 12 by omega] at e1
  unfold th_po
  rw [e1, th_sm0 (n := 12 - n) (fun i hi => Nat.testBit_lt_two_pow (Nat.lt_of_lt_of_le h (Nat.pow_le_pow_right (by decide) (by omega)))), Nat.add_zero]
theorem th_hk : (List.range 25).all (fun n => decide (nI n / 2 = nI (n / 2))) = true := by decide +kernel
theorem th_hf {n : Nat} (hn : n < 25) : nI n / 2 = nI (n / 2) := of_decide_eq_true (List.all_eq_true.mp th_hk n (List.mem_range.mpr hn))
theorem th_dbk : (List.range 25).all (fun n => decide (2 * nI n = nI (2 * n))) = true := by decide +kernel
theorem th_db {n : Nat} (hn : n < 25) : 2 * nI n = nI (2 * n) := of_decide_eq_true (List.all_eq_true.mp th_dbk n (List.mem_range.mpr hn))
theorem th_subN {a c : Nat} (h : c ≤ a) (ha : a < 2 ^ 31) : nI a - nI c = nI (a - c) := Int32.toInt_inj.mp (by rw [tn_sub (by rw [nI_toInt (by omega), nI_toInt (by omega)]; omega) (by rw [nI_toInt (by omega), nI_toInt (by omega)]; omega), nI_toInt (by omega), nI_toInt (by omega), nI_toInt (by omega)]; omega)
set_option maxRecDepth 100000 in
set_option maxHeartbeats 4000000 in
theorem th_pap {e n S d : Nat} {σ : tm_S} (hN : σ.1 1 0 = nI n) (hn : n ≤ 12) (hS : S < 2 ^ n) (h1 : 1 ≤ d) (h2 : 2 * d ≤ n) : WM (e + 1) 29 [.ref 1, .int (nI S), .int (nI d)] σ (th_is (.int (nI (th_pt n S d n))) σ) := by
  have hp : 2 ^ n ≤ 4096 := Nat.pow_le_pow_right (n := 2) (by decide) hn
  have hR := th_R_lt (e := d) hS
  have hand : S &&& th_R n S d < 2 ^ n := Nat.and_lt_two_pow _ hR
  have hpp := th_pp (show n ≤ 24 by omega) hS h1 h2
  have hle : th_po (S &&& th_R n S d) n ≤ n := th_sm_le
  show WP (e + 1) 29 0 [(0, .ref 1), (1, .int (nI S)), (2, .int (nI d))] [] σ _
  refine wp_ldi rfl tm_m1 ?_
  refine wp_ldi rfl tm_m1 ?_
  refine wp_ldi rfl tm_m2 ?_
  refine wp_lda rfl tm_m0 ?_
  refine wq_geti rfl rfl (f := 0) rfl rfl (Or.inl rfl) ?_
  rw [hN]
  refine wq_cals [.int (nI S), .int (nI d), .int (nI n)] rfl rfl rfl rfl rfl rfl (th_trnd (by omega) hS (by omega)) ?_
  rintro _ _ ⟨rfl, rfl⟩
  refine wq_iand rfl ?_
  rw [th_and24 (by omega) (by omega)]
  refine wq_cals [.int (nI (S &&& th_R n S d))] rfl rfl rfl rfl rfl rfl (th_bitCount (nI (S &&& th_R n S d)) (Q := th_is (.int (nI (th_po (S &&& th_R n S d) n))) σ) ⟨by rw [th_bn (by omega), th_po12 hn hand], rfl⟩) ?_
  rintro _ _ ⟨rfl, rfl⟩
  refine wq_sti [(3, .int (nI (th_po (S &&& th_R n S d) n))), (0, .ref 1), (1, .int (nI S)), (2, .int (nI d))] rfl rfl ?_
  refine wq_con (x := 2) rfl (by decide) ?_
  refine wp_ldi rfl tm_m3 ?_
  refine wq_imul rfl ?_
  rw [th_db (by omega)]
  refine wp_lda rfl tm_m1 ?_
  refine wq_geti rfl rfl (f := 0) rfl rfl (Or.inl rfl) ?_
  rw [hN]
  refine wq_icne rfl (fun h22 => ?_) (fun h22 => ?_)
  · refine wp_ldi rfl tm_m0 ?_
    rw [if_neg (fun e => h22 (by rw [e]))] at hpp
    exact wp_reti rfl (th_nI rfl) ⟨by rw [hpp], rfl⟩
  · refine wp_ldi rfl tm_m0 ?_
    refine wq_con (x := 2) rfl (by decide) ?_
    refine wp_div rfl (by decide) ?_
    rw [if_pos ((nI_eq (by omega) (by omega)).mp (Classical.not_not.mp h22))] at hpp
    rw [th_hf (by omega), hpp, Nat.mul_div_cancel_left _ (by decide)]
    refine wp_go rfl ?_
    exact wp_reti rfl (th_nI rfl) ⟨rfl, rfl⟩
set_option maxRecDepth 100000 in
set_option maxHeartbeats 4000000 in
theorem th_apt {d n x y : Nat} {σ : tm_S} (hN : σ.1 11 1 = nI n) (hn : n ≤ 12) (hx : x < n) (hy : y < n) : WM d 178 [.ref 11, .int (nI x), .int (nI y)] σ (th_is (.int (nI (th_ap n x y))) σ) := by
  have k14 : ∀ q : Nat, q < n → th_ap n x y = (if n < 2 * q then n - q else q) → WP d 178 14 [(0, .ref 11), (1, .int (nI x)), (2, .int (nI y))] [.int (nI q)] σ (th_is (.int (nI (th_ap n x y))) σ) := by
    intro q hq he
    refine wq_sti [(3, .int (nI q)), (0, .ref 11), (1, .int (nI x)), (2, .int (nI y))] rfl rfl ?_
    refine wq_con (x := 2) rfl (by decide) ?_
    refine wp_ldi rfl tm_m0 ?_
    refine wq_imul rfl ?_
    rw [th_db (by omega)]
    refine wp_lda rfl tm_m1 ?_
    refine wq_geti rfl rfl (f := 1) rfl rfl (Or.inl rfl) ?_
    rw [hN]
    refine wq_icle rfl (fun h22 => ?_) (fun h22 => ?_)
    · refine wp_ldi rfl tm_m0 ?_
      rw [if_neg (fun g => absurd h22 (nI_ge g (by omega)))] at he
      exact wp_reti rfl (th_nI rfl) ⟨by rw [he], rfl⟩
    · refine wp_lda rfl tm_m1 ?_
      refine wq_geti rfl rfl (f := 1) rfl rfl (Or.inl rfl) ?_
      rw [hN]
      refine wp_ldi rfl tm_m0 ?_
      refine wq_isub rfl ?_
      rw [th_subN (by omega) (by omega)]
      refine wp_go rfl ?_
      rw [if_pos (Classical.byContradiction (fun g => h22 (nI_le (by omega) (by omega))))] at he
      exact wp_reti rfl (th_nI rfl) ⟨by rw [he], rfl⟩
  show WP d 178 0 [(0, .ref 11), (1, .int (nI x)), (2, .int (nI y))] [] σ _
  refine wp_ldi rfl tm_m1 ?_
  refine wp_ldi rfl tm_m2 ?_
  refine wq_icge rfl (fun h2 => ?_) (fun h2 => ?_)
  · refine wp_ldi rfl tm_m1 ?_
    refine wp_ldi rfl tm_m2 ?_
    refine wq_isub rfl ?_
    rw [th_subN (by have : ¬ x < y := fun g => absurd h2 (nI_ge g (by omega)); omega) (by omega)]
    have g : ¬ x < y := fun g => absurd h2 (nI_ge g (by omega))
    exact WP.less (k14 (x - y) (by omega) (by unfold th_ap; rw [if_neg g])) (by simp)
  · refine wp_ldi rfl tm_m2 ?_
    refine wp_ldi rfl tm_m1 ?_
    refine wq_isub rfl ?_
    rw [th_subN (by have : x < y := Classical.byContradiction (fun g => h2 (nI_le (by omega) (by omega))); omega) (by omega)]
    refine wp_go rfl ?_
    have g : x < y := Classical.byContradiction (fun g => h2 (nI_le (by omega) (by omega)))
    exact WP.less (k14 (y - x) (by omega) (by unfold th_ap; rw [if_pos g])) (by simp)
set_option maxRecDepth 100000 in
set_option maxHeartbeats 4000000 in
theorem th_prs {e n S d : Nat} {σ : tm_S} (hN : σ.1 11 1 = nI n) (hn : n ≤ 12) (hS : S < 2 ^ n) (hd : d ≤ 12) : WM (e + 1) 177 [.ref 11, .int (nI S), .int (nI d)] σ (th_is (.int (nI (th_pt n S d n))) σ) := by
  have hp : 2 ^ n ≤ 4096 := Nat.pow_le_pow_right (n := 2) (by decide) hn
  have hap : ∀ x y : Nat, x < n → y < n → th_ap n x y < 25 := fun x y hx hy => by unfold th_ap; split <;> split <;> omega
  have k5 : ∀ f x : Nat, x + f = n → WP (e + 1) 177 5 [(4, .int (nI x)), (3, .int (nI (th_pt n S d x))), (0, .ref 11), (1, .int (nI S)), (2, .int (nI d))] [] σ (th_is (.int (nI (th_pt n S d n))) σ) := by
    intro f
    induction f with
    | zero =>
      intro x hx
      obtain rfl : x = n := by omega
      refine wp_ldi rfl tm_m0 ?_
      refine wp_lda rfl tm_m2 ?_
      refine wq_geti rfl rfl (f := 1) rfl rfl (Or.inl rfl) ?_
      rw [hN]
      refine wq_icge rfl (fun h11 => ?_) (fun h11 => absurd (nI_le (Nat.le_refl _) (by omega)) h11)
      refine wp_ldi rfl tm_m1 ?_
      exact wp_reti rfl (th_nI rfl) ⟨rfl, rfl⟩
    | succ f ih =>
      intro x hx
      have k20 : ∀ g i : Nat, x + 1 + i + g = n → WP (e + 1) 177 20 [(5, .int (nI (x + 1 + i))), (4, .int (nI x)), (3, .int (nI (th_pt n S d x + th_sm (th_pF n S d x) i))), (0, .ref 11), (1, .int (nI S)), (2, .int (nI d))] [] σ (th_is (.int (nI (th_pt n S d n))) σ) := by
        intro g
        induction g with
        | zero =>
          intro i hi
          obtain rfl : i = n - 1 - x := by omega
          refine wp_ldi rfl tm_m0 ?_
          refine wp_lda rfl tm_m3 ?_
          refine wq_geti rfl rfl (f := 1) rfl rfl (Or.inl rfl) ?_
          rw [hN]
          refine wq_icge rfl (fun h26 => ?_) (fun h26 => absurd (nI_le (by omega) (by omega)) h26)
          refine wq_inc (c := 1) [(4, .int ((nI x) + 1)), (5, .int (nI (x + 1 + (n - 1 - x)))), (3, .int (nI (th_pt n S d x + th_sm (th_pF n S d x) (n - 1 - x)))), (0, .ref 11), (1, .int (nI S)), (2, .int (nI d))] rfl tm_m1 rfl rfl ?_
          refine wp_go rfl ?_
          rw [nI_1, show th_pt n S d x + th_sm (th_pF n S d x) (n - 1 - x) = th_pt n S d (x + 1) from rfl]
          exact WP.less (ih (x + 1) (by omega)) (by simp)
        | succ g ihg =>
          intro i hi
          have eF : th_sm (th_pF n S d x) (i + 1) = th_sm (th_pF n S d x) i + bif th_pF n S d x i then 1 else 0 := rfl
          have ex := th_hs24 (a := S) (m := x) (by omega) (by omega)
          have ey := th_hs24 (a := S) (m := x + 1 + i) (by omega) (by omega)
          have ha := hap x (x + 1 + i) (by omega) (by omega)
          refine wp_ldi rfl tm_m0 ?_
          refine wp_lda rfl tm_m3 ?_
          refine wq_geti rfl rfl (f := 1) rfl rfl (Or.inl rfl) ?_
          rw [hN]
          refine wq_icge rfl (fun h26 => absurd h26 (nI_ge (by omega) (by omega))) (fun h26 => ?_)
          refine wp_lda rfl tm_m3 ?_
          refine wp_ldi rfl tm_m4 ?_
          refine wp_ldi rfl tm_m1 ?_
          refine wq_calv [.int (nI S), .int (nI x)] rfl rfl rfl rfl rfl rfl rfl rfl rfl (th_has) ?_
          rintro _ _ ⟨rfl, rfl⟩
          refine wq_ifeq rfl (fun h36 => ?_) (fun h36 => ?_)
          · refine wq_inc (c := 1) [(5, .int ((nI (x + 1 + i)) + 1)), (4, .int (nI x)), (3, .int (nI (th_pt n S d x + th_sm (th_pF n S d x) i))), (0, .ref 11), (1, .int (nI S)), (2, .int (nI d))] rfl tm_m0 rfl rfl ?_
            refine wp_go rfl ?_
            have hF : th_pF n S d x i = false := by
              unfold th_pF
              first
              | (have bx : S.testBit x = false := by
                  cases hb : S.testBit x with
                  | false => rfl
                  | true => exact absurd h36 (by rw [ex, hb]; decide)
                 rw [bx]; rfl)
              | (have by1 : S.testBit (x + 1 + i) = false := by
                  cases hb : S.testBit (x + 1 + i) with
                  | false => rfl
                  | true => exact absurd h46 (by rw [ey, hb]; decide)
                 rw [by1]; simp)
              | (have ba : ¬ th_ap n x (x + 1 + i) = d := fun e => h58 (by rw [e])
                 simp [ba])
            rw [hF] at eF
            rw [nI_1, show th_pt n S d x + th_sm (th_pF n S d x) i = th_pt n S d x + th_sm (th_pF n S d x) (i + 1) by rw [eF]; rfl]
            exact WP.less (ihg (i + 1) (by omega)) (by simp [Nat.add_assoc])
          · refine wp_lda rfl tm_m3 ?_
            refine wp_ldi rfl tm_m4 ?_
            refine wp_ldi rfl tm_m0 ?_
            refine wq_calv [.int (nI S), .int (nI (x + 1 + i))] rfl rfl rfl rfl rfl rfl rfl rfl rfl (th_has) ?_
            rintro _ _ ⟨rfl, rfl⟩
            refine wq_ifeq rfl (fun h46 => ?_) (fun h46 => ?_)
            · refine wq_inc (c := 1) [(5, .int ((nI (x + 1 + i)) + 1)), (4, .int (nI x)), (3, .int (nI (th_pt n S d x + th_sm (th_pF n S d x) i))), (0, .ref 11), (1, .int (nI S)), (2, .int (nI d))] rfl tm_m0 rfl rfl ?_
              refine wp_go rfl ?_
              have hF : th_pF n S d x i = false := by
                unfold th_pF
                first
                | (have bx : S.testBit x = false := by
                    cases hb : S.testBit x with
                    | false => rfl
                    | true => exact absurd h36 (by rw [ex, hb]; decide)
                   rw [bx]; rfl)
                | (have by1 : S.testBit (x + 1 + i) = false := by
                    cases hb : S.testBit (x + 1 + i) with
                    | false => rfl
                    | true => exact absurd h46 (by rw [ey, hb]; decide)
                   rw [by1]; simp)
                | (have ba : ¬ th_ap n x (x + 1 + i) = d := fun e => h58 (by rw [e])
                   simp [ba])
              rw [hF] at eF
              rw [nI_1, show th_pt n S d x + th_sm (th_pF n S d x) i = th_pt n S d x + th_sm (th_pF n S d x) (i + 1) by rw [eF]; rfl]
              exact WP.less (ihg (i + 1) (by omega)) (by simp [Nat.add_assoc])
            · refine wp_lda rfl tm_m3 ?_
              refine wp_ldi rfl tm_m1 ?_
              refine wp_ldi rfl tm_m0 ?_
              refine wq_calv [.int (nI x), .int (nI (x + 1 + i))] rfl rfl rfl rfl rfl rfl rfl rfl rfl (th_apt hN hn (by omega) (by omega)) ?_
              rintro _ _ ⟨rfl, rfl⟩
              refine wp_ldi rfl tm_m5 ?_
              refine wq_icne rfl (fun h58 => ?_) (fun h58 => ?_)
              · refine wq_inc (c := 1) [(5, .int ((nI (x + 1 + i)) + 1)), (4, .int (nI x)), (3, .int (nI (th_pt n S d x + th_sm (th_pF n S d x) i))), (0, .ref 11), (1, .int (nI S)), (2, .int (nI d))] rfl tm_m0 rfl rfl ?_
                refine wp_go rfl ?_
                have hF : th_pF n S d x i = false := by
                  unfold th_pF
                  first
                  | (have bx : S.testBit x = false := by
                      cases hb : S.testBit x with
                      | false => rfl
                      | true => exact absurd h36 (by rw [ex, hb]; decide)
                     rw [bx]; rfl)
                  | (have by1 : S.testBit (x + 1 + i) = false := by
                      cases hb : S.testBit (x + 1 + i) with
                      | false => rfl
                      | true => exact absurd h46 (by rw [ey, hb]; decide)
                     rw [by1]; simp)
                  | (have ba : ¬ th_ap n x (x + 1 + i) = d := fun e => h58 (by rw [e])
                     simp [ba])
                rw [hF] at eF
                rw [nI_1, show th_pt n S d x + th_sm (th_pF n S d x) i = th_pt n S d x + th_sm (th_pF n S d x) (i + 1) by rw [eF]; rfl]
                exact WP.less (ihg (i + 1) (by omega)) (by simp [Nat.add_assoc])
              · refine wp_ldi rfl tm_m2 ?_
                refine wq_con (x := 1) rfl (by decide) ?_
                refine wq_iadd rfl ?_
                refine wq_sti [(3, .int ((nI (th_pt n S d x + th_sm (th_pF n S d x) i)) + 1)), (5, .int (nI (x + 1 + i))), (4, .int (nI x)), (0, .ref 11), (1, .int (nI S)), (2, .int (nI d))] rfl rfl ?_
                refine wq_inc (c := 1) [(5, .int ((nI (x + 1 + i)) + 1)), (3, .int ((nI (th_pt n S d x + th_sm (th_pF n S d x) i)) + 1)), (4, .int (nI x)), (0, .ref 11), (1, .int (nI S)), (2, .int (nI d))] rfl tm_m1 rfl rfl ?_
                refine wp_go rfl ?_
                have bx : S.testBit x = true := by
                  cases hb : S.testBit x with
                  | true => rfl
                  | false => exact absurd (by rw [ex, hb]; rfl) h36
                have by1 : S.testBit (x + 1 + i) = true := by
                  cases hb : S.testBit (x + 1 + i) with
                  | true => rfl
                  | false => exact absurd (by rw [ey, hb]; rfl) h46
                have ba : th_ap n x (x + 1 + i) = d := (nI_eq (by omega) (by omega)).mp (Classical.not_not.mp h58)
                have hF : th_pF n S d x i = true := by unfold th_pF; rw [bx, by1, ba]; simp
                rw [hF] at eF
                rw [nI_1, nI_1, show th_pt n S d x + th_sm (th_pF n S d x) i + 1 = th_pt n S d x + th_sm (th_pF n S d x) (i + 1) by rw [eF]; rfl]
                exact WP.less (ihg (i + 1) (by omega)) (by simp [Nat.add_assoc])
      refine wp_ldi rfl tm_m0 ?_
      refine wp_lda rfl tm_m2 ?_
      refine wq_geti rfl rfl (f := 1) rfl rfl (Or.inl rfl) ?_
      rw [hN]
      refine wq_icge rfl (fun h11 => absurd h11 (nI_ge (by omega) (by omega))) (fun h11 => ?_)
      refine wp_ldi rfl tm_m0 ?_
      refine wq_con (x := 1) rfl (by decide) ?_
      refine wq_iadd rfl ?_
      rw [nI_1]
      refine wq_sti [(5, .int (nI (x + 1))), (4, .int (nI x)), (3, .int (nI (th_pt n S d x))), (0, .ref 11), (1, .int (nI S)), (2, .int (nI d))] rfl rfl ?_
      exact WP.less (k20 (n - (x + 1)) 0 (by omega)) (by simp [th_sm])
  show WP (e + 1) 177 0 [(0, .ref 11), (1, .int (nI S)), (2, .int (nI d))] [] σ _
  refine wq_con (x := nI 0) rfl (by decide) ?_
  refine wq_sti [(3, .int (nI 0)), (0, .ref 11), (1, .int (nI S)), (2, .int (nI d))] rfl rfl ?_
  refine wq_con (x := nI 0) rfl (by decide) ?_
  refine wq_sti [(4, .int (nI 0)), (3, .int (nI 0)), (0, .ref 11), (1, .int (nI S)), (2, .int (nI d))] rfl rfl ?_
  exact WP.less (k5 n 0 (by omega)) (by simp [th_pt])
/-- what interval answers -/
def tp_vok (n : Nat) (s d : Int32) : Prop := th_st n s ∧ 1 ≤ d.toInt ∧ d.toInt ≤ (n / 2 : Nat)
def tp_int (n : Nat) (s d z : Int32) : Prop := (∃ S k : Nat, s = nI S ∧ d = nI k ∧ S < 2 ^ 12 ∧ k ≤ 12 ∧ z = nI (th_pt n S k n) ∧ tp_vok n s d) ∨ (¬ tp_vok n s d ∧ z = -1)
theorem tp_int_u {n : Nat} {s d z w : Int32} (h : tp_int n s d z) (g : tp_int n s d w) : z = w := by
  rcases h with ⟨S, k, e1, e2, e3, e4, e5, e6⟩ | ⟨h1, h2⟩
  · rcases g with ⟨S', k', f1, f2, f3, f4, f5, f6⟩ | ⟨g1, g2⟩
    · rw [e5, f5, (nI_eq (by omega) (by omega)).mp (e1.symm.trans f1), (nI_eq (by omega) (by omega)).mp (e2.symm.trans f2)]
    · exact absurd e6 g1
  · rcases g with ⟨S', k', f1, f2, f3, f4, f5, f6⟩ | ⟨g1, g2⟩
    · exact absurd f6 h1
    · rw [h2, g2]
set_option maxRecDepth 100000 in
set_option maxHeartbeats 4000000 in
theorem tf_x_interval {n : Nat} {a1 a2 : Int32} {σ : tm_S} (h : th_IV n σ) : WM 90 28 [.ref 0, .int a1, .int a2] σ (fun r σ' => ∃ z : Int32, r = some (.int z) ∧ tp_int n a1 a2 z ∧ th_IV n σ') := by
  have hI := th_IV0 h
  have ⟨h3, hn, hT, hSL⟩ := h
  have hN0 := th_N0 hT hn
  have eN : (nI (n / 2)).toInt = (n / 2 : Nat) := nI_toInt (by omega)
  show WP 90 28 0 [(0, .ref 0), (1, .int a1), (2, .int a2)] [] σ _
  refine wp_lda rfl tm_m0 ?_
  refine wq_getr (p := 1) rfl rfl (f := 0) rfl rfl ?_
  refine wp_ldi rfl tm_m1 ?_
  refine wq_calv [.int a1] rfl rfl rfl rfl rfl rfl rfl rfl rfl (th_hset hN0 hn) ?_
  rintro r5 _ ⟨hr5, rfl⟩
  obtain ⟨z5, rfl, hz5, hn5⟩ : ∃ z : Int32, r5 = some (.int z) ∧ (¬ z = 0 → th_st n a1) ∧ (z = 0 → ¬ th_st n a1) := by
    rcases hr5 with ⟨rfl, g⟩ | ⟨rfl, g⟩
    · exact ⟨_, rfl, fun _ => g, fun e => absurd e (by decide)⟩
    · exact ⟨_, rfl, fun e => absurd rfl e, fun _ => g⟩
  refine wq_ifeq rfl (fun h8 => ?_) (fun h8 => ?_)
  · have g8 : (z5).toInt = 0 := congrArg Int32.toInt h8
    refine wq_con (x := (-1)) rfl (by decide) ?_
    refine wp_reti rfl (th_nI rfl) ⟨_, rfl, Or.inr ⟨fun hk => ?_, rfl⟩, h⟩
    have k1 := hk.2.1
    have k2 := hk.2.2
    first | exact hn5 h8 hk.1 | (change a2.toInt < (1 : Int) at g13; omega) | (rw [eN] at g26; omega)
  · refine wp_ldi rfl tm_m2 ?_
    refine wq_con (x := 1) rfl (by decide) ?_
    refine wq_iclt rfl (fun h13 => ?_) (fun h13 => ?_)
    · have g13 : (a2).toInt < 1 := tn_ltI.mp h13
      refine wq_con (x := (-1)) rfl (by decide) ?_
      refine wp_reti rfl (th_nI rfl) ⟨_, rfl, Or.inr ⟨fun hk => ?_, rfl⟩, h⟩
      have k1 := hk.2.1
      have k2 := hk.2.2
      first | exact hn5 h8 hk.1 | (change a2.toInt < (1 : Int) at g13; omega) | (rw [eN] at g26; omega)
    · have g13 : ¬ (a2).toInt < 1 := fun g => h13 (tn_ltI.mpr g)
      refine wp_ldi rfl tm_m2 ?_
      refine wp_lda rfl tm_m0 ?_
      refine wq_getr (p := 1) rfl rfl (f := 0) rfl rfl ?_
      refine wq_calv [] rfl rfl rfl rfl rfl rfl rfl rfl rfl (th_size) ?_
      rintro _ _ ⟨rfl, rfl⟩
      rw [hN0]
      refine wq_con (x := 2) rfl (by decide) ?_
      refine wp_div rfl (by decide) ?_
      rw [th_hf (by omega)]
      refine wq_icle rfl (fun h26 => ?_) (fun h26 => ?_)
      · have g26 : (a2).toInt ≤ (nI (n / 2)).toInt := tn_leI.mp h26
        change ¬ a2.toInt < (1 : Int) at g13
        rw [eN] at g26
        obtain ⟨S, e1, hS⟩ := hz5 h8
        obtain ⟨k, k1, e2⟩ := nI_of (x := a2) (by rw [tn_ltI]; show ¬ a2.toInt < 0; omega)
        have ek : a2.toInt = k := by rw [e2]; exact nI_toInt k1
        have hp : 2 ^ n ≤ 4096 := Nat.pow_le_pow_right (n := 2) (by decide) hn
        refine wp_lda rfl tm_m0 ?_
        refine wq_getr (p := 1) rfl rfl (f := 0) rfl rfl ?_
        refine wp_ldi rfl tm_m1 ?_
        refine wp_ldi rfl tm_m2 ?_
        refine wq_calv [.int a1, .int a2] rfl rfl rfl rfl rfl rfl rfl rfl rfl (by rw [e1, e2]; exact th_pap (e := 88) hN0 hn hS (by omega) (by omega)) ?_
        rintro _ _ ⟨rfl, rfl⟩
        exact wp_reti rfl (th_nI rfl) ⟨_, rfl, Or.inl ⟨S, k, e1, e2, by omega, by omega, rfl, ⟨⟨S, e1, hS⟩, by omega, by omega⟩⟩, h⟩
      · have g26 : ¬ (a2).toInt ≤ (nI (n / 2)).toInt := fun g => h26 (tn_leI.mpr g)
        refine wq_con (x := (-1)) rfl (by decide) ?_
        refine wp_reti rfl (th_nI rfl) ⟨_, rfl, Or.inr ⟨fun hk => ?_, rfl⟩, h⟩
        have k1 := hk.2.1
        have k2 := hk.2.2
        first | exact hn5 h8 hk.1 | (change a2.toInt < (1 : Int) at g13; omega) | (rw [eN] at g26; omega)
set_option maxRecDepth 100000 in
set_option maxHeartbeats 4000000 in
theorem tf_m_interval {n : Nat} {a1 a2 : Int32} {σ : tm_S} (h : th_IV n σ) : WM 90 176 [.ref 11, .int a1, .int a2] σ (fun r σ' => ∃ z : Int32, r = some (.int z) ∧ tp_int n a1 a2 z ∧ th_IV n σ') := by
  have hI := th_IV0 h
  have ⟨h3, hn, hT, hSL⟩ := hI
  have hN1 := th_N1 hT hn
  have eN : (nI (n / 2)).toInt = (n / 2 : Nat) := nI_toInt (by omega)
  show WP 90 176 0 [(0, .ref 11), (1, .int a1), (2, .int a2)] [] σ _
  refine wp_lda rfl tm_m0 ?_
  refine wq_con (x := 0) rfl (by decide) ?_
  refine wq_puti rfl rfl (f := 0) rfl rfl ?_
  refine wp_lda rfl tm_m0 ?_
  refine wp_ldi rfl tm_m1 ?_
  refine wq_calv [.int a1] rfl rfl rfl rfl rfl rfl rfl rfl rfl (tg_mset hN1 hn) ?_
  rintro r7 _ ⟨hr7, rfl⟩
  obtain ⟨z7, rfl, hz7, hn7⟩ : ∃ z : Int32, r7 = some (.int z) ∧ (¬ z = 0 → th_st n a1) ∧ (z = 0 → ¬ th_st n a1) := by
    rcases hr7 with ⟨rfl, g⟩ | ⟨rfl, g⟩
    · exact ⟨_, rfl, fun _ => g, fun e => absurd e (by decide)⟩
    · exact ⟨_, rfl, fun e => absurd rfl e, fun _ => g⟩
  refine wq_ifeq rfl (fun h10 => ?_) (fun h10 => ?_)
  · have g10 : (z7).toInt = 0 := congrArg Int32.toInt h10
    refine wq_con (x := (-1)) rfl (by decide) ?_
    refine wp_reti rfl (th_nI rfl) ⟨_, rfl, Or.inr ⟨fun hk => ?_, rfl⟩, hI⟩
    have k1 := hk.2.1
    have k2 := hk.2.2
    first | exact hn7 h10 hk.1 | (change a2.toInt < (1 : Int) at g15; omega) | (rw [eN] at g25; omega)
  · refine wp_ldi rfl tm_m2 ?_
    refine wq_con (x := 1) rfl (by decide) ?_
    refine wq_iclt rfl (fun h15 => ?_) (fun h15 => ?_)
    · have g15 : (a2).toInt < 1 := tn_ltI.mp h15
      refine wq_con (x := (-1)) rfl (by decide) ?_
      refine wp_reti rfl (th_nI rfl) ⟨_, rfl, Or.inr ⟨fun hk => ?_, rfl⟩, hI⟩
      have k1 := hk.2.1
      have k2 := hk.2.2
      first | exact hn7 h10 hk.1 | (change a2.toInt < (1 : Int) at g15; omega) | (rw [eN] at g25; omega)
    · have g15 : ¬ (a2).toInt < 1 := fun g => h15 (tn_ltI.mpr g)
      refine wp_ldi rfl tm_m2 ?_
      refine wp_lda rfl tm_m0 ?_
      refine wq_geti rfl rfl (f := 1) rfl rfl (Or.inl rfl) ?_
      rw [hN1]
      refine wq_con (x := 2) rfl (by decide) ?_
      refine wp_div rfl (by decide) ?_
      rw [th_hf (by omega)]
      refine wq_icgt rfl (fun h25 => ?_) (fun h25 => ?_)
      · have g25 : (nI (n / 2)).toInt < (a2).toInt := tn_ltI.mp h25
        refine wq_con (x := (-1)) rfl (by decide) ?_
        refine wp_reti rfl (th_nI rfl) ⟨_, rfl, Or.inr ⟨fun hk => ?_, rfl⟩, hI⟩
        have k1 := hk.2.1
        have k2 := hk.2.2
        first | exact hn7 h10 hk.1 | (change a2.toInt < (1 : Int) at g15; omega) | (rw [eN] at g25; omega)
      · have g25 : ¬ (nI (n / 2)).toInt < (a2).toInt := fun g => h25 (tn_ltI.mpr g)
        change ¬ a2.toInt < (1 : Int) at g15
        rw [eN] at g25
        obtain ⟨S, e1, hS⟩ := hz7 h10
        obtain ⟨k, k1, e2⟩ := nI_of (x := a2) (by rw [tn_ltI]; show ¬ a2.toInt < 0; omega)
        have ek : a2.toInt = k := by rw [e2]; exact nI_toInt k1
        have hp : 2 ^ n ≤ 4096 := Nat.pow_le_pow_right (n := 2) (by decide) hn
        refine wp_lda rfl tm_m0 ?_
        refine wp_ldi rfl tm_m1 ?_
        refine wp_ldi rfl tm_m2 ?_
        refine wq_calv [.int a1, .int a2] rfl rfl rfl rfl rfl rfl rfl rfl rfl (by rw [e1, e2]; exact th_prs (e := 88) hN1 hn hS (by omega)) ?_
        rintro _ _ ⟨rfl, rfl⟩
        refine wp_go rfl ?_
        exact wp_reti rfl (th_nI rfl) ⟨_, rfl, Or.inl ⟨S, k, e1, e2, by omega, by omega, rfl, ⟨⟨S, e1, hS⟩, by omega, by omega⟩⟩, hI⟩
