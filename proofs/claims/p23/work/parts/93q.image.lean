/-! ===== sets, factors, images: what both answer ===== -/
def th_st (n : Nat) (x : Int32) : Prop := ∃ S : Nat, x = nI S ∧ S < 2 ^ n
def th_nt2 (n : Nat) (x : Int32) : Prop := ∃ t : Nat, x = nI t ∧ t < n
def th_fac (n g m : Nat) : Bool := decide (1 ≤ m) && (decide (m < n) && (if g = 2 then decide (Nat.gcd m n = 1) else (decide (m = 1) || (decide (g = 1) && decide (m = n - 1)))))
def th_fP (n g : Nat) (x : Int32) : Prop := ∃ m : Nat, x = nI m ∧ th_fac n g m = true
theorem th_fac_lt {n g m : Nat} (h : th_fac n g m = true) : 1 ≤ m ∧ m < n := by
  unfold th_fac at h
  simp only [Bool.and_eq_true, decide_eq_true_eq] at h
  exact ⟨h.1, h.2.1⟩
theorem th_fP_iff {n g m : Nat} (hn : n ≤ 12) (hm : m < 2 ^ 31) : th_fP n g (nI m) ↔ th_fac n g m = true := by
  constructor
  · rintro ⟨k, e, h⟩
    have := th_fac_lt h
    rw [(nI_eq hm (by omega)).mp e]
    exact h
  · exact fun h => ⟨m, rfl, h⟩
theorem th_bt1 {S x : Nat} (hS : S < 2 ^ 24) (hx : x < 32) : nI S >>> (nI x &&& 31) &&& 1 = bif S.testBit x then 1 else 0 := by
  have hd : S / 2 ^ x ≤ S := Nat.div_le_self _ _
  rw [th_shr hS hx, show (1 : Int32) = nI 1 from rfl, th_and24 (by omega) (by decide), Nat.and_one_is_mod, Nat.testBit_eq_decide_div_mod_eq]
  rcases Nat.mod_two_eq_zero_or_one (S / 2 ^ x) with e | e <;> rw [e] <;> rfl
theorem tg_remk : (List.range 150).all (fun a => (List.range 25).all (fun k => Nat.beq k 0 || decide (nI a - nI a / nI k * nI k = nI (a % k)))) = true := by decide +kernel
theorem th_remN {a k : Nat} (ha : a < 150) (hk : k < 25) (h0 : ¬ k = 0) : nI a - nI a / nI k * nI k = nI (a % k) := by
  have h1 := List.all_eq_true.mp (List.all_eq_true.mp tg_remk a (List.mem_range.mpr ha)) k (List.mem_range.mpr hk)
  rw [Bool.or_eq_true] at h1
  rcases h1 with h1 | h1
  · exact absurd (Nat.eq_of_beq_eq_true h1) h0
  · exact of_decide_eq_true h1
set_option maxRecDepth 100000 in
set_option maxHeartbeats 4000000 in
theorem th_hset {d n : Nat} {x : Int32} {σ : tm_S} (hN : σ.1 1 0 = nI n) (hn : n ≤ 12) : WM d 6 [.ref 1, .int x] σ (fun q σ' => ((q = some (.int 1) ∧ th_st n x) ∨ (q = some (.int 0) ∧ ¬ th_st n x)) ∧ σ = σ') := by
  have hp : 2 ^ n ≤ 4096 := Nat.pow_le_pow_right (n := 2) (by decide) hn
  show WP d 6 0 [(0, .ref 1), (1, .int x)] [] σ _
  refine wp_ldi rfl tm_m1 ?_
  refine wq_iflt rfl (fun h1 => ?_) (fun h1 => ?_)
  · have g1 : (x).toInt < 0 := tn_ltI.mp h1
    refine wq_con (x := 0) rfl (by decide) ?_
    refine wp_reti rfl (th_n0 rfl) ⟨Or.inr ⟨rfl, fun hk => ?_⟩, rfl⟩
    obtain ⟨q, rfl, hq⟩ := hk
    have eq : (nI q).toInt = q := nI_toInt (by omega)
    first | (change (nI q).toInt < (0 : Int) at g1; omega) | (rw [th_p24 n (by omega), nI_toInt (by omega), nI_toInt (by omega)] at g11; omega)
  · have g1 : ¬ (x).toInt < 0 := fun g => h1 (tn_ltI.mpr g)
    refine wp_ldi rfl tm_m1 ?_
    refine wq_con (x := 1) rfl (by decide) ?_
    refine wp_lda rfl tm_m0 ?_
    refine wq_geti rfl rfl (f := 0) rfl rfl (Or.inl rfl) ?_
    rw [hN]
    refine wq_ishl rfl ?_
    refine wq_icge rfl (fun h11 => ?_) (fun h11 => ?_)
    · have g11 : (1 <<< ((nI n) &&& 31)).toInt ≤ (x).toInt := tn_leI.mp h11
      refine wq_con (x := 0) rfl (by decide) ?_
      refine wp_reti rfl (th_n0 rfl) ⟨Or.inr ⟨rfl, fun hk => ?_⟩, rfl⟩
      obtain ⟨q, rfl, hq⟩ := hk
      have eq : (nI q).toInt = q := nI_toInt (by omega)
      first | (change (nI q).toInt < (0 : Int) at g1; omega) | (rw [th_p24 n (by omega), nI_toInt (by omega), nI_toInt (by omega)] at g11; omega)
    · have g11 : ¬ (1 <<< ((nI n) &&& 31)).toInt ≤ (x).toInt := fun g => h11 (tn_leI.mpr g)
      refine wq_con (x := 1) rfl (by decide) ?_
      refine wp_go rfl ?_
      change ¬ x.toInt < (0 : Int) at g1
      obtain ⟨q, q1, rfl⟩ := nI_of (x := x) (by rw [tn_ltI]; show ¬ x.toInt < 0; omega)
      rw [th_p24 n (by omega), nI_toInt (by omega), nI_toInt q1] at g11
      exact wp_reti rfl (th_n1 rfl) ⟨Or.inl ⟨rfl, q, rfl, by omega⟩, rfl⟩
set_option maxRecDepth 100000 in
set_option maxHeartbeats 4000000 in
theorem tg_mset {d n : Nat} {x : Int32} {σ : tm_S} (hN : σ.1 11 1 = nI n) (hn : n ≤ 12) : WM d 162 [.ref 11, .int x] σ (fun q σ' => ((q = some (.int 1) ∧ th_st n x) ∨ (q = some (.int 0) ∧ ¬ th_st n x)) ∧ σ = σ') := by
  have hp : 2 ^ n ≤ 4096 := Nat.pow_le_pow_right (n := 2) (by decide) hn
  show WP d 162 0 [(0, .ref 11), (1, .int x)] [] σ _
  refine wp_ldi rfl tm_m1 ?_
  refine wq_iflt rfl (fun h1 => ?_) (fun h1 => ?_)
  · have g1 : (x).toInt < 0 := tn_ltI.mp h1
    refine wq_con (x := 0) rfl (by decide) ?_
    refine wp_reti rfl (th_n0 rfl) ⟨Or.inr ⟨rfl, fun hk => ?_⟩, rfl⟩
    obtain ⟨q, rfl, hq⟩ := hk
    have eq : (nI q).toInt = q := nI_toInt (by omega)
    first | (change (nI q).toInt < (0 : Int) at g1; omega) | (rw [th_p24 n (by omega), nI_toInt (by omega), nI_toInt (by omega)] at g11; omega)
  · have g1 : ¬ (x).toInt < 0 := fun g => h1 (tn_ltI.mpr g)
    refine wp_ldi rfl tm_m1 ?_
    refine wq_con (x := 1) rfl (by decide) ?_
    refine wp_lda rfl tm_m0 ?_
    refine wq_geti rfl rfl (f := 1) rfl rfl (Or.inl rfl) ?_
    rw [hN]
    refine wq_ishl rfl ?_
    refine wq_icge rfl (fun h11 => ?_) (fun h11 => ?_)
    · have g11 : (1 <<< ((nI n) &&& 31)).toInt ≤ (x).toInt := tn_leI.mp h11
      refine wq_con (x := 0) rfl (by decide) ?_
      refine wp_reti rfl (th_n0 rfl) ⟨Or.inr ⟨rfl, fun hk => ?_⟩, rfl⟩
      obtain ⟨q, rfl, hq⟩ := hk
      have eq : (nI q).toInt = q := nI_toInt (by omega)
      first | (change (nI q).toInt < (0 : Int) at g1; omega) | (rw [th_p24 n (by omega), nI_toInt (by omega), nI_toInt (by omega)] at g11; omega)
    · have g11 : ¬ (1 <<< ((nI n) &&& 31)).toInt ≤ (x).toInt := fun g => h11 (tn_leI.mpr g)
      refine wq_con (x := 1) rfl (by decide) ?_
      refine wp_go rfl ?_
      change ¬ x.toInt < (0 : Int) at g1
      obtain ⟨q, q1, rfl⟩ := nI_of (x := x) (by rw [tn_ltI]; show ¬ x.toInt < 0; omega)
      rw [th_p24 n (by omega), nI_toInt (by omega), nI_toInt q1] at g11
      exact wp_reti rfl (th_n1 rfl) ⟨Or.inl ⟨rfl, q, rfl, by omega⟩, rfl⟩
set_option maxRecDepth 100000 in
set_option maxHeartbeats 4000000 in
theorem th_hnote {d n : Nat} {x : Int32} {σ : tm_S} (hN : σ.1 1 0 = nI n) (hn : n ≤ 12) : WM d 9 [.ref 1, .int x] σ (fun q σ' => ((q = some (.int 1) ∧ th_nt2 n x) ∨ (q = some (.int 0) ∧ ¬ th_nt2 n x)) ∧ σ = σ') := by
  have hp : 2 ^ n ≤ 4096 := Nat.pow_le_pow_right (n := 2) (by decide) hn
  show WP d 9 0 [(0, .ref 1), (1, .int x)] [] σ _
  refine wp_ldi rfl tm_m1 ?_
  refine wq_iflt rfl (fun h1 => ?_) (fun h1 => ?_)
  · have g1 : (x).toInt < 0 := tn_ltI.mp h1
    refine wq_con (x := 0) rfl (by decide) ?_
    refine wp_reti rfl (th_n0 rfl) ⟨Or.inr ⟨rfl, fun hk => ?_⟩, rfl⟩
    obtain ⟨q, rfl, hq⟩ := hk
    have eq : (nI q).toInt = q := nI_toInt (by omega)
    first | (change (nI q).toInt < (0 : Int) at g1; omega) | (rw [nI_toInt (by omega), nI_toInt (by omega)] at g9; omega)
  · have g1 : ¬ (x).toInt < 0 := fun g => h1 (tn_ltI.mpr g)
    refine wp_ldi rfl tm_m1 ?_
    refine wp_lda rfl tm_m0 ?_
    refine wq_geti rfl rfl (f := 0) rfl rfl (Or.inl rfl) ?_
    rw [hN]
    refine wq_icge rfl (fun h9 => ?_) (fun h9 => ?_)
    · have g9 : (nI n).toInt ≤ (x).toInt := tn_leI.mp h9
      refine wq_con (x := 0) rfl (by decide) ?_
      refine wp_reti rfl (th_n0 rfl) ⟨Or.inr ⟨rfl, fun hk => ?_⟩, rfl⟩
      obtain ⟨q, rfl, hq⟩ := hk
      have eq : (nI q).toInt = q := nI_toInt (by omega)
      first | (change (nI q).toInt < (0 : Int) at g1; omega) | (rw [nI_toInt (by omega), nI_toInt (by omega)] at g9; omega)
    · have g9 : ¬ (nI n).toInt ≤ (x).toInt := fun g => h9 (tn_leI.mpr g)
      refine wq_con (x := 1) rfl (by decide) ?_
      refine wp_go rfl ?_
      change ¬ x.toInt < (0 : Int) at g1
      obtain ⟨q, q1, rfl⟩ := nI_of (x := x) (by rw [tn_ltI]; show ¬ x.toInt < 0; omega)
      rw [nI_toInt (by omega), nI_toInt q1] at g9
      exact wp_reti rfl (th_n1 rfl) ⟨Or.inl ⟨rfl, q, rfl, by omega⟩, rfl⟩
set_option maxRecDepth 100000 in
set_option maxHeartbeats 4000000 in
theorem th_comm {d a c : Nat} {σ : tm_S} (ha : a < 25) (hc : c < 25) : WM d 164 [.ref 11, .int (nI a), .int (nI c)] σ (th_is (.int (nI (Nat.gcd a c))) σ) := by
  have k5 : ∀ (f x y : Nat), y ≤ f → x < 25 → y < 25 → Nat.gcd x y = Nat.gcd a c → WP d 164 5 [(4, .int (nI y)), (3, .int (nI x)), (0, .ref 11), (1, .int (nI a)), (2, .int (nI c))] [] σ (th_is (.int (nI (Nat.gcd a c))) σ) := by
    intro f
    induction f with
    | zero =>
      intro x y hf hx hy hg
      obtain rfl : y = 0 := by omega
      rw [Nat.gcd_zero_right] at hg
      refine wp_ldi rfl tm_m0 ?_
      refine wq_ifle rfl (fun h7 => ?_) (fun h7 => absurd (show nI 0 ≤ 0 by decide) h7)
      refine wp_ldi rfl tm_m1 ?_
      exact wp_reti rfl (th_nI rfl) ⟨by rw [hg], rfl⟩
    | succ f ih =>
      intro x y hf hx hy hg
      by_cases y0 : y = 0
      · exact ih x y (by omega) hx hy hg
      have hr : x % y < y := Nat.mod_lt _ (by omega)
      have hg2 : Nat.gcd y (x % y) = Nat.gcd a c := by rw [← hg, Nat.gcd_comm x y, Nat.gcd_rec y x, Nat.gcd_comm]
      refine wp_ldi rfl tm_m0 ?_
      refine wq_ifle rfl (fun h7 => absurd h7 (nI_nle (by omega) (by omega))) (fun h7 => ?_)
      refine wp_ldi rfl tm_m1 ?_
      refine wp_ldi rfl tm_m0 ?_
      refine wp_rem rfl (nI_ne0 (by omega) (by omega)) ?_
      rw [th_remN (by omega) (by omega) y0]
      refine wq_sti [(5, .int (nI (x % y))), (4, .int (nI y)), (3, .int (nI x)), (0, .ref 11), (1, .int (nI a)), (2, .int (nI c))] rfl rfl ?_
      refine wp_ldi rfl tm_m1 ?_
      refine wq_sti [(3, .int (nI y)), (5, .int (nI (x % y))), (4, .int (nI y)), (0, .ref 11), (1, .int (nI a)), (2, .int (nI c))] rfl rfl ?_
      refine wp_ldi rfl tm_m1 ?_
      refine wq_sti [(4, .int (nI (x % y))), (3, .int (nI y)), (5, .int (nI (x % y))), (0, .ref 11), (1, .int (nI a)), (2, .int (nI c))] rfl rfl ?_
      refine wp_go rfl ?_
      exact WP.less (ih y (x % y) (by omega) (by omega) (by omega) hg2) (by simp)
  show WP d 164 0 [(0, .ref 11), (1, .int (nI a)), (2, .int (nI c))] [] σ _
  refine wp_ldi rfl tm_m1 ?_
  refine wq_sti [(3, .int (nI a)), (0, .ref 11), (1, .int (nI a)), (2, .int (nI c))] rfl rfl ?_
  refine wp_ldi rfl tm_m3 ?_
  refine wq_sti [(4, .int (nI c)), (3, .int (nI a)), (0, .ref 11), (1, .int (nI a)), (2, .int (nI c))] rfl rfl ?_
  exact WP.less (k5 c a c (Nat.le_refl _) ha hc rfl) (by simp)
set_option maxRecDepth 100000 in
set_option maxHeartbeats 4000000 in
theorem th_icop {d n m : Nat} {σ : tm_S} (hN : σ.1 1 0 = nI n) (hn : n ≤ 12) (hm1 : 1 ≤ m) (hm : m < n) : WM d 8 [.ref 1, .int (nI m)] σ (fun q σ' => ((q = some (.int 1) ∧ (Nat.gcd m n = 1)) ∨ (q = some (.int 0) ∧ ¬ (Nat.gcd m n = 1))) ∧ σ = σ') := by
  have k2 : ∀ (f q : Nat), q + f = m + 1 → 2 ≤ q → (∀ i : Nat, 2 ≤ i → i < q → ¬ (m % i = 0 ∧ n % i = 0)) → WP d 8 2 [(2, .int (nI q)), (0, .ref 1), (1, .int (nI m))] [] σ (fun q σ' => ((q = some (.int 1) ∧ (Nat.gcd m n = 1)) ∨ (q = some (.int 0) ∧ ¬ (Nat.gcd m n = 1))) ∧ σ = σ') := by
    intro f
    induction f with
    | zero =>
      intro q hq h2 hi
      refine wp_ldi rfl tm_m0 ?_
      refine wp_ldi rfl tm_m2 ?_
      refine wq_icgt rfl (fun h4 => ?_) (fun h4 => absurd (nI_lt (show m < q by omega) (by omega)) h4)
      refine wq_con (x := 1) rfl (by decide) ?_
      refine wp_reti rfl (th_n1 rfl) ⟨Or.inl ⟨rfl, ?_⟩, rfl⟩
      have g1 : Nat.gcd m n ∣ m := Nat.gcd_dvd_left m n
      have g2 : Nat.gcd m n ∣ n := Nat.gcd_dvd_right m n
      have g3 : Nat.gcd m n ≤ m := Nat.le_of_dvd (by omega) g1
      have g4 : 0 < Nat.gcd m n := Nat.gcd_pos_of_pos_left _ (by omega)
      have g5 : ¬ 2 ≤ Nat.gcd m n := fun g => hi _ g (by omega) ⟨Nat.mod_eq_zero_of_dvd g1, Nat.mod_eq_zero_of_dvd g2⟩
      omega
    | succ f ih =>
      intro q hq h2 hi
      have r1 : m % q < q := Nat.mod_lt _ (by omega)
      have r2 : n % q < q := Nat.mod_lt _ (by omega)
      refine wp_ldi rfl tm_m0 ?_
      refine wp_ldi rfl tm_m2 ?_
      refine wq_icgt rfl (fun h4 => absurd h4 (nI_nlt (by omega) (by omega))) (fun h4 => ?_)
      refine wp_ldi rfl tm_m2 ?_
      refine wp_ldi rfl tm_m0 ?_
      refine wp_rem rfl (nI_ne0 (by omega) (by omega)) ?_
      rw [th_remN (by omega) (by omega) (by omega)]
      refine wq_ifne rfl (fun h10 => ?_) (fun h10 => ?_)
      · refine wq_inc (c := 1) [(2, .int ((nI q) + 1)), (0, .ref 1), (1, .int (nI m))] rfl tm_m0 rfl rfl ?_
        refine wp_go rfl ?_
        rw [nI_1]
        refine WP.less (ih (q + 1) (by omega) (by omega) (fun i i2 iq => ?_)) (by simp)
        rcases Nat.lt_or_ge i q with e | e
        · exact hi i i2 e
        · obtain rfl : i = q := by omega
          first | exact fun e => h10 (by rw [e.1]; rfl) | exact fun e => h19 (by rw [e.2]; rfl)
      · refine wp_lda rfl tm_m1 ?_
        refine wq_geti rfl rfl (f := 0) rfl rfl (Or.inl rfl) ?_
        rw [hN]
        refine wp_ldi rfl tm_m0 ?_
        refine wp_rem rfl (nI_ne0 (by omega) (by omega)) ?_
        rw [th_remN (by omega) (by omega) (by omega)]
        refine wq_ifne rfl (fun h19 => ?_) (fun h19 => ?_)
        · refine wq_inc (c := 1) [(2, .int ((nI q) + 1)), (0, .ref 1), (1, .int (nI m))] rfl tm_m0 rfl rfl ?_
          refine wp_go rfl ?_
          rw [nI_1]
          refine WP.less (ih (q + 1) (by omega) (by omega) (fun i i2 iq => ?_)) (by simp)
          rcases Nat.lt_or_ge i q with e | e
          · exact hi i i2 e
          · obtain rfl : i = q := by omega
            first | exact fun e => h10 (by rw [e.1]; rfl) | exact fun e => h19 (by rw [e.2]; rfl)
        · refine wq_con (x := 0) rfl (by decide) ?_
          refine wp_reti rfl (th_n0 rfl) ⟨Or.inr ⟨rfl, fun hk => ?_⟩, rfl⟩
          have e1 : m % q = 0 := (nI_eq (by omega) (by decide)).mp (Classical.not_not.mp h10)
          have e2 : n % q = 0 := (nI_eq (by omega) (by decide)).mp (Classical.not_not.mp h19)
          have e3 : q ∣ Nat.gcd m n := Nat.dvd_gcd (Nat.dvd_of_mod_eq_zero e1) (Nat.dvd_of_mod_eq_zero e2)
          rw [hk] at e3
          have := Nat.le_of_dvd (by decide) e3
          omega
  show WP d 8 0 [(0, .ref 1), (1, .int (nI m))] [] σ _
  refine wq_con (x := nI 2) rfl (by decide) ?_
  refine wq_sti [(2, .int (nI 2)), (0, .ref 1), (1, .int (nI m))] rfl rfl ?_
  exact WP.less (k2 (m - 1) 2 (by omega) (by omega) (fun i i2 iq => absurd i2 (by omega))) (by simp)
theorem th_fn {n g : Nat} {x : Int32} (hn : n ≤ 12) (h : x.toInt < 1 ∨ ¬ x.toInt < n) : ¬ th_fP n g x := by
  rintro ⟨m, rfl, hm⟩
  have h1 := th_fac_lt hm
  have e : (nI m).toInt = m := nI_toInt (by omega)
  omega
theorem th_fy {n g m : Nat} (h1 : 1 ≤ m) (hm : m < n) (h : (g = 2 ∧ Nat.gcd m n = 1) ∨ (¬ g = 2 ∧ (m = 1 ∨ (g = 1 ∧ m = n - 1)))) : th_fac n g m = true := by
  unfold th_fac
  rcases h with ⟨rfl, h⟩ | ⟨h2, h⟩
  · simp [h1, hm, h]
  · simp only [h1, hm, h2, decide_true, Bool.true_and, if_false, Bool.or_eq_true, decide_eq_true_eq, Bool.and_eq_true]
    exact h
theorem th_fz {n g m : Nat} (h : th_fac n g m = true) : (g = 2 ∧ Nat.gcd m n = 1) ∨ (¬ g = 2 ∧ (m = 1 ∨ (g = 1 ∧ m = n - 1))) := by
  unfold th_fac at h
  by_cases h2 : g = 2
  · subst h2
    simp at h
    exact Or.inl ⟨rfl, h.2.2⟩
  · simp only [h2, if_false, Bool.or_eq_true, decide_eq_true_eq, Bool.and_eq_true] at h
    exact Or.inr ⟨h2, h.2.2⟩
set_option maxRecDepth 100000 in
set_option maxHeartbeats 4000000 in
theorem th_xfac {d n g : Nat} {x : Int32} {σ : tm_S} (hN : σ.1 1 0 = nI n) (hn : n ≤ 12) (h3 : 3 ≤ n) (hg : g ≤ 2) : WM (d + 1) 7 [.ref 1, .int (nI g), .int x] σ (fun q σ' => ((q = some (.int 1) ∧ th_fP n g x) ∨ (q = some (.int 0) ∧ ¬ th_fP n g x)) ∧ σ = σ') := by
  have eN : (nI n).toInt = n := nI_toInt (by omega)
  have k15 : ∀ m : Nat, 1 ≤ m → m < n → WP (d + 1) 7 15 [(0, .ref 1), (1, .int (nI g)), (2, .int (nI m))] [] σ (fun q σ' => ((q = some (.int 1) ∧ th_fP n g (nI m)) ∨ (q = some (.int 0) ∧ ¬ th_fP n g (nI m))) ∧ σ = σ') := by
    intro m m1 m2
    have ep : nI n - 1 = nI (n - 1) := by rw [show n = (n - 1) + 1 by omega]; exact nI_pred _
    refine wp_ldi rfl tm_m1 ?_
    refine wq_con (x := 2) rfl (by decide) ?_
    refine wq_icne rfl (fun h17 => ?_) (fun h17 => ?_)
    · refine wp_ldi rfl tm_m2 ?_
      refine wq_con (x := 1) rfl (by decide) ?_
      refine wq_iceq rfl (fun h28 => ?_) (fun h28 => ?_)
      · refine wq_con (x := 1) rfl (by decide) ?_
        refine wp_go rfl ?_
        have hf := th_fP_iff (n := n) (g := g) (m := m) hn (by omega)
        have fz : ∀ k : Nat, k ≤ 12 → (nI g = nI k ↔ g = k) := fun k hk => nI_eq (by omega) (by omega)
        have fm : ∀ k : Nat, k ≤ 12 → (nI m = nI k ↔ m = k) := fun k hk => nI_eq (by omega) (by omega)
        refine wp_reti rfl (th_n1 rfl) ⟨Or.inl ⟨rfl, hf.mpr (th_fy m1 m2 ?_)⟩, rfl⟩
        first | (have a17 : ¬ g = 2 := fun e => h17 ((fz 2 (by decide)).mpr e); have a28 : m = 1 := (fm 1 (by decide)).mp h28; omega) | (have a17 : ¬ g = 2 := fun e => h17 ((fz 2 (by decide)).mpr e); have a28 : ¬ m = 1 := fun e => h28 ((fm 1 (by decide)).mpr e); have a33 : ¬ g = 1 := fun e => h33 ((fz 1 (by decide)).mpr e); omega) | (have a17 : ¬ g = 2 := fun e => h17 ((fz 2 (by decide)).mpr e); have a28 : ¬ m = 1 := fun e => h28 ((fm 1 (by decide)).mpr e); have a33 : g = 1 := (fz 1 (by decide)).mp (Classical.not_not.mp h33); have a43 : ¬ m = n - 1 := fun e => h43 ((fm (n - 1) (by omega)).mpr e); omega) | (have a17 : ¬ g = 2 := fun e => h17 ((fz 2 (by decide)).mpr e); have a28 : ¬ m = 1 := fun e => h28 ((fm 1 (by decide)).mpr e); have a33 : g = 1 := (fz 1 (by decide)).mp (Classical.not_not.mp h33); have a43 : m = n - 1 := (fm (n - 1) (by omega)).mp (Classical.not_not.mp h43); omega)
      · refine wp_ldi rfl tm_m1 ?_
        refine wq_con (x := 1) rfl (by decide) ?_
        refine wq_icne rfl (fun h33 => ?_) (fun h33 => ?_)
        · refine wq_con (x := 0) rfl (by decide) ?_
          have hf := th_fP_iff (n := n) (g := g) (m := m) hn (by omega)
          have fz : ∀ k : Nat, k ≤ 12 → (nI g = nI k ↔ g = k) := fun k hk => nI_eq (by omega) (by omega)
          have fm : ∀ k : Nat, k ≤ 12 → (nI m = nI k ↔ m = k) := fun k hk => nI_eq (by omega) (by omega)
          refine wp_reti rfl (th_n0 rfl) ⟨Or.inr ⟨rfl, fun hk => ?_⟩, rfl⟩
          have hz := th_fz (hf.mp hk)
          first | (have a17 : ¬ g = 2 := fun e => h17 ((fz 2 (by decide)).mpr e); have a28 : m = 1 := (fm 1 (by decide)).mp h28; omega) | (have a17 : ¬ g = 2 := fun e => h17 ((fz 2 (by decide)).mpr e); have a28 : ¬ m = 1 := fun e => h28 ((fm 1 (by decide)).mpr e); have a33 : ¬ g = 1 := fun e => h33 ((fz 1 (by decide)).mpr e); omega) | (have a17 : ¬ g = 2 := fun e => h17 ((fz 2 (by decide)).mpr e); have a28 : ¬ m = 1 := fun e => h28 ((fm 1 (by decide)).mpr e); have a33 : g = 1 := (fz 1 (by decide)).mp (Classical.not_not.mp h33); have a43 : ¬ m = n - 1 := fun e => h43 ((fm (n - 1) (by omega)).mpr e); omega) | (have a17 : ¬ g = 2 := fun e => h17 ((fz 2 (by decide)).mpr e); have a28 : ¬ m = 1 := fun e => h28 ((fm 1 (by decide)).mpr e); have a33 : g = 1 := (fz 1 (by decide)).mp (Classical.not_not.mp h33); have a43 : m = n - 1 := (fm (n - 1) (by omega)).mp (Classical.not_not.mp h43); omega)
        · refine wp_ldi rfl tm_m2 ?_
          refine wp_lda rfl tm_m0 ?_
          refine wq_geti rfl rfl (f := 0) rfl rfl (Or.inl rfl) ?_
          rw [hN]
          refine wq_con (x := 1) rfl (by decide) ?_
          refine wq_isub rfl ?_
          rw [ep]
          refine wq_icne rfl (fun h43 => ?_) (fun h43 => ?_)
          · refine wq_con (x := 0) rfl (by decide) ?_
            have hf := th_fP_iff (n := n) (g := g) (m := m) hn (by omega)
            have fz : ∀ k : Nat, k ≤ 12 → (nI g = nI k ↔ g = k) := fun k hk => nI_eq (by omega) (by omega)
            have fm : ∀ k : Nat, k ≤ 12 → (nI m = nI k ↔ m = k) := fun k hk => nI_eq (by omega) (by omega)
            refine wp_reti rfl (th_n0 rfl) ⟨Or.inr ⟨rfl, fun hk => ?_⟩, rfl⟩
            have hz := th_fz (hf.mp hk)
            first | (have a17 : ¬ g = 2 := fun e => h17 ((fz 2 (by decide)).mpr e); have a28 : m = 1 := (fm 1 (by decide)).mp h28; omega) | (have a17 : ¬ g = 2 := fun e => h17 ((fz 2 (by decide)).mpr e); have a28 : ¬ m = 1 := fun e => h28 ((fm 1 (by decide)).mpr e); have a33 : ¬ g = 1 := fun e => h33 ((fz 1 (by decide)).mpr e); omega) | (have a17 : ¬ g = 2 := fun e => h17 ((fz 2 (by decide)).mpr e); have a28 : ¬ m = 1 := fun e => h28 ((fm 1 (by decide)).mpr e); have a33 : g = 1 := (fz 1 (by decide)).mp (Classical.not_not.mp h33); have a43 : ¬ m = n - 1 := fun e => h43 ((fm (n - 1) (by omega)).mpr e); omega) | (have a17 : ¬ g = 2 := fun e => h17 ((fz 2 (by decide)).mpr e); have a28 : ¬ m = 1 := fun e => h28 ((fm 1 (by decide)).mpr e); have a33 : g = 1 := (fz 1 (by decide)).mp (Classical.not_not.mp h33); have a43 : m = n - 1 := (fm (n - 1) (by omega)).mp (Classical.not_not.mp h43); omega)
          · refine wq_con (x := 1) rfl (by decide) ?_
            refine wp_go rfl ?_
            have hf := th_fP_iff (n := n) (g := g) (m := m) hn (by omega)
            have fz : ∀ k : Nat, k ≤ 12 → (nI g = nI k ↔ g = k) := fun k hk => nI_eq (by omega) (by omega)
            have fm : ∀ k : Nat, k ≤ 12 → (nI m = nI k ↔ m = k) := fun k hk => nI_eq (by omega) (by omega)
            refine wp_reti rfl (th_n1 rfl) ⟨Or.inl ⟨rfl, hf.mpr (th_fy m1 m2 ?_)⟩, rfl⟩
            first | (have a17 : ¬ g = 2 := fun e => h17 ((fz 2 (by decide)).mpr e); have a28 : m = 1 := (fm 1 (by decide)).mp h28; omega) | (have a17 : ¬ g = 2 := fun e => h17 ((fz 2 (by decide)).mpr e); have a28 : ¬ m = 1 := fun e => h28 ((fm 1 (by decide)).mpr e); have a33 : ¬ g = 1 := fun e => h33 ((fz 1 (by decide)).mpr e); omega) | (have a17 : ¬ g = 2 := fun e => h17 ((fz 2 (by decide)).mpr e); have a28 : ¬ m = 1 := fun e => h28 ((fm 1 (by decide)).mpr e); have a33 : g = 1 := (fz 1 (by decide)).mp (Classical.not_not.mp h33); have a43 : ¬ m = n - 1 := fun e => h43 ((fm (n - 1) (by omega)).mpr e); omega) | (have a17 : ¬ g = 2 := fun e => h17 ((fz 2 (by decide)).mpr e); have a28 : ¬ m = 1 := fun e => h28 ((fm 1 (by decide)).mpr e); have a33 : g = 1 := (fz 1 (by decide)).mp (Classical.not_not.mp h33); have a43 : m = n - 1 := (fm (n - 1) (by omega)).mp (Classical.not_not.mp h43); omega)
    · refine wp_lda rfl tm_m0 ?_
      refine wp_ldi rfl tm_m2 ?_
      refine wq_calv [.int (nI m)] rfl rfl rfl rfl rfl rfl rfl rfl rfl (th_icop hN hn m1 m2) ?_
      rintro r22 _ ⟨hr22, rfl⟩
      obtain ⟨z22, rfl⟩ : ∃ z : Int32, r22 = some (.int z) := by
        rcases hr22 with ⟨rfl, -⟩ | ⟨rfl, -⟩ <;> exact ⟨_, rfl⟩
      obtain rfl : g = 2 := (nI_eq (by omega) (by decide)).mp (Classical.not_not.mp h17)
      have hf := th_fP_iff (n := n) (g := 2) (m := m) hn (by omega)
      rcases hr22 with ⟨e, g⟩ | ⟨e, g⟩
      · cases e
        exact wp_reti rfl (th_n1 rfl) ⟨Or.inl ⟨rfl, hf.mpr (th_fy m1 m2 (Or.inl ⟨rfl, g⟩))⟩, rfl⟩
      · cases e
        exact wp_reti rfl (th_n0 rfl) ⟨Or.inr ⟨rfl, fun hk => (th_fz (hf.mp hk)).elim (fun q => g q.2) (fun q => q.1 rfl)⟩, rfl⟩
  show WP (d + 1) 7 0 [(0, .ref 1), (1, .int (nI g)), (2, .int x)] [] σ _
  refine wp_ldi rfl tm_m2 ?_
  refine wq_con (x := 1) rfl (by decide) ?_
  refine wq_iclt rfl (fun h2 => ?_) (fun h2 => ?_)
  · have g2 : (x).toInt < 1 := tn_ltI.mp h2
    refine wq_con (x := 0) rfl (by decide) ?_
    refine wp_reti rfl (th_n0 rfl) ⟨Or.inr ⟨rfl, th_fn hn ?_⟩, rfl⟩
    first | exact Or.inl g2 | (rw [eN] at g10; exact Or.inr g10)
  · have g2 : ¬ (x).toInt < 1 := fun g => h2 (tn_ltI.mpr g)
    refine wp_ldi rfl tm_m2 ?_
    refine wp_lda rfl tm_m0 ?_
    refine wq_geti rfl rfl (f := 0) rfl rfl (Or.inl rfl) ?_
    rw [hN]
    refine wq_iclt rfl (fun h10 => ?_) (fun h10 => ?_)
    · have g10 : (x).toInt < (nI n).toInt := tn_ltI.mp h10
      change ¬ x.toInt < (1 : Int) at g2
      obtain ⟨m, q1, rfl⟩ := nI_of (x := x) (by rw [tn_ltI]; show ¬ x.toInt < 0; omega)
      rw [nI_toInt q1] at g2
      rw [nI_toInt q1, eN] at g10
      exact k15 m (by omega) (by omega)
    · have g10 : ¬ (x).toInt < (nI n).toInt := fun g => h10 (tn_ltI.mpr g)
      refine wq_con (x := 0) rfl (by decide) ?_
      refine wp_reti rfl (th_n0 rfl) ⟨Or.inr ⟨rfl, th_fn hn ?_⟩, rfl⟩
      first | exact Or.inl g2 | (rw [eN] at g10; exact Or.inr g10)
set_option maxRecDepth 100000 in
set_option maxHeartbeats 4000000 in
theorem th_mfac {d n g : Nat} {x : Int32} {σ : tm_S} (hN : σ.1 11 1 = nI n) (hn : n ≤ 12) (h3 : 3 ≤ n) (hg : g ≤ 2) : WM (d + 1) 163 [.ref 11, .int (nI g), .int x] σ (fun q σ' => ((q = some (.int 1) ∧ th_fP n g x) ∨ (q = some (.int 0) ∧ ¬ th_fP n g x)) ∧ σ = σ') := by
  have eN : (nI n).toInt = n := nI_toInt (by omega)
  have k15 : ∀ m : Nat, 1 ≤ m → m < n → WP (d + 1) 163 15 [(0, .ref 11), (1, .int (nI g)), (2, .int (nI m))] [] σ (fun q σ' => ((q = some (.int 1) ∧ th_fP n g (nI m)) ∨ (q = some (.int 0) ∧ ¬ th_fP n g (nI m))) ∧ σ = σ') := by
    intro m m1 m2
    have ep : nI n - 1 = nI (n - 1) := by rw [show n = (n - 1) + 1 by omega]; exact nI_pred _
    refine wp_ldi rfl tm_m1 ?_
    refine wq_ifne rfl (fun h16 => ?_) (fun h16 => ?_)
    · refine wp_ldi rfl tm_m1 ?_
      refine wq_con (x := 1) rfl (by decide) ?_
      refine wq_icne rfl (fun h32 => ?_) (fun h32 => ?_)
      · refine wp_lda rfl tm_m0 ?_
        refine wp_ldi rfl tm_m2 ?_
        refine wp_lda rfl tm_m0 ?_
        refine wq_geti rfl rfl (f := 1) rfl rfl (Or.inl rfl) ?_
        rw [hN]
        refine wq_calv [.int (nI m), .int (nI n)] rfl rfl rfl rfl rfl rfl rfl rfl rfl (th_comm (by omega) (by omega)) ?_
        rintro _ _ ⟨rfl, rfl⟩
        refine wq_con (x := 1) rfl (by decide) ?_
        refine wq_icne rfl (fun h68 => ?_) (fun h68 => ?_)
        · refine wq_con (x := 0) rfl (by decide) ?_
          have hf := th_fP_iff (n := n) (g := g) (m := m) hn (by omega)
          have fz : ∀ k : Nat, k ≤ 12 → (nI g = nI k ↔ g = k) := fun k hk => nI_eq (by omega) (by omega)
          have fm : ∀ k : Nat, k ≤ 12 → (nI m = nI k ↔ m = k) := fun k hk => nI_eq (by omega) (by omega)
          refine wp_reti rfl (th_n0 rfl) ⟨Or.inr ⟨rfl, fun hk => ?_⟩, rfl⟩
          have hz := th_fz (hf.mp hk)
          first | (have a16 : g = 0 := (fz 0 (by decide)).mp (Classical.not_not.mp h16); have a21 : m = 1 := (fm 1 (by decide)).mp (Classical.not_not.mp h21); omega) | (have a16 : g = 0 := (fz 0 (by decide)).mp (Classical.not_not.mp h16); have a21 : ¬ m = 1 := fun e => h21 ((fm 1 (by decide)).mpr e); omega) | (have a16 : ¬ g = 0 := fun e => h16 ((fz 0 (by decide)).mpr e); have a32 : g = 1 := (fz 1 (by decide)).mp (Classical.not_not.mp h32); have a37 : m = 1 := (fm 1 (by decide)).mp h37; omega) | (have a16 : ¬ g = 0 := fun e => h16 ((fz 0 (by decide)).mpr e); have a32 : g = 1 := (fz 1 (by decide)).mp (Classical.not_not.mp h32); have a37 : ¬ m = 1 := fun e => h37 ((fm 1 (by decide)).mpr e); have a47 : m = n - 1 := (fm (n - 1) (by omega)).mp (Classical.not_not.mp h47); omega) | (have a16 : ¬ g = 0 := fun e => h16 ((fz 0 (by decide)).mpr e); have a32 : g = 1 := (fz 1 (by decide)).mp (Classical.not_not.mp h32); have a37 : ¬ m = 1 := fun e => h37 ((fm 1 (by decide)).mpr e); have a47 : ¬ m = n - 1 := fun e => h47 ((fm (n - 1) (by omega)).mpr e); omega) | (have a16 : ¬ g = 0 := fun e => h16 ((fz 0 (by decide)).mpr e); have a32 : ¬ g = 1 := fun e => h32 ((fz 1 (by decide)).mpr e); have gl : Nat.gcd m n ≤ m := Nat.le_of_dvd (by omega) (Nat.gcd_dvd_left m n); have a68 : Nat.gcd m n = 1 := (nI_eq (by omega) (by decide)).mp (Classical.not_not.mp h68); omega) | (have a16 : ¬ g = 0 := fun e => h16 ((fz 0 (by decide)).mpr e); have a32 : ¬ g = 1 := fun e => h32 ((fz 1 (by decide)).mpr e); have gl : Nat.gcd m n ≤ m := Nat.le_of_dvd (by omega) (Nat.gcd_dvd_left m n); have a68 : ¬ Nat.gcd m n = 1 := fun e => h68 (by rw [e]; rfl); omega)
        · refine wq_con (x := 1) rfl (by decide) ?_
          refine wp_go rfl ?_
          have hf := th_fP_iff (n := n) (g := g) (m := m) hn (by omega)
          have fz : ∀ k : Nat, k ≤ 12 → (nI g = nI k ↔ g = k) := fun k hk => nI_eq (by omega) (by omega)
          have fm : ∀ k : Nat, k ≤ 12 → (nI m = nI k ↔ m = k) := fun k hk => nI_eq (by omega) (by omega)
          refine wp_reti rfl (th_n1 rfl) ⟨Or.inl ⟨rfl, hf.mpr (th_fy m1 m2 ?_)⟩, rfl⟩
          first | (have a16 : g = 0 := (fz 0 (by decide)).mp (Classical.not_not.mp h16); have a21 : m = 1 := (fm 1 (by decide)).mp (Classical.not_not.mp h21); omega) | (have a16 : g = 0 := (fz 0 (by decide)).mp (Classical.not_not.mp h16); have a21 : ¬ m = 1 := fun e => h21 ((fm 1 (by decide)).mpr e); omega) | (have a16 : ¬ g = 0 := fun e => h16 ((fz 0 (by decide)).mpr e); have a32 : g = 1 := (fz 1 (by decide)).mp (Classical.not_not.mp h32); have a37 : m = 1 := (fm 1 (by decide)).mp h37; omega) | (have a16 : ¬ g = 0 := fun e => h16 ((fz 0 (by decide)).mpr e); have a32 : g = 1 := (fz 1 (by decide)).mp (Classical.not_not.mp h32); have a37 : ¬ m = 1 := fun e => h37 ((fm 1 (by decide)).mpr e); have a47 : m = n - 1 := (fm (n - 1) (by omega)).mp (Classical.not_not.mp h47); omega) | (have a16 : ¬ g = 0 := fun e => h16 ((fz 0 (by decide)).mpr e); have a32 : g = 1 := (fz 1 (by decide)).mp (Classical.not_not.mp h32); have a37 : ¬ m = 1 := fun e => h37 ((fm 1 (by decide)).mpr e); have a47 : ¬ m = n - 1 := fun e => h47 ((fm (n - 1) (by omega)).mpr e); omega) | (have a16 : ¬ g = 0 := fun e => h16 ((fz 0 (by decide)).mpr e); have a32 : ¬ g = 1 := fun e => h32 ((fz 1 (by decide)).mpr e); have gl : Nat.gcd m n ≤ m := Nat.le_of_dvd (by omega) (Nat.gcd_dvd_left m n); have a68 : Nat.gcd m n = 1 := (nI_eq (by omega) (by decide)).mp (Classical.not_not.mp h68); omega) | (have a16 : ¬ g = 0 := fun e => h16 ((fz 0 (by decide)).mpr e); have a32 : ¬ g = 1 := fun e => h32 ((fz 1 (by decide)).mpr e); have gl : Nat.gcd m n ≤ m := Nat.le_of_dvd (by omega) (Nat.gcd_dvd_left m n); have a68 : ¬ Nat.gcd m n = 1 := fun e => h68 (by rw [e]; rfl); omega)
      · refine wp_ldi rfl tm_m2 ?_
        refine wq_con (x := 1) rfl (by decide) ?_
        refine wq_iceq rfl (fun h37 => ?_) (fun h37 => ?_)
        · refine wq_con (x := 1) rfl (by decide) ?_
          refine wp_go rfl ?_
          have hf := th_fP_iff (n := n) (g := g) (m := m) hn (by omega)
          have fz : ∀ k : Nat, k ≤ 12 → (nI g = nI k ↔ g = k) := fun k hk => nI_eq (by omega) (by omega)
          have fm : ∀ k : Nat, k ≤ 12 → (nI m = nI k ↔ m = k) := fun k hk => nI_eq (by omega) (by omega)
          refine wp_reti rfl (th_n1 rfl) ⟨Or.inl ⟨rfl, hf.mpr (th_fy m1 m2 ?_)⟩, rfl⟩
          first | (have a16 : g = 0 := (fz 0 (by decide)).mp (Classical.not_not.mp h16); have a21 : m = 1 := (fm 1 (by decide)).mp (Classical.not_not.mp h21); omega) | (have a16 : g = 0 := (fz 0 (by decide)).mp (Classical.not_not.mp h16); have a21 : ¬ m = 1 := fun e => h21 ((fm 1 (by decide)).mpr e); omega) | (have a16 : ¬ g = 0 := fun e => h16 ((fz 0 (by decide)).mpr e); have a32 : g = 1 := (fz 1 (by decide)).mp (Classical.not_not.mp h32); have a37 : m = 1 := (fm 1 (by decide)).mp h37; omega) | (have a16 : ¬ g = 0 := fun e => h16 ((fz 0 (by decide)).mpr e); have a32 : g = 1 := (fz 1 (by decide)).mp (Classical.not_not.mp h32); have a37 : ¬ m = 1 := fun e => h37 ((fm 1 (by decide)).mpr e); have a47 : m = n - 1 := (fm (n - 1) (by omega)).mp (Classical.not_not.mp h47); omega) | (have a16 : ¬ g = 0 := fun e => h16 ((fz 0 (by decide)).mpr e); have a32 : g = 1 := (fz 1 (by decide)).mp (Classical.not_not.mp h32); have a37 : ¬ m = 1 := fun e => h37 ((fm 1 (by decide)).mpr e); have a47 : ¬ m = n - 1 := fun e => h47 ((fm (n - 1) (by omega)).mpr e); omega) | (have a16 : ¬ g = 0 := fun e => h16 ((fz 0 (by decide)).mpr e); have a32 : ¬ g = 1 := fun e => h32 ((fz 1 (by decide)).mpr e); have gl : Nat.gcd m n ≤ m := Nat.le_of_dvd (by omega) (Nat.gcd_dvd_left m n); have a68 : Nat.gcd m n = 1 := (nI_eq (by omega) (by decide)).mp (Classical.not_not.mp h68); omega) | (have a16 : ¬ g = 0 := fun e => h16 ((fz 0 (by decide)).mpr e); have a32 : ¬ g = 1 := fun e => h32 ((fz 1 (by decide)).mpr e); have gl : Nat.gcd m n ≤ m := Nat.le_of_dvd (by omega) (Nat.gcd_dvd_left m n); have a68 : ¬ Nat.gcd m n = 1 := fun e => h68 (by rw [e]; rfl); omega)
        · refine wp_ldi rfl tm_m2 ?_
          refine wp_lda rfl tm_m0 ?_
          refine wq_geti rfl rfl (f := 1) rfl rfl (Or.inl rfl) ?_
          rw [hN]
          refine wq_con (x := 1) rfl (by decide) ?_
          refine wq_isub rfl ?_
          rw [ep]
          refine wq_icne rfl (fun h47 => ?_) (fun h47 => ?_)
          · refine wq_con (x := 0) rfl (by decide) ?_
            refine wp_go rfl ?_
            have hf := th_fP_iff (n := n) (g := g) (m := m) hn (by omega)
            have fz : ∀ k : Nat, k ≤ 12 → (nI g = nI k ↔ g = k) := fun k hk => nI_eq (by omega) (by omega)
            have fm : ∀ k : Nat, k ≤ 12 → (nI m = nI k ↔ m = k) := fun k hk => nI_eq (by omega) (by omega)
            refine wp_reti rfl (th_n0 rfl) ⟨Or.inr ⟨rfl, fun hk => ?_⟩, rfl⟩
            have hz := th_fz (hf.mp hk)
            first | (have a16 : g = 0 := (fz 0 (by decide)).mp (Classical.not_not.mp h16); have a21 : m = 1 := (fm 1 (by decide)).mp (Classical.not_not.mp h21); omega) | (have a16 : g = 0 := (fz 0 (by decide)).mp (Classical.not_not.mp h16); have a21 : ¬ m = 1 := fun e => h21 ((fm 1 (by decide)).mpr e); omega) | (have a16 : ¬ g = 0 := fun e => h16 ((fz 0 (by decide)).mpr e); have a32 : g = 1 := (fz 1 (by decide)).mp (Classical.not_not.mp h32); have a37 : m = 1 := (fm 1 (by decide)).mp h37; omega) | (have a16 : ¬ g = 0 := fun e => h16 ((fz 0 (by decide)).mpr e); have a32 : g = 1 := (fz 1 (by decide)).mp (Classical.not_not.mp h32); have a37 : ¬ m = 1 := fun e => h37 ((fm 1 (by decide)).mpr e); have a47 : m = n - 1 := (fm (n - 1) (by omega)).mp (Classical.not_not.mp h47); omega) | (have a16 : ¬ g = 0 := fun e => h16 ((fz 0 (by decide)).mpr e); have a32 : g = 1 := (fz 1 (by decide)).mp (Classical.not_not.mp h32); have a37 : ¬ m = 1 := fun e => h37 ((fm 1 (by decide)).mpr e); have a47 : ¬ m = n - 1 := fun e => h47 ((fm (n - 1) (by omega)).mpr e); omega) | (have a16 : ¬ g = 0 := fun e => h16 ((fz 0 (by decide)).mpr e); have a32 : ¬ g = 1 := fun e => h32 ((fz 1 (by decide)).mpr e); have gl : Nat.gcd m n ≤ m := Nat.le_of_dvd (by omega) (Nat.gcd_dvd_left m n); have a68 : Nat.gcd m n = 1 := (nI_eq (by omega) (by decide)).mp (Classical.not_not.mp h68); omega) | (have a16 : ¬ g = 0 := fun e => h16 ((fz 0 (by decide)).mpr e); have a32 : ¬ g = 1 := fun e => h32 ((fz 1 (by decide)).mpr e); have gl : Nat.gcd m n ≤ m := Nat.le_of_dvd (by omega) (Nat.gcd_dvd_left m n); have a68 : ¬ Nat.gcd m n = 1 := fun e => h68 (by rw [e]; rfl); omega)
          · refine wq_con (x := 1) rfl (by decide) ?_
            refine wp_go rfl ?_
            have hf := th_fP_iff (n := n) (g := g) (m := m) hn (by omega)
            have fz : ∀ k : Nat, k ≤ 12 → (nI g = nI k ↔ g = k) := fun k hk => nI_eq (by omega) (by omega)
            have fm : ∀ k : Nat, k ≤ 12 → (nI m = nI k ↔ m = k) := fun k hk => nI_eq (by omega) (by omega)
            refine wp_reti rfl (th_n1 rfl) ⟨Or.inl ⟨rfl, hf.mpr (th_fy m1 m2 ?_)⟩, rfl⟩
            first | (have a16 : g = 0 := (fz 0 (by decide)).mp (Classical.not_not.mp h16); have a21 : m = 1 := (fm 1 (by decide)).mp (Classical.not_not.mp h21); omega) | (have a16 : g = 0 := (fz 0 (by decide)).mp (Classical.not_not.mp h16); have a21 : ¬ m = 1 := fun e => h21 ((fm 1 (by decide)).mpr e); omega) | (have a16 : ¬ g = 0 := fun e => h16 ((fz 0 (by decide)).mpr e); have a32 : g = 1 := (fz 1 (by decide)).mp (Classical.not_not.mp h32); have a37 : m = 1 := (fm 1 (by decide)).mp h37; omega) | (have a16 : ¬ g = 0 := fun e => h16 ((fz 0 (by decide)).mpr e); have a32 : g = 1 := (fz 1 (by decide)).mp (Classical.not_not.mp h32); have a37 : ¬ m = 1 := fun e => h37 ((fm 1 (by decide)).mpr e); have a47 : m = n - 1 := (fm (n - 1) (by omega)).mp (Classical.not_not.mp h47); omega) | (have a16 : ¬ g = 0 := fun e => h16 ((fz 0 (by decide)).mpr e); have a32 : g = 1 := (fz 1 (by decide)).mp (Classical.not_not.mp h32); have a37 : ¬ m = 1 := fun e => h37 ((fm 1 (by decide)).mpr e); have a47 : ¬ m = n - 1 := fun e => h47 ((fm (n - 1) (by omega)).mpr e); omega) | (have a16 : ¬ g = 0 := fun e => h16 ((fz 0 (by decide)).mpr e); have a32 : ¬ g = 1 := fun e => h32 ((fz 1 (by decide)).mpr e); have gl : Nat.gcd m n ≤ m := Nat.le_of_dvd (by omega) (Nat.gcd_dvd_left m n); have a68 : Nat.gcd m n = 1 := (nI_eq (by omega) (by decide)).mp (Classical.not_not.mp h68); omega) | (have a16 : ¬ g = 0 := fun e => h16 ((fz 0 (by decide)).mpr e); have a32 : ¬ g = 1 := fun e => h32 ((fz 1 (by decide)).mpr e); have gl : Nat.gcd m n ≤ m := Nat.le_of_dvd (by omega) (Nat.gcd_dvd_left m n); have a68 : ¬ Nat.gcd m n = 1 := fun e => h68 (by rw [e]; rfl); omega)
    · refine wp_ldi rfl tm_m2 ?_
      refine wq_con (x := 1) rfl (by decide) ?_
      refine wq_icne rfl (fun h21 => ?_) (fun h21 => ?_)
      · refine wq_con (x := 0) rfl (by decide) ?_
        have hf := th_fP_iff (n := n) (g := g) (m := m) hn (by omega)
        have fz : ∀ k : Nat, k ≤ 12 → (nI g = nI k ↔ g = k) := fun k hk => nI_eq (by omega) (by omega)
        have fm : ∀ k : Nat, k ≤ 12 → (nI m = nI k ↔ m = k) := fun k hk => nI_eq (by omega) (by omega)
        refine wp_reti rfl (th_n0 rfl) ⟨Or.inr ⟨rfl, fun hk => ?_⟩, rfl⟩
        have hz := th_fz (hf.mp hk)
        first | (have a16 : g = 0 := (fz 0 (by decide)).mp (Classical.not_not.mp h16); have a21 : m = 1 := (fm 1 (by decide)).mp (Classical.not_not.mp h21); omega) | (have a16 : g = 0 := (fz 0 (by decide)).mp (Classical.not_not.mp h16); have a21 : ¬ m = 1 := fun e => h21 ((fm 1 (by decide)).mpr e); omega) | (have a16 : ¬ g = 0 := fun e => h16 ((fz 0 (by decide)).mpr e); have a32 : g = 1 := (fz 1 (by decide)).mp (Classical.not_not.mp h32); have a37 : m = 1 := (fm 1 (by decide)).mp h37; omega) | (have a16 : ¬ g = 0 := fun e => h16 ((fz 0 (by decide)).mpr e); have a32 : g = 1 := (fz 1 (by decide)).mp (Classical.not_not.mp h32); have a37 : ¬ m = 1 := fun e => h37 ((fm 1 (by decide)).mpr e); have a47 : m = n - 1 := (fm (n - 1) (by omega)).mp (Classical.not_not.mp h47); omega) | (have a16 : ¬ g = 0 := fun e => h16 ((fz 0 (by decide)).mpr e); have a32 : g = 1 := (fz 1 (by decide)).mp (Classical.not_not.mp h32); have a37 : ¬ m = 1 := fun e => h37 ((fm 1 (by decide)).mpr e); have a47 : ¬ m = n - 1 := fun e => h47 ((fm (n - 1) (by omega)).mpr e); omega) | (have a16 : ¬ g = 0 := fun e => h16 ((fz 0 (by decide)).mpr e); have a32 : ¬ g = 1 := fun e => h32 ((fz 1 (by decide)).mpr e); have gl : Nat.gcd m n ≤ m := Nat.le_of_dvd (by omega) (Nat.gcd_dvd_left m n); have a68 : Nat.gcd m n = 1 := (nI_eq (by omega) (by decide)).mp (Classical.not_not.mp h68); omega) | (have a16 : ¬ g = 0 := fun e => h16 ((fz 0 (by decide)).mpr e); have a32 : ¬ g = 1 := fun e => h32 ((fz 1 (by decide)).mpr e); have gl : Nat.gcd m n ≤ m := Nat.le_of_dvd (by omega) (Nat.gcd_dvd_left m n); have a68 : ¬ Nat.gcd m n = 1 := fun e => h68 (by rw [e]; rfl); omega)
      · refine wq_con (x := 1) rfl (by decide) ?_
        refine wp_go rfl ?_
        have hf := th_fP_iff (n := n) (g := g) (m := m) hn (by omega)
        have fz : ∀ k : Nat, k ≤ 12 → (nI g = nI k ↔ g = k) := fun k hk => nI_eq (by omega) (by omega)
        have fm : ∀ k : Nat, k ≤ 12 → (nI m = nI k ↔ m = k) := fun k hk => nI_eq (by omega) (by omega)
        refine wp_reti rfl (th_n1 rfl) ⟨Or.inl ⟨rfl, hf.mpr (th_fy m1 m2 ?_)⟩, rfl⟩
        first | (have a16 : g = 0 := (fz 0 (by decide)).mp (Classical.not_not.mp h16); have a21 : m = 1 := (fm 1 (by decide)).mp (Classical.not_not.mp h21); omega) | (have a16 : g = 0 := (fz 0 (by decide)).mp (Classical.not_not.mp h16); have a21 : ¬ m = 1 := fun e => h21 ((fm 1 (by decide)).mpr e); omega) | (have a16 : ¬ g = 0 := fun e => h16 ((fz 0 (by decide)).mpr e); have a32 : g = 1 := (fz 1 (by decide)).mp (Classical.not_not.mp h32); have a37 : m = 1 := (fm 1 (by decide)).mp h37; omega) | (have a16 : ¬ g = 0 := fun e => h16 ((fz 0 (by decide)).mpr e); have a32 : g = 1 := (fz 1 (by decide)).mp (Classical.not_not.mp h32); have a37 : ¬ m = 1 := fun e => h37 ((fm 1 (by decide)).mpr e); have a47 : m = n - 1 := (fm (n - 1) (by omega)).mp (Classical.not_not.mp h47); omega) | (have a16 : ¬ g = 0 := fun e => h16 ((fz 0 (by decide)).mpr e); have a32 : g = 1 := (fz 1 (by decide)).mp (Classical.not_not.mp h32); have a37 : ¬ m = 1 := fun e => h37 ((fm 1 (by decide)).mpr e); have a47 : ¬ m = n - 1 := fun e => h47 ((fm (n - 1) (by omega)).mpr e); omega) | (have a16 : ¬ g = 0 := fun e => h16 ((fz 0 (by decide)).mpr e); have a32 : ¬ g = 1 := fun e => h32 ((fz 1 (by decide)).mpr e); have gl : Nat.gcd m n ≤ m := Nat.le_of_dvd (by omega) (Nat.gcd_dvd_left m n); have a68 : Nat.gcd m n = 1 := (nI_eq (by omega) (by decide)).mp (Classical.not_not.mp h68); omega) | (have a16 : ¬ g = 0 := fun e => h16 ((fz 0 (by decide)).mpr e); have a32 : ¬ g = 1 := fun e => h32 ((fz 1 (by decide)).mpr e); have gl : Nat.gcd m n ≤ m := Nat.le_of_dvd (by omega) (Nat.gcd_dvd_left m n); have a68 : ¬ Nat.gcd m n = 1 := fun e => h68 (by rw [e]; rfl); omega)
  show WP (d + 1) 163 0 [(0, .ref 11), (1, .int (nI g)), (2, .int x)] [] σ _
  refine wp_ldi rfl tm_m2 ?_
  refine wq_con (x := 1) rfl (by decide) ?_
  refine wq_iclt rfl (fun h2 => ?_) (fun h2 => ?_)
  · have g2 : (x).toInt < 1 := tn_ltI.mp h2
    refine wq_con (x := 0) rfl (by decide) ?_
    refine wp_reti rfl (th_n0 rfl) ⟨Or.inr ⟨rfl, th_fn hn ?_⟩, rfl⟩
    first | exact Or.inl g2 | (rw [eN] at g10; exact Or.inr g10)
  · have g2 : ¬ (x).toInt < 1 := fun g => h2 (tn_ltI.mpr g)
    refine wp_ldi rfl tm_m2 ?_
    refine wp_lda rfl tm_m0 ?_
    refine wq_geti rfl rfl (f := 1) rfl rfl (Or.inl rfl) ?_
    rw [hN]
    refine wq_iclt rfl (fun h10 => ?_) (fun h10 => ?_)
    · have g10 : (x).toInt < (nI n).toInt := tn_ltI.mp h10
      change ¬ x.toInt < (1 : Int) at g2
      obtain ⟨m, q1, rfl⟩ := nI_of (x := x) (by rw [tn_ltI]; show ¬ x.toInt < 0; omega)
      rw [nI_toInt q1] at g2
      rw [nI_toInt q1, eN] at g10
      exact k15 m (by omega) (by omega)
    · have g10 : ¬ (x).toInt < (nI n).toInt := fun g => h10 (tn_ltI.mpr g)
      refine wq_con (x := 0) rfl (by decide) ?_
      refine wp_reti rfl (th_n0 rfl) ⟨Or.inr ⟨rfl, th_fn hn ?_⟩, rfl⟩
      first | exact Or.inl g2 | (rw [eN] at g10; exact Or.inr g10)
/-- the image of S under m and t, of its first notes -/
def th_im (n S m t : Nat) : Nat → Nat
  | 0 => 0
  | x + 1 => bif S.testBit x then th_im n S m t x ||| 2 ^ ((m * x + t) % n) else th_im n S m t x
theorem th_im_lt {n S m t : Nat} (hn : 0 < n) : ∀ k : Nat, th_im n S m t k < 2 ^ n
  | 0 => Nat.two_pow_pos n
  | k + 1 => by
    show (bif S.testBit k then th_im n S m t k ||| 2 ^ ((m * k + t) % n) else th_im n S m t k) < 2 ^ n
    cases S.testBit k with
    | true => exact Nat.or_lt_two_pow (th_im_lt hn k) (Nat.pow_lt_pow_right (by decide) (Nat.mod_lt _ hn))
    | false => exact th_im_lt hn k
theorem th_im_bit {n S m t j : Nat} : ∀ k : Nat, (th_im n S m t k).testBit j = true ↔ ∃ x : Nat, x < k ∧ S.testBit x = true ∧ (m * x + t) % n = j
  | 0 => by
    constructor
    · intro h
      rw [show th_im n S m t 0 = 0 from rfl, Nat.zero_testBit] at h
      cases h
    · rintro ⟨x, h, -⟩
      omega
  | k + 1 => by
    have ih := th_im_bit (n := n) (S := S) (m := m) (t := t) (j := j) k
    show (bif S.testBit k then th_im n S m t k ||| 2 ^ ((m * k + t) % n) else th_im n S m t k).testBit j = true ↔ _
    cases hb : S.testBit k with
    | true =>
      show (th_im n S m t k ||| 2 ^ ((m * k + t) % n)).testBit j = true ↔ _
      rw [Nat.testBit_or, Bool.or_eq_true, ih, Nat.testBit_two_pow, decide_eq_true_eq]
      constructor
      · rintro (⟨x, h1, h2, h3⟩ | h)
        · exact ⟨x, by omega, h2, h3⟩
        · exact ⟨k, by omega, hb, h⟩
      · rintro ⟨x, h1, h2, h3⟩
        rcases Nat.lt_or_ge x k with e | e
        · exact Or.inl ⟨x, e, h2, h3⟩
        · obtain rfl : x = k := by omega
          exact Or.inr h3
    | false =>
      show (th_im n S m t k).testBit j = true ↔ _
      rw [ih]
      constructor
      · rintro ⟨x, h1, h2, h3⟩
        exact ⟨x, by omega, h2, h3⟩
      · rintro ⟨x, h1, h2, h3⟩
        rcases Nat.lt_or_ge x k with e | e
        · exact ⟨x, e, h2, h3⟩
        · obtain rfl : x = k := by omega
          rw [hb] at h2
          cases h2
theorem th_im_rot {n S m t : Nat} (hn : n ≤ 24) (ht : t < n) : th_R n (th_im n S m 0 n) t = th_im n S m t n := by
  have hl := th_im_lt (S := S) (m := m) (t := 0) (show 0 < n by omega) n
  apply Nat.eq_of_testBit_eq
  intro j
  by_cases hj : j < n
  · rw [th_R_bit hn hl ht j hj]
    apply Bool.eq_iff_iff.mpr
    rw [th_im_bit, th_im_bit]
    constructor
    · rintro ⟨x, h1, h2, h3⟩
      refine ⟨x, h1, h2, ?_⟩
      rw [Nat.add_zero] at h3
      rw [← Nat.mod_add_mod, h3, Nat.mod_add_mod, show j + (n - t) + t = j + n by omega, Nat.add_mod_right, Nat.mod_eq_of_lt hj]
    · rintro ⟨x, h1, h2, h3⟩
      refine ⟨x, h1, h2, ?_⟩
      rw [← h3, Nat.mod_add_mod, show m * x + t + (n - t) = m * x + n by omega, Nat.add_mod_right, Nat.add_zero]
  · rw [Nat.testBit_lt_two_pow (Nat.lt_of_lt_of_le (th_R_lt hl) (Nat.pow_le_pow_right (by decide) (by omega))), Nat.testBit_lt_two_pow (Nat.lt_of_lt_of_le (th_im_lt (by omega) n) (Nat.pow_le_pow_right (by decide) (by omega)))]
theorem th_im1 {n S m t x : Nat} (h : S.testBit x = true) : th_im n S m t x ||| 2 ^ ((m * x + t) % n) = th_im n S m t (x + 1) := by
  show _ = bif S.testBit x then _ else _
  rw [h]
  rfl
theorem th_im0 {n S m t x : Nat} (h : S.testBit x = false) : th_im n S m t x = th_im n S m t (x + 1) := by
  show _ = bif S.testBit x then _ else _
  rw [h]
  rfl
set_option maxRecDepth 100000 in
set_option maxHeartbeats 4000000 in
theorem th_mult {d n S m : Nat} {σ : tm_S} (hN : σ.1 1 0 = nI n) (hn : n ≤ 12) (hS : S < 2 ^ n) (hm : m < n) : WM d 10 [.ref 1, .int (nI S), .int (nI m)] σ (th_is (.int (nI (th_im n S m 0 n))) σ) := by
  have hp : 2 ^ n ≤ 4096 := Nat.pow_le_pow_right (n := 2) (by decide) hn
  have hl : ∀ k : Nat, th_im n S m 0 k < 2 ^ n := th_im_lt (by omega)
  have k8 : ∀ f x : Nat, x + f = n → WP d 10 8 [(5, .int (nI x)), (4, .int (nI (m * x % n))), (3, .int (nI (th_im n S m 0 x))), (0, .ref 1), (1, .int (nI S)), (2, .int (nI m))] [] σ (th_is (.int (nI (th_im n S m 0 n))) σ) := by
    intro f
    induction f with
    | zero =>
      intro x hx
      obtain rfl : x = n := by omega
      have hy : m * x % x < x := Nat.mod_lt _ (by omega)
      refine wp_ldi rfl tm_m0 ?_
      refine wp_lda rfl tm_m3 ?_
      refine wq_geti rfl rfl (f := 0) rfl rfl (Or.inl rfl) ?_
      rw [hN]
      refine wq_icge rfl (fun h14 => ?_) (fun h14 => absurd (nI_le (Nat.le_refl _) (by omega)) h14)
      refine wp_ldi rfl tm_m2 ?_
      exact wp_reti rfl (th_nI rfl) ⟨rfl, rfl⟩
    | succ f ih =>
      intro x hx
      have hy : m * x % n < n := Nat.mod_lt _ (by omega)
      have hlx := hl x
      have nx : ∀ A : Nat, A = th_im n S m 0 (x + 1) → WP d 10 33 [(5, .int (nI x)), (4, .int (nI (m * x % n))), (3, .int (nI A)), (0, .ref 1), (1, .int (nI S)), (2, .int (nI m))] [] σ (th_is (.int (nI (th_im n S m 0 n))) σ) := by
        intro A hA
        have e1 : m * (x + 1) % n = (m * x % n + m) % n := by rw [Nat.mul_succ, Nat.mod_add_mod]
        refine wp_ldi rfl tm_m1 ?_
        refine wp_ldi rfl tm_m5 ?_
        refine wq_iadd rfl ?_
        rw [nI_add]
        refine wq_sti [(4, .int (nI (m * x % n + m))), (5, .int (nI x)), (3, .int (nI A)), (0, .ref 1), (1, .int (nI S)), (2, .int (nI m))] rfl rfl ?_
        refine wp_ldi rfl tm_m0 ?_
        refine wp_lda rfl tm_m3 ?_
        refine wq_geti rfl rfl (f := 0) rfl rfl (Or.inl rfl) ?_
        rw [hN]
        refine wq_iclt rfl (fun h45 => ?_) (fun h45 => ?_)
        · refine wq_inc (c := 1) [(5, .int ((nI x) + 1)), (4, .int (nI (m * x % n + m))), (3, .int (nI A)), (0, .ref 1), (1, .int (nI S)), (2, .int (nI m))] rfl tm_m1 rfl rfl ?_
          refine wp_go rfl ?_
          rw [nI_1, hA]
          have e2 : nI (m * x % n + m) = nI (m * (x + 1) % n) := by
            rw [e1]
            rw [Nat.mod_eq_of_lt (show m * x % n + m < n from Classical.byContradiction (fun g => absurd h45 (nI_nlt (by omega) (by omega))))]
          rw [e2]
          exact WP.less (ih (x + 1) (by omega)) (by simp)
        · refine wp_ldi rfl tm_m0 ?_
          refine wp_lda rfl tm_m3 ?_
          refine wq_geti rfl rfl (f := 0) rfl rfl (Or.inl rfl) ?_
          rw [hN]
          refine wq_isub rfl ?_
          refine wq_sti [(4, .int ((nI (m * x % n + m)) - (nI n))), (5, .int (nI x)), (3, .int (nI A)), (0, .ref 1), (1, .int (nI S)), (2, .int (nI m))] rfl rfl ?_
          refine wq_inc (c := 1) [(5, .int ((nI x) + 1)), (4, .int ((nI (m * x % n + m)) - (nI n))), (3, .int (nI A)), (0, .ref 1), (1, .int (nI S)), (2, .int (nI m))] rfl tm_m1 rfl rfl ?_
          refine wp_go rfl ?_
          rw [nI_1, hA]
          have e2 : (nI (m * x % n + m)) - (nI n) = nI (m * (x + 1) % n) := by
            rw [e1]
            have g : n ≤ m * x % n + m := Classical.byContradiction (fun g => h45 (nI_lt (by omega) (by omega)))
            rw [Nat.mod_eq_sub_mod g, Nat.mod_eq_of_lt (show m * x % n + m - n < n by omega)]
            exact Int32.toInt_inj.mp (by rw [tn_sub (by rw [nI_toInt (by omega), nI_toInt (by omega)]; omega) (by rw [nI_toInt (by omega), nI_toInt (by omega)]; omega), nI_toInt (by omega), nI_toInt (by omega), nI_toInt (by omega)]; omega)
          rw [e2]
          exact WP.less (ih (x + 1) (by omega)) (by simp)
      refine wp_ldi rfl tm_m0 ?_
      refine wp_lda rfl tm_m3 ?_
      refine wq_geti rfl rfl (f := 0) rfl rfl (Or.inl rfl) ?_
      rw [hN]
      refine wq_icge rfl (fun h14 => absurd h14 (nI_ge (by omega) (by omega))) (fun h14 => ?_)
      refine wp_ldi rfl tm_m4 ?_
      refine wp_ldi rfl tm_m0 ?_
      refine wq_ishr rfl ?_
      refine wq_con (x := 1) rfl (by decide) ?_
      refine wq_iand rfl ?_
      refine wq_ifeq rfl (fun h23 => ?_) (fun h23 => ?_)
      · exact WP.less (nx _ (th_im0 (by
          cases hb : S.testBit x with
          | false => rfl
          | true => exact absurd h23 (by rw [th_bt1 (by omega) (by omega), hb]; decide)))) (by simp)
      · refine wp_ldi rfl tm_m2 ?_
        refine wq_con (x := 1) rfl (by decide) ?_
        refine wp_ldi rfl tm_m1 ?_
        refine wq_ishl rfl ?_
        refine wq_ior rfl ?_
        rw [th_nIor (by omega) (by omega), ← Nat.add_zero (m * x)]
        refine wq_sti [(3, .int (nI (th_im n S m 0 x ||| 2 ^ ((m * x + 0) % n)))), (5, .int (nI x)), (4, .int (nI (m * x % n))), (0, .ref 1), (1, .int (nI S)), (2, .int (nI m))] rfl rfl ?_
        exact WP.less (nx _ (th_im1 (t := 0) (by
          cases hb : S.testBit x with
          | true => rfl
          | false => exact absurd (by rw [th_bt1 (by omega) (by omega), hb]; rfl) h23))) (by simp)
  show WP d 10 0 [(0, .ref 1), (1, .int (nI S)), (2, .int (nI m))] [] σ _
  refine wq_con (x := nI 0) rfl (by decide) ?_
  refine wq_sti [(3, .int (nI 0)), (0, .ref 1), (1, .int (nI S)), (2, .int (nI m))] rfl rfl ?_
  refine wq_con (x := nI 0) rfl (by decide) ?_
  refine wq_sti [(4, .int (nI 0)), (3, .int (nI 0)), (0, .ref 1), (1, .int (nI S)), (2, .int (nI m))] rfl rfl ?_
  refine wq_con (x := nI 0) rfl (by decide) ?_
  refine wq_sti [(5, .int (nI 0)), (4, .int (nI 0)), (3, .int (nI 0)), (0, .ref 1), (1, .int (nI S)), (2, .int (nI m))] rfl rfl ?_
  exact WP.less (k8 n 0 (by omega)) (by simp [th_im])
set_option maxRecDepth 100000 in
set_option maxHeartbeats 4000000 in
theorem th_imof {d n S m t : Nat} {σ : tm_S} (hN : σ.1 11 1 = nI n) (hn : n ≤ 12) (hS : S < 2 ^ n) (hm : m < n) (ht : t < n) : WM (d + 1) 165 [.ref 11, .int (nI S), .int (nI m), .int (nI t)] σ (th_is (.int (nI (th_im n S m t n))) σ) := by
  have hp : 2 ^ n ≤ 4096 := Nat.pow_le_pow_right (n := 2) (by decide) hn
  have hl : ∀ k : Nat, th_im n S m t k < 2 ^ n := th_im_lt (by omega)
  have k6 : ∀ f x : Nat, x + f = n → WP (d + 1) 165 6 [(5, .int (nI x)), (4, .int (nI (th_im n S m t x))), (0, .ref 11), (1, .int (nI S)), (2, .int (nI m)), (3, .int (nI t))] [] σ (th_is (.int (nI (th_im n S m t n))) σ) := by
    intro f
    induction f with
    | zero =>
      intro x hx
      obtain rfl : x = n := by omega
      refine wp_ldi rfl tm_m0 ?_
      refine wp_lda rfl tm_m2 ?_
      refine wq_geti rfl rfl (f := 1) rfl rfl (Or.inl rfl) ?_
      rw [hN]
      refine wq_icge rfl (fun h12 => ?_) (fun h12 => absurd (nI_le (Nat.le_refl _) (by omega)) h12)
      refine wp_ldi rfl tm_m1 ?_
      exact wp_reti rfl (th_nI rfl) ⟨rfl, rfl⟩
    | succ f ih =>
      intro x hx
      have hlx := hl x
      have hmx : m * x ≤ 11 * 11 := Nat.mul_le_mul (by omega) (by omega)
      have hy : (m * x + t) % n < n := Nat.mod_lt _ (by omega)
      have em : nI m * nI x = nI (m * x) := Int32.toInt_inj.mp (by rw [tn_mul (by rw [nI_toInt (by omega), nI_toInt (by omega), ← Int.natCast_mul]; omega) (by rw [nI_toInt (by omega), nI_toInt (by omega), ← Int.natCast_mul]; omega), nI_toInt (by omega), nI_toInt (by omega), nI_toInt (by omega), Int.natCast_mul])
      have eb := th_hs24 (a := S) (m := x) (by omega) (by omega)
      refine wp_ldi rfl tm_m0 ?_
      refine wp_lda rfl tm_m2 ?_
      refine wq_geti rfl rfl (f := 1) rfl rfl (Or.inl rfl) ?_
      rw [hN]
      refine wq_icge rfl (fun h12 => absurd h12 (nI_ge (by omega) (by omega))) (fun h12 => ?_)
      refine wp_lda rfl tm_m2 ?_
      refine wp_ldi rfl tm_m3 ?_
      refine wp_ldi rfl tm_m0 ?_
      refine wq_calv [.int (nI S), .int (nI x)] rfl rfl rfl rfl rfl rfl rfl rfl rfl (th_has) ?_
      rintro _ _ ⟨rfl, rfl⟩
      refine wq_ifeq rfl (fun h22 => ?_) (fun h22 => ?_)
      · refine wq_inc (c := 1) [(5, .int ((nI x) + 1)), (4, .int (nI (th_im n S m t x))), (0, .ref 11), (1, .int (nI S)), (2, .int (nI m)), (3, .int (nI t))] rfl tm_m0 rfl rfl ?_
        refine wp_go rfl ?_
        rw [nI_1]
        rw [th_im0 (by
          cases hb : S.testBit x with
          | false => rfl
          | true => exact absurd h22 (by rw [eb, hb]; decide))]
        exact WP.less (ih (x + 1) (by omega)) (by simp)
      · refine wp_ldi rfl tm_m1 ?_
        refine wq_con (x := 1) rfl (by decide) ?_
        refine wp_ldi rfl tm_m4 ?_
        refine wp_ldi rfl tm_m0 ?_
        refine wq_imul rfl ?_
        rw [em]
        refine wp_ldi rfl tm_m5 ?_
        refine wq_iadd rfl ?_
        rw [nI_add]
        refine wp_lda rfl tm_m2 ?_
        refine wq_geti rfl rfl (f := 1) rfl rfl (Or.inl rfl) ?_
        rw [hN]
        refine wp_rem rfl (nI_ne0 (by omega) (by omega)) ?_
        rw [th_remN (by omega) (by omega) (by omega)]
        refine wq_ishl rfl ?_
        refine wq_ior rfl ?_
        rw [th_nIor (by omega) (by omega)]
        refine wq_sti [(4, .int (nI (th_im n S m t x ||| 2 ^ ((m * x + t) % n)))), (5, .int (nI x)), (0, .ref 11), (1, .int (nI S)), (2, .int (nI m)), (3, .int (nI t))] rfl rfl ?_
        refine wq_inc (c := 1) [(5, .int ((nI x) + 1)), (4, .int (nI (th_im n S m t x ||| 2 ^ ((m * x + t) % n)))), (0, .ref 11), (1, .int (nI S)), (2, .int (nI m)), (3, .int (nI t))] rfl tm_m1 rfl rfl ?_
        refine wp_go rfl ?_
        rw [nI_1]
        rw [th_im1 (by
          cases hb : S.testBit x with
          | true => rfl
          | false => exact absurd (by rw [eb, hb]; rfl) h22)]
        exact WP.less (ih (x + 1) (by omega)) (by simp)
  show WP (d + 1) 165 0 [(0, .ref 11), (1, .int (nI S)), (2, .int (nI m)), (3, .int (nI t))] [] σ _
  refine wq_con (x := nI 0) rfl (by decide) ?_
  refine wq_sti [(4, .int (nI 0)), (0, .ref 11), (1, .int (nI S)), (2, .int (nI m)), (3, .int (nI t))] rfl rfl ?_
  refine wq_con (x := nI 0) rfl (by decide) ?_
  refine wq_sti [(5, .int (nI 0)), (4, .int (nI 0)), (0, .ref 11), (1, .int (nI S)), (2, .int (nI m)), (3, .int (nI t))] rfl rfl ?_
  exact WP.less (k6 n 0 (by omega)) (by simp [th_im])
/-- what image answers -/
def tp_iok (n : Nat) (s m t : Int32) : Prop := th_st n s ∧ th_fP n 2 m ∧ th_nt2 n t
def tp_img (n : Nat) (s m t z : Int32) : Prop := (∃ S k u : Nat, s = nI S ∧ m = nI k ∧ t = nI u ∧ S < 2 ^ 12 ∧ k < 12 ∧ u < 12 ∧ z = nI (th_im n S k u n) ∧ tp_iok n s m t) ∨ (¬ tp_iok n s m t ∧ z = -1)
theorem tp_img_u {n : Nat} {s m t z w : Int32} (h : tp_img n s m t z) (g : tp_img n s m t w) : z = w := by
  rcases h with ⟨S, k, u, e1, e2, e3, e4, e5, e6, e7, e8⟩ | ⟨h1, h2⟩
  · rcases g with ⟨S', k', u', f1, f2, f3, f4, f5, f6, f7, f8⟩ | ⟨g1, g2⟩
    · rw [e7, f7, (nI_eq (by omega) (by omega)).mp (e1.symm.trans f1), (nI_eq (by omega) (by omega)).mp (e2.symm.trans f2), (nI_eq (by omega) (by omega)).mp (e3.symm.trans f3)]
    · exact absurd e8 g1
  · rcases g with ⟨S', k', u', f1, f2, f3, f4, f5, f6, f7, f8⟩ | ⟨g1, g2⟩
    · exact absurd f8 h1
    · rw [h2, g2]
set_option maxRecDepth 100000 in
set_option maxHeartbeats 4000000 in
theorem tf_x_image {n : Nat} {a1 a2 a3 : Int32} {σ : tm_S} (h : th_IV n σ) : WM 90 5 [.ref 0, .int a1, .int a2, .int a3] σ (fun r σ' => ∃ z : Int32, r = some (.int z) ∧ tp_img n a1 a2 a3 z ∧ th_IV n σ') := by
  have ⟨h3, hn, hT, hSL⟩ := h
  have hN0 := th_N0 hT hn
  show WP 90 5 0 [(0, .ref 0), (1, .int a1), (2, .int a2), (3, .int a3)] [] σ _
  refine wp_lda rfl tm_m0 ?_
  refine wq_getr (p := 1) rfl rfl (f := 0) rfl rfl ?_
  refine wp_ldi rfl tm_m1 ?_
  refine wq_calv [.int a1] rfl rfl rfl rfl rfl rfl rfl rfl rfl (th_hset hN0 hn) ?_
  rintro r5 _ ⟨hr5, rfl⟩
  obtain ⟨z5, rfl, hz5, hn5⟩ : ∃ z : Int32, r5 = some (.int z) ∧ (¬ z = 0 → th_st n a1) ∧ (z = 0 → ¬ th_st n a1) := by
    rcases hr5 with ⟨rfl, g⟩ | ⟨rfl, g⟩
    · exact ⟨_, rfl, fun _ => g, fun e => absurd e (by decide)⟩
    · exact ⟨_, rfl, fun e => absurd rfl e, fun _ => g⟩
  refine wq_ifeq rfl (fun h8 => ?_) (fun h8 => ?_)
  · refine wq_con (x := (-1)) rfl (by decide) ?_
    refine wp_reti rfl (th_nI rfl) ⟨_, rfl, Or.inr ⟨fun hk => ?_, rfl⟩, h⟩
    first | exact hn5 h8 hk.1 | exact hn17 h20 hk.2.1 | exact hn28 (Classical.not_not.mp h31) hk.2.2
  · refine wp_lda rfl tm_m0 ?_
    refine wq_getr (p := 1) rfl rfl (f := 0) rfl rfl ?_
    refine wq_con (x := nI 2) rfl (by decide) ?_
    refine wp_ldi rfl tm_m2 ?_
    refine wq_calv [.int (nI 2), .int a2] rfl rfl rfl rfl rfl rfl rfl rfl rfl (WM.deep (th_xfac (d := 0) (g := 2) hN0 hn h3 (by decide)) (by decide)) ?_
    rintro r17 _ ⟨hr17, rfl⟩
    obtain ⟨z17, rfl, hz17, hn17⟩ : ∃ z : Int32, r17 = some (.int z) ∧ (¬ z = 0 → th_fP n 2 a2) ∧ (z = 0 → ¬ th_fP n 2 a2) := by
      rcases hr17 with ⟨rfl, g⟩ | ⟨rfl, g⟩
      · exact ⟨_, rfl, fun _ => g, fun e => absurd e (by decide)⟩
      · exact ⟨_, rfl, fun e => absurd rfl e, fun _ => g⟩
    refine wq_ifeq rfl (fun h20 => ?_) (fun h20 => ?_)
    · refine wq_con (x := (-1)) rfl (by decide) ?_
      refine wp_reti rfl (th_nI rfl) ⟨_, rfl, Or.inr ⟨fun hk => ?_, rfl⟩, h⟩
      first | exact hn5 h8 hk.1 | exact hn17 h20 hk.2.1 | exact hn28 (Classical.not_not.mp h31) hk.2.2
    · refine wp_lda rfl tm_m0 ?_
      refine wq_getr (p := 1) rfl rfl (f := 0) rfl rfl ?_
      refine wp_ldi rfl tm_m3 ?_
      refine wq_calv [.int a3] rfl rfl rfl rfl rfl rfl rfl rfl rfl (th_hnote hN0 hn) ?_
      rintro r28 _ ⟨hr28, rfl⟩
      obtain ⟨z28, rfl, hz28, hn28⟩ : ∃ z : Int32, r28 = some (.int z) ∧ (¬ z = 0 → th_nt2 n a3) ∧ (z = 0 → ¬ th_nt2 n a3) := by
        rcases hr28 with ⟨rfl, g⟩ | ⟨rfl, g⟩
        · exact ⟨_, rfl, fun _ => g, fun e => absurd e (by decide)⟩
        · exact ⟨_, rfl, fun e => absurd rfl e, fun _ => g⟩
      refine wq_ifne rfl (fun h31 => ?_) (fun h31 => ?_)
      · obtain ⟨S, e1, hS⟩ := hz5 h8
        obtain ⟨k, e2, hk⟩ := hz17 h20
        obtain ⟨u, e3, hu⟩ := hz28 h31
        have hkl := th_fac_lt hk
        have hp : 2 ^ n ≤ 4096 := Nat.pow_le_pow_right (n := 2) (by decide) hn
        refine wp_lda rfl tm_m0 ?_
        refine wq_getr (p := 1) rfl rfl (f := 0) rfl rfl ?_
        refine wp_ldi rfl tm_m1 ?_
        refine wp_ldi rfl tm_m2 ?_
        refine wq_calv [.int a1, .int a2] rfl rfl rfl rfl rfl rfl rfl rfl rfl (by rw [e1, e2]; exact th_mult (d := 89) hN0 hn hS (by omega)) ?_
        rintro _ _ ⟨rfl, rfl⟩
        refine wp_ldi rfl tm_m3 ?_
        refine wp_lda rfl tm_m0 ?_
        refine wq_getr (p := 1) rfl rfl (f := 0) rfl rfl ?_
        refine wq_calv [] rfl rfl rfl rfl rfl rfl rfl rfl rfl (th_size) ?_
        rintro _ _ ⟨rfl, rfl⟩
        rw [hN0]
        refine wq_cals [.int (nI (th_im n S k 0 n)), .int a3, .int (nI n)] rfl rfl rfl rfl rfl rfl (by rw [e3]; exact th_trnd (d := 89) (by omega) (th_im_lt (by omega) n) hu) ?_
        rintro _ _ ⟨rfl, rfl⟩
        exact wp_reti rfl (th_nI rfl) ⟨_, rfl, Or.inl ⟨S, k, u, e1, e2, e3, by omega, by omega, by omega, by rw [th_im_rot (by omega) hu], ⟨⟨S, e1, hS⟩, ⟨k, e2, hk⟩, ⟨u, e3, hu⟩⟩⟩, h⟩
      · refine wq_con (x := (-1)) rfl (by decide) ?_
        refine wp_reti rfl (th_nI rfl) ⟨_, rfl, Or.inr ⟨fun hk => ?_, rfl⟩, h⟩
        first | exact hn5 h8 hk.1 | exact hn17 h20 hk.2.1 | exact hn28 (Classical.not_not.mp h31) hk.2.2
set_option maxRecDepth 100000 in
set_option maxHeartbeats 4000000 in
theorem tf_m_image {n : Nat} {a1 a2 a3 : Int32} {σ : tm_S} (h : th_IV n σ) : WM 90 161 [.ref 11, .int a1, .int a2, .int a3] σ (fun r σ' => ∃ z : Int32, r = some (.int z) ∧ tp_img n a1 a2 a3 z ∧ th_IV n σ') := by
  have hI := th_IV0 h
  have ⟨h3, hn, hT, hSL⟩ := hI
  have hN1 := th_N1 hT hn
  have eN : (nI n).toInt = n := nI_toInt (by omega)
  show WP 90 161 0 [(0, .ref 11), (1, .int a1), (2, .int a2), (3, .int a3)] [] σ _
  refine wp_lda rfl tm_m0 ?_
  refine wq_con (x := 0) rfl (by decide) ?_
  refine wq_puti rfl rfl (f := 0) rfl rfl ?_
  refine wp_lda rfl tm_m0 ?_
  refine wp_ldi rfl tm_m1 ?_
  refine wq_calv [.int a1] rfl rfl rfl rfl rfl rfl rfl rfl rfl (tg_mset hN1 hn) ?_
  rintro r7 _ ⟨hr7, rfl⟩
  obtain ⟨z7, rfl, hz7, hn7⟩ : ∃ z : Int32, r7 = some (.int z) ∧ (¬ z = 0 → th_st n a1) ∧ (z = 0 → ¬ th_st n a1) := by
    rcases hr7 with ⟨rfl, g⟩ | ⟨rfl, g⟩
    · exact ⟨_, rfl, fun _ => g, fun e => absurd e (by decide)⟩
    · exact ⟨_, rfl, fun e => absurd rfl e, fun _ => g⟩
  refine wq_ifeq rfl (fun h10 => ?_) (fun h10 => ?_)
  · have g10 : (z7).toInt = 0 := congrArg Int32.toInt h10
    refine wq_con (x := (-1)) rfl (by decide) ?_
    refine wp_reti rfl (th_nI rfl) ⟨_, rfl, Or.inr ⟨fun hk => ?_, rfl⟩, hI⟩
    first | exact hn7 h10 hk.1 | exact hn16 h19 hk.2.1 | (obtain ⟨u, rfl, hu⟩ := hk.2.2; have eu : (nI u).toInt = u := nI_toInt (by omega); first | (change (nI u).toInt < (0 : Int) at g23; omega) | (rw [eN] at g31; omega))
  · refine wp_lda rfl tm_m0 ?_
    refine wq_con (x := nI 2) rfl (by decide) ?_
    refine wp_ldi rfl tm_m2 ?_
    refine wq_calv [.int (nI 2), .int a2] rfl rfl rfl rfl rfl rfl rfl rfl rfl (WM.deep (th_mfac (d := 0) (g := 2) hN1 hn h3 (by decide)) (by decide)) ?_
    rintro r16 _ ⟨hr16, rfl⟩
    obtain ⟨z16, rfl, hz16, hn16⟩ : ∃ z : Int32, r16 = some (.int z) ∧ (¬ z = 0 → th_fP n 2 a2) ∧ (z = 0 → ¬ th_fP n 2 a2) := by
      rcases hr16 with ⟨rfl, g⟩ | ⟨rfl, g⟩
      · exact ⟨_, rfl, fun _ => g, fun e => absurd e (by decide)⟩
      · exact ⟨_, rfl, fun e => absurd rfl e, fun _ => g⟩
    refine wq_ifeq rfl (fun h19 => ?_) (fun h19 => ?_)
    · have g19 : (z16).toInt = 0 := congrArg Int32.toInt h19
      refine wq_con (x := (-1)) rfl (by decide) ?_
      refine wp_reti rfl (th_nI rfl) ⟨_, rfl, Or.inr ⟨fun hk => ?_, rfl⟩, hI⟩
      first | exact hn7 h10 hk.1 | exact hn16 h19 hk.2.1 | (obtain ⟨u, rfl, hu⟩ := hk.2.2; have eu : (nI u).toInt = u := nI_toInt (by omega); first | (change (nI u).toInt < (0 : Int) at g23; omega) | (rw [eN] at g31; omega))
    · refine wp_ldi rfl tm_m3 ?_
      refine wq_iflt rfl (fun h23 => ?_) (fun h23 => ?_)
      · have g23 : (a3).toInt < 0 := tn_ltI.mp h23
        refine wq_con (x := (-1)) rfl (by decide) ?_
        refine wp_reti rfl (th_nI rfl) ⟨_, rfl, Or.inr ⟨fun hk => ?_, rfl⟩, hI⟩
        first | exact hn7 h10 hk.1 | exact hn16 h19 hk.2.1 | (obtain ⟨u, rfl, hu⟩ := hk.2.2; have eu : (nI u).toInt = u := nI_toInt (by omega); first | (change (nI u).toInt < (0 : Int) at g23; omega) | (rw [eN] at g31; omega))
      · have g23 : ¬ (a3).toInt < 0 := fun g => h23 (tn_ltI.mpr g)
        refine wp_ldi rfl tm_m3 ?_
        refine wp_lda rfl tm_m0 ?_
        refine wq_geti rfl rfl (f := 1) rfl rfl (Or.inl rfl) ?_
        rw [hN1]
        refine wq_icge rfl (fun h31 => ?_) (fun h31 => ?_)
        · have g31 : (nI n).toInt ≤ (a3).toInt := tn_leI.mp h31
          refine wq_con (x := (-1)) rfl (by decide) ?_
          refine wp_reti rfl (th_nI rfl) ⟨_, rfl, Or.inr ⟨fun hk => ?_, rfl⟩, hI⟩
          first | exact hn7 h10 hk.1 | exact hn16 h19 hk.2.1 | (obtain ⟨u, rfl, hu⟩ := hk.2.2; have eu : (nI u).toInt = u := nI_toInt (by omega); first | (change (nI u).toInt < (0 : Int) at g23; omega) | (rw [eN] at g31; omega))
        · have g31 : ¬ (nI n).toInt ≤ (a3).toInt := fun g => h31 (tn_leI.mpr g)
          change ¬ a3.toInt < (0 : Int) at g23
          have hC : th_nt2 n a3 := by
            obtain ⟨q, q1, rfl⟩ := nI_of (x := a3) (by rw [tn_ltI]; show ¬ a3.toInt < 0; omega)
            rw [nI_toInt q1, eN] at g31
            exact ⟨q, rfl, by omega⟩
          obtain ⟨S, e1, hS⟩ := hz7 h10
          obtain ⟨k, e2, hk⟩ := hz16 h19
          obtain ⟨u, e3, hu⟩ := hC
          have hkl := th_fac_lt hk
          have hp : 2 ^ n ≤ 4096 := Nat.pow_le_pow_right (n := 2) (by decide) hn
          refine wp_lda rfl tm_m0 ?_
          refine wp_ldi rfl tm_m1 ?_
          refine wp_ldi rfl tm_m2 ?_
          refine wp_ldi rfl tm_m3 ?_
          refine wq_calv [.int a1, .int a2, .int a3] rfl rfl rfl rfl rfl rfl rfl rfl rfl (by rw [e1, e2, e3]; exact th_imof (d := 88) hN1 hn hS (by omega) hu) ?_
          rintro _ _ ⟨rfl, rfl⟩
          refine wp_go rfl ?_
          exact wp_reti rfl (th_nI rfl) ⟨_, rfl, Or.inl ⟨S, k, u, e1, e2, e3, by omega, by omega, by omega, rfl, ⟨⟨S, e1, hS⟩, ⟨k, e2, hk⟩, ⟨u, e3, hu⟩⟩⟩, hI⟩
