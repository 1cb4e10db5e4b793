/-! ===== gap ===== -/
noncomputable def tu_g (n l x : Nat) : Nat := cond (Nat.blt x l) (Nat.sub (Nat.add x n) l) (Nat.sub x l)
theorem tu_go {n l x : Nat} (hl : l < n) (hx : x < n) : tu_g n l x < n := by
  show cond (Nat.blt x l) (x + n - l) (x - l) < n
  cases h : Nat.blt x l with
  | true =>
    have := Nat.le_of_ble_eq_true h
    show x + n - l < n
    omega
  | false =>
    show x - l < n
    omega
set_option maxRecDepth 100000 in
set_option maxHeartbeats 4000000 in
theorem tu_gap {d n l x : Nat} {σ : tm_S} (hn : n ≤ 24) (hl : l < n) (hx : x < n) : WM d 65 [.int (nI l), .int (nI x), .int (nI n)] σ (th_is (.int (nI (tu_g n l x))) σ) := by
  have e1 : (nI x - nI l).toInt = (x : Int) - l := by rw [tn_sub (by rw [nI_toInt (by omega), nI_toInt (by omega)]; omega) (by rw [nI_toInt (by omega), nI_toInt (by omega)]; omega), nI_toInt (by omega), nI_toInt (by omega)]
  have eg : tu_g n l x = if x < l then x + n - l else x - l := by
    show cond (Nat.blt x l) (x + n - l) (x - l) = _
    by_cases h : x < l
    · rw [if_pos h, show Nat.blt x l = true from Nat.ble_eq_true_of_le h]
      rfl
    · rw [if_neg h, show Nat.blt x l = false from Bool.eq_false_iff.mpr (fun q => h (Nat.le_of_ble_eq_true q))]
      rfl
  show WP d 65 0 [(0, .int (nI l)), (1, .int (nI x)), (2, .int (nI n))] [] σ _
  refine wp_ldi rfl tm_m1 ?_
  refine wp_ldi rfl tm_m0 ?_
  refine wq_icge rfl (fun h2 => ?_) (fun h2 => ?_)
  · refine wp_ldi rfl tm_m1 ?_
    refine wp_ldi rfl tm_m0 ?_
    refine wq_isub rfl ?_
    have h : ¬ x < l := fun q => absurd h2 (nI_ge q (by omega))
    rw [if_neg h] at eg
    exact wp_reti rfl (th_nI rfl) ⟨by rw [eg, th_subN (by omega) (by omega)], rfl⟩
  · refine wp_ldi rfl tm_m1 ?_
    refine wp_ldi rfl tm_m0 ?_
    refine wq_isub rfl ?_
    refine wp_ldi rfl tm_m2 ?_
    refine wq_iadd rfl ?_
    refine wp_go rfl ?_
    have h : x < l := Classical.byContradiction (fun q => h2 (nI_le (by omega) (by omega)))
    rw [if_pos h] at eg
    refine wp_reti rfl (th_nI rfl) ⟨congrArg (fun v => some (Value.int v)) (Int32.toInt_inj.mp ?_), rfl⟩
    rw [tn_add (by rw [e1, nI_toInt (by omega)]; omega) (by rw [e1, nI_toInt (by omega)]; omega), e1, nI_toInt (by omega), eg, nI_toInt (by omega)]
    omega
