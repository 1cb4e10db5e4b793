/-! ===== reading, of the reference: next ===== -/
/-- what stands k places on -/
def th_rw (σ : tm_S) (k : Int32) : Int32 := if σ.1 11 32 ≤ σ.1 11 35 + k then -1 else σ.1 65 (σ.1 11 35 + k).toNatClampNeg
set_option maxRecDepth 100000 in
set_option maxHeartbeats 4000000 in
theorem th_raw {d : Nat} {v : Int} {k : Int32} {σ : tm_S} (hT : tv_TY (tc_T v) σ) (hk0 : 0 ≤ k.toInt) (hk1 : k.toInt ≤ 1000) : WM d 235 [.ref 11, .int k] σ (th_is (.int (th_rw σ k)) σ) := by
  have g1 : 0 ≤ (σ.1 11 35).toInt ∧ (σ.1 11 35).toInt ≤ 800 := hT.1 11 35
  have g2 : 0 ≤ (σ.1 11 32).toInt ∧ (σ.1 11 32).toInt ≤ 800 := hT.1 11 32
  have e1 : (σ.1 11 35 + k).toInt = (σ.1 11 35).toInt + k.toInt := tn_add (by omega) (by omega)
  show WP d 235 0 [(0, .ref 11), (1, .int k)] [] σ _
  refine wp_lda rfl tm_m0 ?_
  refine wq_geti rfl rfl (f := 35) rfl rfl (Or.inl rfl) ?_
  refine wp_ldi rfl tm_m1 ?_
  refine wq_iadd rfl ?_
  refine wp_lda rfl tm_m0 ?_
  refine wq_geti rfl rfl (f := 32) rfl rfl (Or.inl rfl) ?_
  refine wq_icge rfl (fun h10 => ?_) (fun h10 => ?_)
  · refine wq_con (x := (-1)) rfl (by decide) ?_
    exact wp_reti rfl (th_nI rfl) ⟨by unfold th_rw; rw [if_pos h10], rfl⟩
  · have e10 : (σ.1 11 35 + k).toInt < (σ.1 11 32).toInt := by rw [tn_leI] at h10; omega
    refine wp_lda rfl tm_m0 ?_
    refine wq_getr (p := 65) rfl rfl (f := 31) rfl rfl ?_
    refine wp_lda rfl tm_m0 ?_
    refine wq_geti rfl rfl (f := 35) rfl rfl (Or.inl rfl) ?_
    refine wp_ldi rfl tm_m1 ?_
    refine wq_iadd rfl ?_
    refine wp_iald rfl rfl (tn_in (by omega) (by omega)) ?_
    refine wp_go rfl ?_
    exact wp_reti rfl (th_nI rfl) ⟨by unfold th_rw; rw [if_neg h10], rfl⟩
theorem th_rw_ne {v : Int} {k : Int32} {σ : tm_S} (hT : tv_TY (tc_T v) σ) (hk0 : 0 ≤ k.toInt) (hk1 : k.toInt ≤ 1000) (h : ¬ th_rw σ k = -1) : (σ.1 11 35).toInt + k.toInt < (σ.1 11 32).toInt := by
  have g1 : 0 ≤ (σ.1 11 35).toInt ∧ (σ.1 11 35).toInt ≤ 800 := hT.1 11 35
  have e1 : (σ.1 11 35 + k).toInt = (σ.1 11 35).toInt + k.toInt := tn_add (by omega) (by omega)
  unfold th_rw at h
  by_cases hc : σ.1 11 32 ≤ σ.1 11 35 + k
  · rw [if_pos hc] at h
    exact absurd rfl h
  · rw [tn_leI] at hc
    omega
set_option maxRecDepth 100000 in
set_option maxHeartbeats 4000000 in
theorem th_mlet {d : Nat} {c : Int32} {σ : tm_S} : WM d 236 [.ref 11, .int c] σ (fun r σ' => ((r = some (.int 1) ∧ 65 ≤ c.toInt ∧ c.toInt ≤ 122) ∨ r = some (.int 0)) ∧ σ = σ') := by
  show WP d 236 0 [(0, .ref 11), (1, .int c)] [] σ _
  refine wp_ldi rfl tm_m1 ?_
  refine wq_con (x := 97) rfl (by decide) ?_
  refine wq_iclt rfl (fun h3 => ?_) (fun h3 => ?_)
  · have g3 : (c).toInt < 97 := tn_ltI.mp h3
    refine wp_ldi rfl tm_m1 ?_
    refine wq_con (x := 65) rfl (by decide) ?_
    refine wq_iclt rfl (fun h15 => ?_) (fun h15 => ?_)
    · have g15 : (c).toInt < 65 := tn_ltI.mp h15
      refine wq_con (x := 0) rfl (by decide) ?_
      exact wp_reti rfl (th_n0 rfl) ⟨Or.inr rfl, rfl⟩
    · have g15 : ¬ (c).toInt < 65 := fun g => h15 (tn_ltI.mpr g)
      refine wp_ldi rfl tm_m1 ?_
      refine wq_con (x := 90) rfl (by decide) ?_
      refine wq_icgt rfl (fun h21 => ?_) (fun h21 => ?_)
      · have g21 : 90 < (c).toInt := tn_ltI.mp h21
        refine wq_con (x := 0) rfl (by decide) ?_
        exact wp_reti rfl (th_n0 rfl) ⟨Or.inr rfl, rfl⟩
      · have g21 : ¬ 90 < (c).toInt := fun g => h21 (tn_ltI.mpr g)
        refine wq_con (x := 1) rfl (by decide) ?_
        refine wp_go rfl ?_
        exact wp_reti rfl (th_n1 rfl) ⟨Or.inl ⟨rfl, by omega, by omega⟩, rfl⟩
  · have g3 : ¬ (c).toInt < 97 := fun g => h3 (tn_ltI.mpr g)
    refine wp_ldi rfl tm_m1 ?_
    refine wq_con (x := 122) rfl (by decide) ?_
    refine wq_icle rfl (fun h9 => ?_) (fun h9 => ?_)
    · have g9 : (c).toInt ≤ 122 := tn_leI.mp h9
      refine wq_con (x := 1) rfl (by decide) ?_
      refine wp_go rfl ?_
      exact wp_reti rfl (th_n1 rfl) ⟨Or.inl ⟨rfl, by omega, by omega⟩, rfl⟩
    · have g9 : ¬ (c).toInt ≤ 122 := fun g => h9 (tn_leI.mpr g)
      refine wp_ldi rfl tm_m1 ?_
      refine wq_con (x := 65) rfl (by decide) ?_
      refine wq_iclt rfl (fun h15 => ?_) (fun h15 => ?_)
      · have g15 : (c).toInt < 65 := tn_ltI.mp h15
        refine wq_con (x := 0) rfl (by decide) ?_
        exact wp_reti rfl (th_n0 rfl) ⟨Or.inr rfl, rfl⟩
      · have g15 : ¬ (c).toInt < 65 := fun g => h15 (tn_ltI.mpr g)
        refine wp_ldi rfl tm_m1 ?_
        refine wq_con (x := 90) rfl (by decide) ?_
        refine wq_icgt rfl (fun h21 => ?_) (fun h21 => ?_)
        · have g21 : 90 < (c).toInt := tn_ltI.mp h21
          refine wq_con (x := 0) rfl (by decide) ?_
          exact wp_reti rfl (th_n0 rfl) ⟨Or.inr rfl, rfl⟩
        · have g21 : ¬ 90 < (c).toInt := fun g => h21 (tn_ltI.mpr g)
          refine wq_con (x := 1) rfl (by decide) ?_
          refine wp_go rfl ?_
          exact wp_reti rfl (th_n1 rfl) ⟨Or.inl ⟨rfl, by omega, by omega⟩, rfl⟩
set_option maxRecDepth 100000 in
set_option maxHeartbeats 4000000 in
theorem th_mdig {d : Nat} {c : Int32} {σ : tm_S} : WM d 237 [.ref 11, .int c] σ (fun r σ' => ((r = some (.int 1) ∧ 48 ≤ c.toInt ∧ c.toInt ≤ 57) ∨ r = some (.int 0)) ∧ σ = σ') := by
  show WP d 237 0 [(0, .ref 11), (1, .int c)] [] σ _
  refine wp_ldi rfl tm_m1 ?_
  refine wq_con (x := 48) rfl (by decide) ?_
  refine wq_iclt rfl (fun h3 => ?_) (fun h3 => ?_)
  · have g3 : (c).toInt < 48 := tn_ltI.mp h3
    refine wq_con (x := 0) rfl (by decide) ?_
    exact wp_reti rfl (th_n0 rfl) ⟨Or.inr rfl, rfl⟩
  · have g3 : ¬ (c).toInt < 48 := fun g => h3 (tn_ltI.mpr g)
    refine wp_ldi rfl tm_m1 ?_
    refine wq_con (x := 57) rfl (by decide) ?_
    refine wq_icgt rfl (fun h9 => ?_) (fun h9 => ?_)
    · have g9 : 57 < (c).toInt := tn_ltI.mp h9
      refine wq_con (x := 0) rfl (by decide) ?_
      exact wp_reti rfl (th_n0 rfl) ⟨Or.inr rfl, rfl⟩
    · have g9 : ¬ 57 < (c).toInt := fun g => h9 (tn_ltI.mpr g)
      refine wq_con (x := 1) rfl (by decide) ?_
      refine wp_go rfl ?_
      exact wp_reti rfl (th_n1 rfl) ⟨Or.inl ⟨rfl, by omega, by omega⟩, rfl⟩
