/-! ===== periods: what both answer ===== -/
def th_okr (c2 s2 : Int32) : Prop := ∃ c S : Nat, c2 = nI c ∧ s2 = nI S ∧ 2 ≤ c ∧ c ≤ 24 ∧ 0 < S ∧ S < 2 ^ c
theorem th_IV0 {n : Nat} {σ : tm_S} (h : th_IV n σ) : th_IV n (tm_sI σ 11 0 0) := by
  obtain ⟨h3, hn, hT, hS⟩ := h
  have hu : tv_un σ (tm_sI σ 11 0 0) [(11, 0)] := tv_un_fI rfl
  exact ⟨h3, hn, tv_TY_sI hT tv_z0 tv_z1, th_SLu hT hS hu (by decide)⟩
set_option maxRecDepth 100000 in
set_option maxHeartbeats 4000000 in
theorem th_isr2 {d : Nat} {c2 s2 : Int32} {σ : tm_S} : WM d 202 [.ref 11, .int c2, .int s2] σ (fun q σ' => ((q = some (.int 1) ∧ th_okr c2 s2) ∨ (q = some (.int 0) ∧ ¬ th_okr c2 s2)) ∧ σ = σ') := by
  show WP d 202 0 [(0, .ref 11), (1, .int c2), (2, .int s2)] [] σ _
  refine wp_ldi rfl tm_m1 ?_
  refine wq_con (x := 2) rfl (by decide) ?_
  refine wq_iclt rfl (fun h2 => ?_) (fun h2 => ?_)
  · have g2 : (c2).toInt < 2 := tn_ltI.mp h2
    refine wq_con (x := 0) rfl (by decide) ?_
    refine wp_reti rfl (th_n0 rfl) ⟨Or.inr ⟨rfl, fun hk => ?_⟩, rfl⟩
    obtain ⟨c, S, rfl, rfl, p1, p2, p3, p4⟩ := hk
    have hp : 2 ^ c ≤ 2 ^ 24 := Nat.pow_le_pow_right (by decide) p2
    have e3 : (nI c).toInt = c := nI_toInt (by omega)
    have e4 : (nI S).toInt = S := nI_toInt (by omega)
    first | (change (nI c).toInt < (2 : Int) at g2; omega) | (change (24 : Int) < (nI c).toInt at g8; omega) | (change (nI S).toInt ≤ (0 : Int) at g12; omega) | (rw [th_p24 c p2, e4, nI_toInt (by omega)] at g19; omega)
  · have g2 : ¬ (c2).toInt < 2 := fun g => h2 (tn_ltI.mpr g)
    refine wp_ldi rfl tm_m1 ?_
    refine wq_con (x := 24) rfl (by decide) ?_
    refine wq_icgt rfl (fun h8 => ?_) (fun h8 => ?_)
    · have g8 : 24 < (c2).toInt := tn_ltI.mp h8
      refine wq_con (x := 0) rfl (by decide) ?_
      refine wp_reti rfl (th_n0 rfl) ⟨Or.inr ⟨rfl, fun hk => ?_⟩, rfl⟩
      obtain ⟨c, S, rfl, rfl, p1, p2, p3, p4⟩ := hk
      have hp : 2 ^ c ≤ 2 ^ 24 := Nat.pow_le_pow_right (by decide) p2
      have e3 : (nI c).toInt = c := nI_toInt (by omega)
      have e4 : (nI S).toInt = S := nI_toInt (by omega)
      first | (change (nI c).toInt < (2 : Int) at g2; omega) | (change (24 : Int) < (nI c).toInt at g8; omega) | (change (nI S).toInt ≤ (0 : Int) at g12; omega) | (rw [th_p24 c p2, e4, nI_toInt (by omega)] at g19; omega)
    · have g8 : ¬ 24 < (c2).toInt := fun g => h8 (tn_ltI.mpr g)
      refine wp_ldi rfl tm_m2 ?_
      refine wq_ifle rfl (fun h12 => ?_) (fun h12 => ?_)
      · have g12 : (s2).toInt ≤ 0 := tn_leI.mp h12
        refine wq_con (x := 0) rfl (by decide) ?_
        refine wp_reti rfl (th_n0 rfl) ⟨Or.inr ⟨rfl, fun hk => ?_⟩, rfl⟩
        obtain ⟨c, S, rfl, rfl, p1, p2, p3, p4⟩ := hk
        have hp : 2 ^ c ≤ 2 ^ 24 := Nat.pow_le_pow_right (by decide) p2
        have e3 : (nI c).toInt = c := nI_toInt (by omega)
        have e4 : (nI S).toInt = S := nI_toInt (by omega)
        first | (change (nI c).toInt < (2 : Int) at g2; omega) | (change (24 : Int) < (nI c).toInt at g8; omega) | (change (nI S).toInt ≤ (0 : Int) at g12; omega) | (rw [th_p24 c p2, e4, nI_toInt (by omega)] at g19; omega)
      · have g12 : ¬ (s2).toInt ≤ 0 := fun g => h12 (tn_leI.mpr g)
        refine wp_ldi rfl tm_m2 ?_
        refine wq_con (x := 1) rfl (by decide) ?_
        refine wp_ldi rfl tm_m1 ?_
        refine wq_ishl rfl ?_
        refine wq_icge rfl (fun h19 => ?_) (fun h19 => ?_)
        · have g19 : (1 <<< (c2 &&& 31)).toInt ≤ (s2).toInt := tn_leI.mp h19
          refine wq_con (x := 0) rfl (by decide) ?_
          refine wp_reti rfl (th_n0 rfl) ⟨Or.inr ⟨rfl, fun hk => ?_⟩, rfl⟩
          obtain ⟨c, S, rfl, rfl, p1, p2, p3, p4⟩ := hk
          have hp : 2 ^ c ≤ 2 ^ 24 := Nat.pow_le_pow_right (by decide) p2
          have e3 : (nI c).toInt = c := nI_toInt (by omega)
          have e4 : (nI S).toInt = S := nI_toInt (by omega)
          first | (change (nI c).toInt < (2 : Int) at g2; omega) | (change (24 : Int) < (nI c).toInt at g8; omega) | (change (nI S).toInt ≤ (0 : Int) at g12; omega) | (rw [th_p24 c p2, e4, nI_toInt (by omega)] at g19; omega)
        · have g19 : ¬ (1 <<< (c2 &&& 31)).toInt ≤ (s2).toInt := fun g => h19 (tn_leI.mpr g)
          refine wq_con (x := 1) rfl (by decide) ?_
          refine wp_go rfl ?_
          change ¬ c2.toInt < (2 : Int) at g2
          change ¬ (24 : Int) < c2.toInt at g8
          change ¬ s2.toInt ≤ (0 : Int) at g12
          obtain ⟨c, c1, rfl⟩ := nI_of (x := c2) (by rw [tn_ltI]; show ¬ c2.toInt < 0; omega)
          obtain ⟨S, m1, rfl⟩ := nI_of (x := s2) (by rw [tn_ltI]; show ¬ s2.toInt < 0; omega)
          rw [nI_toInt c1] at g2 g8
          rw [nI_toInt m1] at g12
          have hp : 2 ^ c ≤ 2 ^ 24 := Nat.pow_le_pow_right (by decide) (by omega)
          rw [th_p24 c (by omega), nI_toInt m1, nI_toInt (by omega)] at g19
          exact wp_reti rfl (th_n1 rfl) ⟨Or.inl ⟨rfl, c, S, rfl, rfl, by omega, by omega, by omega, by omega⟩, rfl⟩
set_option maxRecDepth 100000 in
set_option maxHeartbeats 4000000 in
theorem th_isb2 {d : Nat} {c2 s2 : Int32} {σ : tm_S} : WM d 78 [.int c2, .int s2] σ (fun q σ' => ((q = some (.int 1) ∧ th_okr c2 s2) ∨ (q = some (.int 0) ∧ ¬ th_okr c2 s2)) ∧ σ = σ') := by
  show WP d 78 0 [(0, .int c2), (1, .int s2)] [] σ _
  refine wp_ldi rfl tm_m0 ?_
  refine wq_con (x := 2) rfl (by decide) ?_
  refine wq_iclt rfl (fun h2 => ?_) (fun h2 => ?_)
  · have g2 : (c2).toInt < 2 := tn_ltI.mp h2
    refine wq_con (x := 0) rfl (by decide) ?_
    refine wp_reti rfl (th_n0 rfl) ⟨Or.inr ⟨rfl, fun hk => ?_⟩, rfl⟩
    obtain ⟨c, S, rfl, rfl, p1, p2, p3, p4⟩ := hk
    have hp : 2 ^ c ≤ 2 ^ 24 := Nat.pow_le_pow_right (by decide) p2
    have e3 : (nI c).toInt = c := nI_toInt (by omega)
    have e4 : (nI S).toInt = S := nI_toInt (by omega)
    first | (change (nI c).toInt < (2 : Int) at g2; omega) | (change (24 : Int) < (nI c).toInt at g8; omega) | (change (nI S).toInt ≤ (0 : Int) at g12; omega) | (rw [th_p24 c p2, e4, nI_toInt (by omega)] at g19; omega)
  · have g2 : ¬ (c2).toInt < 2 := fun g => h2 (tn_ltI.mpr g)
    refine wp_ldi rfl tm_m0 ?_
    refine wq_con (x := 24) rfl (by decide) ?_
    refine wq_icgt rfl (fun h8 => ?_) (fun h8 => ?_)
    · have g8 : 24 < (c2).toInt := tn_ltI.mp h8
      refine wq_con (x := 0) rfl (by decide) ?_
      refine wp_reti rfl (th_n0 rfl) ⟨Or.inr ⟨rfl, fun hk => ?_⟩, rfl⟩
      obtain ⟨c, S, rfl, rfl, p1, p2, p3, p4⟩ := hk
      have hp : 2 ^ c ≤ 2 ^ 24 := Nat.pow_le_pow_right (by decide) p2
      have e3 : (nI c).toInt = c := nI_toInt (by omega)
      have e4 : (nI S).toInt = S := nI_toInt (by omega)
      first | (change (nI c).toInt < (2 : Int) at g2; omega) | (change (24 : Int) < (nI c).toInt at g8; omega) | (change (nI S).toInt ≤ (0 : Int) at g12; omega) | (rw [th_p24 c p2, e4, nI_toInt (by omega)] at g19; omega)
    · have g8 : ¬ 24 < (c2).toInt := fun g => h8 (tn_ltI.mpr g)
      refine wp_ldi rfl tm_m1 ?_
      refine wq_ifle rfl (fun h12 => ?_) (fun h12 => ?_)
      · have g12 : (s2).toInt ≤ 0 := tn_leI.mp h12
        refine wq_con (x := 0) rfl (by decide) ?_
        refine wp_reti rfl (th_n0 rfl) ⟨Or.inr ⟨rfl, fun hk => ?_⟩, rfl⟩
        obtain ⟨c, S, rfl, rfl, p1, p2, p3, p4⟩ := hk
        have hp : 2 ^ c ≤ 2 ^ 24 := Nat.pow_le_pow_right (by decide) p2
        have e3 : (nI c).toInt = c := nI_toInt (by omega)
        have e4 : (nI S).toInt = S := nI_toInt (by omega)
        first | (change (nI c).toInt < (2 : Int) at g2; omega) | (change (24 : Int) < (nI c).toInt at g8; omega) | (change (nI S).toInt ≤ (0 : Int) at g12; omega) | (rw [th_p24 c p2, e4, nI_toInt (by omega)] at g19; omega)
      · have g12 : ¬ (s2).toInt ≤ 0 := fun g => h12 (tn_leI.mpr g)
        refine wp_ldi rfl tm_m1 ?_
        refine wq_con (x := 1) rfl (by decide) ?_
        refine wp_ldi rfl tm_m0 ?_
        refine wq_ishl rfl ?_
        refine wq_icge rfl (fun h19 => ?_) (fun h19 => ?_)
        · have g19 : (1 <<< (c2 &&& 31)).toInt ≤ (s2).toInt := tn_leI.mp h19
          refine wq_con (x := 0) rfl (by decide) ?_
          refine wp_reti rfl (th_n0 rfl) ⟨Or.inr ⟨rfl, fun hk => ?_⟩, rfl⟩
          obtain ⟨c, S, rfl, rfl, p1, p2, p3, p4⟩ := hk
          have hp : 2 ^ c ≤ 2 ^ 24 := Nat.pow_le_pow_right (by decide) p2
          have e3 : (nI c).toInt = c := nI_toInt (by omega)
          have e4 : (nI S).toInt = S := nI_toInt (by omega)
          first | (change (nI c).toInt < (2 : Int) at g2; omega) | (change (24 : Int) < (nI c).toInt at g8; omega) | (change (nI S).toInt ≤ (0 : Int) at g12; omega) | (rw [th_p24 c p2, e4, nI_toInt (by omega)] at g19; omega)
        · have g19 : ¬ (1 <<< (c2 &&& 31)).toInt ≤ (s2).toInt := fun g => h19 (tn_leI.mpr g)
          refine wq_con (x := 1) rfl (by decide) ?_
          refine wp_go rfl ?_
          change ¬ c2.toInt < (2 : Int) at g2
          change ¬ (24 : Int) < c2.toInt at g8
          change ¬ s2.toInt ≤ (0 : Int) at g12
          obtain ⟨c, c1, rfl⟩ := nI_of (x := c2) (by rw [tn_ltI]; show ¬ c2.toInt < 0; omega)
          obtain ⟨S, m1, rfl⟩ := nI_of (x := s2) (by rw [tn_ltI]; show ¬ s2.toInt < 0; omega)
          rw [nI_toInt c1] at g2 g8
          rw [nI_toInt m1] at g12
          have hp : 2 ^ c ≤ 2 ^ 24 := Nat.pow_le_pow_right (by decide) (by omega)
          rw [th_p24 c (by omega), nI_toInt m1, nI_toInt (by omega)] at g19
          exact wp_reti rfl (th_n1 rfl) ⟨Or.inl ⟨rfl, c, S, rfl, rfl, by omega, by omega, by omega, by omega⟩, rfl⟩
set_option maxRecDepth 100000 in
set_option maxHeartbeats 4000000 in
theorem th_trnd {d c S e : Nat} {σ : tm_S} (hc : c ≤ 24) (hS : S < 2 ^ c) (he : e < c) : WM d 11 [.int (nI S), .int (nI e), .int (nI c)] σ (th_is (.int (nI (th_R c S e))) σ) := by
  have hp : 2 ^ c ≤ 2 ^ 24 := Nat.pow_le_pow_right (by decide) hc
  have hd : S / 2 ^ (c - e) ≤ S := Nat.div_le_self _ _
  have es : nI c - nI e = nI (c - e) := Int32.toInt_inj.mp (by rw [tn_sub (by rw [nI_toInt (by omega), nI_toInt (by omega)]; omega) (by rw [nI_toInt (by omega), nI_toInt (by omega)]; omega), nI_toInt (by omega), nI_toInt (by omega), nI_toInt (by omega)]; omega)
  have eu : ((nI S : Int32).toUInt32 >>> ((nI (c - e) : Int32).toUInt32 &&& Int32.toUInt32 31)).toInt32 = nI (S / 2 ^ (c - e)) := by
    refine th_iof ?_ (by omega)
    rw [tn_ushr, th_nn (by omega), th_nn (by omega), Nat.mod_eq_of_lt (show c - e < 32 by omega)]
  have eR : (nI S <<< (nI e &&& 31) ||| nI (S / 2 ^ (c - e))) &&& nI (2 ^ c - 1) = nI (th_R c S e) := by
    have hl := th_R_lt (e := e) hS
    refine th_iof ?_ (by omega)
    rw [tn_and, tn_or, tn_shl, th_nn (by omega), th_nn (by omega), th_nn (by omega), th_nn (by omega), Nat.mod_eq_of_lt (show e < 32 by omega), Nat.and_two_pow_sub_one_eq_mod]
    unfold th_R
    by_cases h0 : e = 0
    · rw [if_pos h0, h0, Nat.sub_zero, Nat.div_eq_of_lt hS, Nat.pow_zero, Nat.mul_one, Nat.mod_eq_of_lt (show S < 4294967296 by omega), Nat.or_zero, Nat.mod_eq_of_lt hS]
    · rw [if_neg h0]
  show WP d 11 0 [(0, .int (nI S)), (1, .int (nI e)), (2, .int (nI c))] [] σ _
  refine wp_ldi rfl tm_m0 ?_
  refine wp_ldi rfl tm_m1 ?_
  refine wq_ishl rfl ?_
  refine wp_ldi rfl tm_m0 ?_
  refine wp_ldi rfl tm_m2 ?_
  refine wp_ldi rfl tm_m1 ?_
  refine wq_isub rfl ?_
  rw [es]
  refine wq_iushr rfl ?_
  rw [eu]
  refine wq_ior rfl ?_
  refine wq_con (x := 1) rfl (by decide) ?_
  refine wp_ldi rfl tm_m2 ?_
  refine wq_ishl rfl ?_
  refine wq_con (x := 1) rfl (by decide) ?_
  refine wq_isub rfl ?_
  rw [th_m24 c hc]
  refine wq_iand rfl ?_
  rw [eR]
  exact wp_reti rfl (th_nI rfl) ⟨rfl, rfl⟩
def th_PD (c S q : Nat) : Prop := 1 ≤ q ∧ q ≤ c ∧ (∀ p : Nat, 1 ≤ p → p < q → ¬ th_R c S p = S) ∧ (q = c ∨ th_R c S q = S)
theorem th_PD_u {c S q p : Nat} (h : th_PD c S q) (g : th_PD c S p) : q = p := by
  obtain ⟨h1, h2, h3, h4⟩ := h
  obtain ⟨g1, g2, g3, g4⟩ := g
  rcases Nat.lt_trichotomy q p with e | e | e
  · rcases h4 with h4 | h4
    · omega
    · exact absurd h4 (g3 q h1 e)
  · exact e
  · rcases g4 with g4 | g4
    · omega
    · exact absurd g4 (h3 p g1 e)
set_option maxRecDepth 100000 in
set_option maxHeartbeats 4000000 in
theorem th_lper {d c S : Nat} {σ : tm_S} (hc1 : 1 ≤ c) (hc : c ≤ 24) (hS : S < 2 ^ c) : WM (d + 1) 88 [.int (nI c), .int (nI S)] σ (fun r σ' => (∃ q : Nat, r = some (.int (nI q)) ∧ th_PD c S q) ∧ σ = σ') := by
  have hp : 2 ^ c ≤ 2 ^ 24 := Nat.pow_le_pow_right (by decide) hc
  have hR : ∀ p : Nat, th_R c S p < 2 ^ c := fun p => th_R_lt hS
  have k2 : ∀ m p : Nat, p + m = c → 1 ≤ p → (∀ i : Nat, 1 ≤ i → i < p → ¬ th_R c S i = S) → WP (d + 1) 88 2 [(2, .int (nI p)), (0, .int (nI c)), (1, .int (nI S))] [] σ (fun r σ' => (∃ q : Nat, r = some (.int (nI q)) ∧ th_PD c S q) ∧ σ = σ') := by
    intro m
    induction m with
    | zero =>
      intro p hm h1 hi
      obtain rfl : p = c := by omega
      refine wp_ldi rfl tm_m0 ?_
      refine wp_ldi rfl tm_m1 ?_
      refine wq_icge rfl (fun h4 => ?_) (fun h4 => absurd (nI_le (Nat.le_refl _) (by omega)) h4)
      refine wp_ldi rfl tm_m1 ?_
      exact wp_reti rfl (th_nI rfl) ⟨⟨p, rfl, h1, Nat.le_refl _, hi, Or.inl rfl⟩, rfl⟩
    | succ m ih =>
      intro p hm h1 hi
      have hRp := hR p
      refine wp_ldi rfl tm_m0 ?_
      refine wp_ldi rfl tm_m1 ?_
      refine wq_icge rfl (fun h4 => absurd h4 (nI_ge (by omega) (by omega))) (fun h4 => ?_)
      refine wp_ldi rfl tm_m2 ?_
      refine wp_ldi rfl tm_m0 ?_
      refine wp_ldi rfl tm_m1 ?_
      refine wq_cals [.int (nI S), .int (nI p), .int (nI c)] rfl rfl rfl rfl rfl rfl (th_trnd hc hS (by omega)) ?_
      rintro _ _ ⟨rfl, rfl⟩
      refine wp_ldi rfl tm_m2 ?_
      refine wq_icne rfl (fun h14 => ?_) (fun h14 => ?_)
      · refine wq_inc (c := 1) [(2, .int ((nI p) + 1)), (0, .int (nI c)), (1, .int (nI S))] rfl tm_m0 rfl rfl ?_
        refine wp_go rfl ?_
        rw [nI_1]
        refine WP.less (ih (p + 1) (by omega) (by omega) (fun i i1 i2 => ?_)) (by simp)
        rcases Nat.lt_or_ge i p with e | e
        · exact hi i i1 e
        · obtain rfl : i = p := by omega
          exact fun e2 => h14 (by rw [e2])
      · refine wp_ldi rfl tm_m0 ?_
        exact wp_reti rfl (th_nI rfl) ⟨⟨p, rfl, h1, by omega, hi, Or.inr ((nI_eq (by omega) (by omega)).mp (Classical.not_not.mp h14))⟩, rfl⟩
  show WP (d + 1) 88 0 [(0, .int (nI c)), (1, .int (nI S))] [] σ _
  refine wq_con (x := nI 1) rfl (by decide) ?_
  refine wq_sti [(2, .int (nI 1)), (0, .int (nI c)), (1, .int (nI S))] rfl rfl ?_
  exact WP.less (k2 (c - 1) 1 (by omega) (by omega) (fun i i1 i2 => absurd i1 (by omega))) (by simp)
set_option maxRecDepth 100000 in
set_option maxHeartbeats 4000000 in
theorem th_pero {d c S : Nat} {σ : tm_S} (hc1 : 1 ≤ c) (hc : c ≤ 24) (hS : S < 2 ^ c) : WM (d + 1) 209 [.ref 11, .int (nI c), .int (nI S)] σ (fun r σ' => (∃ q : Nat, r = some (.int (nI q)) ∧ th_PD c S q) ∧ σ = σ') := by
  have hp : 2 ^ c ≤ 2 ^ 24 := Nat.pow_le_pow_right (by decide) hc
  have hR : ∀ p : Nat, th_R c S p < 2 ^ c := fun p => th_R_lt hS
  have k2 : ∀ m p : Nat, p + m = c → 1 ≤ p → (∀ i : Nat, 1 ≤ i → i < p → ¬ th_R c S i = S) → WP (d + 1) 209 2 [(3, .int (nI p)), (0, .ref 11), (1, .int (nI c)), (2, .int (nI S))] [] σ (fun r σ' => (∃ q : Nat, r = some (.int (nI q)) ∧ th_PD c S q) ∧ σ = σ') := by
    intro m
    induction m with
    | zero =>
      intro p hm h1 hi
      obtain rfl : p = c := by omega
      refine wp_ldi rfl tm_m0 ?_
      refine wp_ldi rfl tm_m2 ?_
      refine wq_icge rfl (fun h4 => ?_) (fun h4 => absurd (nI_le (Nat.le_refl _) (by omega)) h4)
      refine wp_ldi rfl tm_m0 ?_
      exact wp_reti rfl (th_nI rfl) ⟨⟨p, rfl, h1, Nat.le_refl _, hi, Or.inl rfl⟩, rfl⟩
    | succ m ih =>
      intro p hm h1 hi
      have hRp := hR p
      refine wp_ldi rfl tm_m0 ?_
      refine wp_ldi rfl tm_m2 ?_
      refine wq_icge rfl (fun h4 => absurd h4 (nI_ge (by omega) (by omega))) (fun h4 => ?_)
      refine wp_lda rfl tm_m1 ?_
      refine wp_ldi rfl tm_m2 ?_
      refine wp_ldi rfl tm_m3 ?_
      refine wp_ldi rfl tm_m0 ?_
      refine wq_calv [.int (nI c), .int (nI S), .int (nI p)] rfl rfl rfl rfl rfl rfl rfl rfl rfl (th_later hc hS (by omega) (by omega)) ?_
      rintro _ _ ⟨rfl, rfl⟩
      refine wp_ldi rfl tm_m3 ?_
      refine wq_iceq rfl (fun h15 => ?_) (fun h15 => ?_)
      · refine wp_ldi rfl tm_m0 ?_
        exact wp_reti rfl (th_nI rfl) ⟨⟨p, rfl, h1, by omega, hi, Or.inr ((nI_eq (by omega) (by omega)).mp (h15))⟩, rfl⟩
      · refine wp_ldi rfl tm_m0 ?_
        refine wq_con (x := 1) rfl (by decide) ?_
        refine wq_iadd rfl ?_
        refine wq_sti [(3, .int ((nI p) + 1)), (0, .ref 11), (1, .int (nI c)), (2, .int (nI S))] rfl rfl ?_
        refine wp_go rfl ?_
        rw [nI_1]
        refine WP.less (ih (p + 1) (by omega) (by omega) (fun i i1 i2 => ?_)) (by simp)
        rcases Nat.lt_or_ge i p with e | e
        · exact hi i i1 e
        · obtain rfl : i = p := by omega
          exact fun e2 => h15 (by rw [e2])
  show WP (d + 1) 209 0 [(0, .ref 11), (1, .int (nI c)), (2, .int (nI S))] [] σ _
  refine wq_con (x := nI 1) rfl (by decide) ?_
  refine wq_sti [(3, .int (nI 1)), (0, .ref 11), (1, .int (nI c)), (2, .int (nI S))] rfl rfl ?_
  exact WP.less (k2 (c - 1) 1 (by omega) (by omega) (fun i i1 i2 => absurd i1 (by omega))) (by simp)
/-- what period answers -/
def tp_per (c2 s2 z : Int32) : Prop := (∃ c S q : Nat, c2 = nI c ∧ s2 = nI S ∧ c ≤ 24 ∧ S < 2 ^ c ∧ z = nI q ∧ th_PD c S q ∧ th_okr c2 s2) ∨ (¬ th_okr c2 s2 ∧ z = -1)
theorem tp_per_u {c2 s2 z w : Int32} (h : tp_per c2 s2 z) (g : tp_per c2 s2 w) : z = w := by
  rcases h with ⟨c, S, q, e1, e2, e3, e4, e5, e6, e7⟩ | ⟨h1, h2⟩
  · rcases g with ⟨c', S', q', f1, f2, f3, f4, f5, f6, f7⟩ | ⟨g1, g2⟩
    · have hp : 2 ^ c ≤ 2 ^ 24 := Nat.pow_le_pow_right (by decide) e3
      have hp' : 2 ^ c' ≤ 2 ^ 24 := Nat.pow_le_pow_right (by decide) f3
      have ec : c = c' := (nI_eq (by omega) (by omega)).mp (e1.symm.trans f1)
      have eS : S = S' := (nI_eq (by omega) (by omega)).mp (e2.symm.trans f2)
      subst ec
      subst eS
      rw [e5, f5, th_PD_u e6 f6]
    · exact absurd e7 g1
  · rcases g with ⟨c', S', q', f1, f2, f3, f4, f5, f6, f7⟩ | ⟨g1, g2⟩
    · exact absurd f7 h1
    · rw [h2, g2]
set_option maxRecDepth 100000 in
set_option maxHeartbeats 4000000 in
theorem tf_x_period {n : Nat} {a1 a2 : Int32} {σ : tm_S} (h : th_IV n σ) : WM 90 89 [.ref 0, .int a1, .int a2] σ (fun r σ' => ∃ z : Int32, r = some (.int z) ∧ tp_per a1 a2 z ∧ th_IV n σ') := by
  show WP 90 89 0 [(0, .ref 0), (1, .int a1), (2, .int a2)] [] σ _
  refine wp_ldi rfl tm_m1 ?_
  refine wp_ldi rfl tm_m2 ?_
  refine wq_cals [.int a1, .int a2] rfl rfl rfl rfl rfl rfl (th_isb2) ?_
  rintro r2 _ ⟨hr2, rfl⟩
  obtain ⟨z2, rfl, hz2, hn2⟩ : ∃ z : Int32, r2 = some (.int z) ∧ (¬ z = 0 → th_okr a1 a2) ∧ (z = 0 → ¬ th_okr a1 a2) := by
    rcases hr2 with ⟨rfl, g⟩ | ⟨rfl, g⟩
    · exact ⟨_, rfl, fun _ => g, fun e => absurd e (by decide)⟩
    · exact ⟨_, rfl, fun e => absurd rfl e, fun _ => g⟩
  refine wq_ifeq rfl (fun h5 => ?_) (fun h5 => ?_)
  · refine wq_con (x := (-1)) rfl (by decide) ?_
    exact wp_reti rfl (th_nI rfl) ⟨_, rfl, Or.inr ⟨hn2 h5, rfl⟩, h⟩
  · obtain ⟨c, S, e1, e2, c2, c24, s0, hS⟩ := hz2 h5
    refine wp_ldi rfl tm_m1 ?_
    refine wp_ldi rfl tm_m2 ?_
    refine wq_cals [.int a1, .int a2] rfl rfl rfl rfl rfl rfl (by rw [e1, e2]; exact th_lper (d := 88) (c := c) (S := S) (by omega) (by omega) hS) ?_
    rintro _ _ ⟨⟨q, rfl, hq⟩, rfl⟩
    refine wp_go rfl ?_
    exact wp_reti rfl (th_nI rfl) ⟨_, rfl, Or.inl ⟨c, S, q, e1, e2, by omega, hS, rfl, hq, ⟨c, S, e1, e2, c2, c24, s0, hS⟩⟩, h⟩
set_option maxRecDepth 100000 in
set_option maxHeartbeats 4000000 in
theorem tf_m_period {n : Nat} {a1 a2 : Int32} {σ : tm_S} (h : th_IV n σ) : WM 90 210 [.ref 11, .int a1, .int a2] σ (fun r σ' => ∃ z : Int32, r = some (.int z) ∧ tp_per a1 a2 z ∧ th_IV n σ') := by
  show WP 90 210 0 [(0, .ref 11), (1, .int a1), (2, .int a2)] [] σ _
  refine wp_lda rfl tm_m0 ?_
  refine wq_con (x := 0) rfl (by decide) ?_
  refine wq_puti rfl rfl (f := 0) rfl rfl ?_
  refine wp_lda rfl tm_m0 ?_
  refine wp_ldi rfl tm_m1 ?_
  refine wp_ldi rfl tm_m2 ?_
  refine wq_calv [.int a1, .int a2] rfl rfl rfl rfl rfl rfl rfl rfl rfl (th_isr2) ?_
  rintro r8 _ ⟨hr8, rfl⟩
  obtain ⟨z8, rfl, hz8, hn8⟩ : ∃ z : Int32, r8 = some (.int z) ∧ (¬ z = 0 → th_okr a1 a2) ∧ (z = 0 → ¬ th_okr a1 a2) := by
    rcases hr8 with ⟨rfl, g⟩ | ⟨rfl, g⟩
    · exact ⟨_, rfl, fun _ => g, fun e => absurd e (by decide)⟩
    · exact ⟨_, rfl, fun e => absurd rfl e, fun _ => g⟩
  refine wq_ifeq rfl (fun h11 => ?_) (fun h11 => ?_)
  · refine wq_con (x := (-1)) rfl (by decide) ?_
    exact wp_reti rfl (th_nI rfl) ⟨_, rfl, Or.inr ⟨hn8 h11, rfl⟩, th_IV0 h⟩
  · obtain ⟨c, S, e1, e2, c2, c24, s0, hS⟩ := hz8 h11
    refine wp_lda rfl tm_m0 ?_
    refine wp_ldi rfl tm_m1 ?_
    refine wp_ldi rfl tm_m2 ?_
    refine wq_calv [.int a1, .int a2] rfl rfl rfl rfl rfl rfl rfl rfl rfl (by rw [e1, e2]; exact th_pero (d := 88) (c := c) (S := S) (by omega) (by omega) hS) ?_
    rintro _ _ ⟨⟨q, rfl, hq⟩, rfl⟩
    refine wp_go rfl ?_
    exact wp_reti rfl (th_nI rfl) ⟨_, rfl, Or.inl ⟨c, S, q, e1, e2, by omega, hS, rfl, hq, ⟨c, S, e1, e2, c2, c24, s0, hS⟩⟩, th_IV0 h⟩
