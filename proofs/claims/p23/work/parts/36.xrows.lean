/-! ===== rows of the class ===== -/
set_option maxRecDepth 100000 in
set_option maxHeartbeats 4000000 in
theorem th_nt {d : Nat} {r : Int64} {i : Nat} {σ : tm_S} (hi : i < 16) : WM d 56 [.long r, .int (nI i)] σ (th_is (.int (nI (th_nb r i))) σ) := by
  show WP d 56 0 [(0, .long r), (2, .int (nI i))] [] σ _
  refine wp_ldl rfl tm_m0 ?_
  refine wq_con (x := 4) rfl (by decide) ?_
  refine wp_ldi rfl tm_m1 ?_
  refine wq_imul rfl ?_
  refine wq_lushr rfl ?_
  refine wp_l2i rfl ?_
  refine wq_con (x := 15) rfl (by decide) ?_
  refine wq_iand rfl ?_
  exact wp_reti rfl (th_nI rfl) ⟨by rw [th_note hi], rfl⟩
set_option maxRecDepth 100000 in
set_option maxHeartbeats 4000000 in
theorem th_nof {d : Nat} {r : Int64} {f k : Nat} {σ : tm_S} (hf : f + k ≤ 16) : WM (d + 1) 55 [.long r, .int (nI f), .int (nI k)] σ (th_is (.int (nI (th_or r f k))) σ) := by
  have k6 : ∀ m c : Nat, c + m = k → WP (d + 1) 55 6 [(5, .int (nI (f + c))), (4, .int (nI (th_or r f c))), (0, .long r), (2, .int (nI f)), (3, .int (nI k))] [] σ (th_is (.int (nI (th_or r f k))) σ) := by
    intro m
    induction m with
    | zero =>
      intro c hc
      obtain rfl : c = k := by omega
      refine wp_ldi rfl tm_m0 ?_
      refine wp_ldi rfl tm_m3 ?_
      refine wp_ldi rfl tm_m4 ?_
      refine wq_iadd rfl ?_
      rw [nI_add]
      refine wq_icge rfl (fun h11 => ?_) (fun h11 => absurd (nI_le (Nat.le_refl _) (by omega)) h11)
      refine wp_ldi rfl tm_m1 ?_
      exact wp_reti rfl (th_nI rfl) ⟨rfl, rfl⟩
    | succ m ih =>
      intro c hc
      refine wp_ldi rfl tm_m0 ?_
      refine wp_ldi rfl tm_m3 ?_
      refine wp_ldi rfl tm_m4 ?_
      refine wq_iadd rfl ?_
      rw [nI_add]
      refine wq_icge rfl (fun h11 => absurd h11 (nI_ge (by omega) (by omega))) (fun h11 => ?_)
      refine wp_ldi rfl tm_m1 ?_
      refine wq_con (x := 1) rfl (by decide) ?_
      refine wp_ldl rfl tm_m2 ?_
      refine wp_ldi rfl tm_m0 ?_
      refine wq_cals [.long r, .int (nI (f + c))] rfl rfl rfl rfl rfl rfl (th_nt (i := (f + c)) (by omega)) ?_
      rintro _ _ ⟨rfl, rfl⟩
      refine wq_ishl rfl ?_
      refine wq_ior rfl ?_
      rw [th_nIor (th_or_lt (fun i _ => th_nb16 r (f + i))) (th_nb16 r (f + c)), show th_or r f c ||| 2 ^ th_nb r (f + c) = th_or r f (c + 1) from rfl]
      refine wq_sti [(4, .int (nI (th_or r f (c + 1)))), (5, .int (nI (f + c))), (0, .long r), (2, .int (nI f)), (3, .int (nI k))] rfl rfl ?_
      refine wq_inc (c := 1) [(5, .int ((nI (f + c)) + 1)), (4, .int (nI (th_or r f (c + 1)))), (0, .long r), (2, .int (nI f)), (3, .int (nI k))] rfl tm_m1 rfl rfl ?_
      refine wp_go rfl ?_
      rw [nI_1, Nat.add_assoc]
      exact WP.less (ih (c + 1) (by omega)) (by simp)
  show WP (d + 1) 55 0 [(0, .long r), (2, .int (nI f)), (3, .int (nI k))] [] σ _
  refine wq_con (x := nI 0) rfl (by decide) ?_
  refine wq_sti [(4, .int (nI 0)), (0, .long r), (2, .int (nI f)), (3, .int (nI k))] rfl rfl ?_
  refine wp_ldi rfl tm_m2 ?_
  refine wq_sti [(5, .int (nI f)), (4, .int (nI 0)), (0, .long r), (2, .int (nI f)), (3, .int (nI k))] rfl rfl ?_
  exact WP.less (k6 k 0 (by omega)) (by simp [th_or])
set_option maxRecDepth 100000 in
set_option maxHeartbeats 4000000 in
theorem th_isrow {d : Nat} {r : Int64} {n : Nat} {σ : tm_S} (hn : n ≤ 12) : WM (d + 2) 54 [.long r, .int (nI n)] σ (fun q σ' => ((q = some (.int 1) ∧ th_or r 0 n = 2 ^ n - 1) ∨ q = some (.int 0)) ∧ σ = σ') := by
  show WP (d + 2) 54 0 [(0, .long r), (2, .int (nI n))] [] σ _
  have hl : th_or r 0 n < 2 ^ 16 := th_or_lt (fun i _ => th_nb16 r (0 + i))
  have hp : 2 ^ n - 1 < 4096 := by have := Nat.pow_le_pow_right (n := 2) (by decide) hn; omega
  refine wp_ldl rfl tm_m0 ?_
  refine wq_con (x := nI 0) rfl (by decide) ?_
  refine wp_ldi rfl tm_m1 ?_
  refine wq_cals [.long r, .int (nI 0), .int (nI n)] rfl rfl rfl rfl rfl rfl (th_nof (f := 0) (k := n) (by omega)) ?_
  rintro _ _ ⟨rfl, rfl⟩
  refine wq_con (x := 1) rfl (by decide) ?_
  refine wp_ldi rfl tm_m1 ?_
  refine wq_ishl rfl ?_
  refine wq_con (x := 1) rfl (by decide) ?_
  refine wq_isub rfl ?_
  rw [th_all1 n hn]
  refine wq_icne rfl (fun h11 => ?_) (fun h11 => ?_)
  · refine wq_con (x := 0) rfl (by decide) ?_
    exact wp_reti rfl (th_n0 rfl) ⟨Or.inr rfl, rfl⟩
  · refine wq_con (x := 1) rfl (by decide) ?_
    refine wp_go rfl ?_
    exact wp_reti rfl (th_n1 rfl) ⟨Or.inl ⟨rfl, (nI_eq (by omega) (by omega)).mp (Classical.not_not.mp h11)⟩, rfl⟩
set_option maxRecDepth 100000 in
set_option maxHeartbeats 4000000 in
theorem th_isl {d : Nat} {s : Int32} {σ : tm_S} : WM d 53 [.int s] σ (fun q σ' => ((q = some (.int 1) ∧ 0 ≤ s.toInt ∧ s.toInt < 6) ∨ q = some (.int 0)) ∧ σ = σ') := by
  show WP d 53 0 [(0, .int s)] [] σ _
  refine wp_ldi rfl tm_m0 ?_
  refine wq_iflt rfl (fun h1 => ?_) (fun h1 => ?_)
  · have g1 : (s).toInt < 0 := tn_ltI.mp h1
    refine wq_con (x := 0) rfl (by decide) ?_
    exact wp_reti rfl (th_n0 rfl) ⟨Or.inr rfl, rfl⟩
  · have g1 : ¬ (s).toInt < 0 := fun g => h1 (tn_ltI.mpr g)
    refine wp_ldi rfl tm_m0 ?_
    refine wq_con (x := 6) rfl (by decide) ?_
    refine wq_icge rfl (fun h7 => ?_) (fun h7 => ?_)
    · have g7 : 6 ≤ (s).toInt := tn_leI.mp h7
      refine wq_con (x := 0) rfl (by decide) ?_
      exact wp_reti rfl (th_n0 rfl) ⟨Or.inr rfl, rfl⟩
    · have g7 : ¬ 6 ≤ (s).toInt := fun g => h7 (tn_leI.mpr g)
      refine wq_con (x := 1) rfl (by decide) ?_
      refine wp_go rfl ?_
      exact wp_reti rfl (th_n1 rfl) ⟨Or.inl ⟨rfl, by omega, by omega⟩, rfl⟩
set_option maxRecDepth 100000 in
set_option maxHeartbeats 4000000 in
theorem th_hasr {d : Nat} {s : Int32} {σ : tm_S} : WM (d + 1) 58 [.ref 0, .int s] σ (fun q σ' => ((q = some (.int 1) ∧ 0 ≤ s.toInt ∧ s.toInt < 6 ∧ ¬ σ.2.1 12 s.toNatClampNeg = -1) ∨ q = some (.int 0)) ∧ σ = σ') := by
  show WP (d + 1) 58 0 [(0, .ref 0), (1, .int s)] [] σ _
  refine wp_ldi rfl tm_m1 ?_
  refine wq_cals [.int s] rfl rfl rfl rfl rfl rfl (th_isl) ?_
  rintro r1 _ ⟨hr1, rfl⟩
  obtain ⟨z1, rfl, hz1⟩ : ∃ z : Int32, r1 = some (.int z) ∧ (¬ z = 0 → 0 ≤ (s).toInt ∧ (s).toInt < 6) := by
    rcases hr1 with ⟨rfl, g1, g2⟩ | rfl
    · exact ⟨_, rfl, fun _ => ⟨g1, g2⟩⟩
    · exact ⟨_, rfl, fun e => absurd rfl e⟩
  refine wq_ifeq rfl (fun h4 => ?_) (fun h4 => ?_)
  · refine wq_con (x := 0) rfl (by decide) ?_
    exact wp_reti rfl (th_n0 rfl) ⟨Or.inr rfl, rfl⟩
  · have hs := hz1 h4
    refine wp_lda rfl tm_m0 ?_
    refine wq_getr (p := 12) rfl rfl (f := 5) rfl rfl ?_
    refine wp_ldi rfl tm_m1 ?_
    refine wp_lald rfl rfl (tn_in hs.1 hs.2) ?_
    refine wq_lco (x := (-1)) rfl (by decide) ?_
    refine wp_cmp rfl ?_
    refine wq_ifeq rfl (fun h17 => ?_) (fun h17 => ?_)
    · refine wq_con (x := 0) rfl (by decide) ?_
      exact wp_reti rfl (th_n0 rfl) ⟨Or.inr rfl, rfl⟩
    · refine wq_con (x := 1) rfl (by decide) ?_
      refine wp_go rfl ?_
      exact wp_reti rfl (th_n1 rfl) ⟨Or.inl ⟨rfl, hs.1, hs.2, fun e => h17 ((lg_cmp_eq _ _).mpr e)⟩, rfl⟩
set_option maxRecDepth 100000 in
set_option maxHeartbeats 4000000 in
theorem th_hasv9 {d : Nat} {s : Int32} {σ : tm_S} : WM d 141 [.ref 9, .int s] σ (fun q σ' => ((q = some (.int 1) ∧ 0 ≤ s.toInt ∧ s.toInt < (σ.1 9 7).toInt) ∨ q = some (.int 0)) ∧ σ = σ') := by
  show WP d 141 0 [(0, .ref 9), (1, .int s)] [] σ _
  refine wp_ldi rfl tm_m1 ?_
  refine wq_iflt rfl (fun h1 => ?_) (fun h1 => ?_)
  · have g1 : (s).toInt < 0 := tn_ltI.mp h1
    refine wq_con (x := 0) rfl (by decide) ?_
    exact wp_reti rfl (th_n0 rfl) ⟨Or.inr rfl, rfl⟩
  · have g1 : ¬ (s).toInt < 0 := fun g => h1 (tn_ltI.mpr g)
    refine wp_ldi rfl tm_m1 ?_
    refine wp_lda rfl tm_m0 ?_
    refine wq_geti rfl rfl (f := 7) rfl rfl (Or.inl rfl) ?_
    refine wq_icge rfl (fun h9 => ?_) (fun h9 => ?_)
    · have g9 : (σ.1 9 7).toInt ≤ (s).toInt := tn_leI.mp h9
      refine wq_con (x := 0) rfl (by decide) ?_
      exact wp_reti rfl (th_n0 rfl) ⟨Or.inr rfl, rfl⟩
    · have g9 : ¬ (σ.1 9 7).toInt ≤ (s).toInt := fun g => h9 (tn_leI.mpr g)
      refine wq_con (x := 1) rfl (by decide) ?_
      refine wp_go rfl ?_
      exact wp_reti rfl (th_n1 rfl) ⟨Or.inl ⟨rfl, by omega, by omega⟩, rfl⟩
set_option maxRecDepth 100000 in
set_option maxHeartbeats 4000000 in
theorem th_hasv10 {d : Nat} {s : Int32} {σ : tm_S} : WM d 141 [.ref 10, .int s] σ (fun q σ' => ((q = some (.int 1) ∧ 0 ≤ s.toInt ∧ s.toInt < (σ.1 10 7).toInt) ∨ q = some (.int 0)) ∧ σ = σ') := by
  show WP d 141 0 [(0, .ref 10), (1, .int s)] [] σ _
  refine wp_ldi rfl tm_m1 ?_
  refine wq_iflt rfl (fun h1 => ?_) (fun h1 => ?_)
  · have g1 : (s).toInt < 0 := tn_ltI.mp h1
    refine wq_con (x := 0) rfl (by decide) ?_
    exact wp_reti rfl (th_n0 rfl) ⟨Or.inr rfl, rfl⟩
  · have g1 : ¬ (s).toInt < 0 := fun g => h1 (tn_ltI.mpr g)
    refine wp_ldi rfl tm_m1 ?_
    refine wp_lda rfl tm_m0 ?_
    refine wq_geti rfl rfl (f := 7) rfl rfl (Or.inl rfl) ?_
    refine wq_icge rfl (fun h9 => ?_) (fun h9 => ?_)
    · have g9 : (σ.1 10 7).toInt ≤ (s).toInt := tn_leI.mp h9
      refine wq_con (x := 0) rfl (by decide) ?_
      exact wp_reti rfl (th_n0 rfl) ⟨Or.inr rfl, rfl⟩
    · have g9 : ¬ (σ.1 10 7).toInt ≤ (s).toInt := fun g => h9 (tn_leI.mpr g)
      refine wq_con (x := 1) rfl (by decide) ?_
      refine wp_go rfl ?_
      exact wp_reti rfl (th_n1 rfl) ⟨Or.inl ⟨rfl, by omega, by omega⟩, rfl⟩
theorem th_N0 {n : Nat} {σ : tm_S} (hT : tv_TY (tc_T (n : Int)) σ) (hn : n ≤ 12) : σ.1 1 0 = nI n := by
  have h1 : (n : Int) ≤ (σ.1 1 0).toInt ∧ (σ.1 1 0).toInt ≤ n := hT.1 1 0
  exact Int32.toInt_inj.mp (by rw [nI_toInt (by omega)]; omega)
theorem th_N1 {n : Nat} {σ : tm_S} (hT : tv_TY (tc_T (n : Int)) σ) (hn : n ≤ 12) : σ.1 11 1 = nI n := by
  have h1 : (n : Int) ≤ (σ.1 11 1).toInt ∧ (σ.1 11 1).toInt ≤ n := hT.1 11 1
  exact Int32.toInt_inj.mp (by rw [nI_toInt (by omega)]; omega)
set_option maxRecDepth 100000 in
set_option maxHeartbeats 4000000 in
theorem th_xrow {d n : Nat} {s : Int32} {r : Int64} {σ : tm_S} (hn : n ≤ 12) (hT : tv_TY (tc_T (n : Int)) σ) : WM (d + 3) 52 [.ref 0, .int s, .long r] σ (fun q σ' => (∃ z : Int32, q = some (.int z)) ∧ (σ' = σ ∨ ∃ (k : Nat) (r : Int64), th_dg 12 r ∧ σ' = tm_sJ σ 12 k r)) := by
  have hN0 := th_N0 hT hn
  show WP (d + 3) 52 0 [(0, .ref 0), (1, .int s), (2, .long r)] [] σ _
  refine wp_lda rfl tm_m0 ?_
  refine wq_getr (p := 1) rfl rfl (f := 0) rfl rfl ?_
  refine wq_calv [] rfl rfl rfl rfl rfl rfl rfl rfl rfl (th_size) ?_
  rintro _ _ ⟨rfl, rfl⟩
  rw [hN0]
  refine wq_sti [(4, .int (nI n)), (0, .ref 0), (1, .int s), (2, .long r)] rfl rfl ?_
  refine wp_ldl rfl tm_m3 ?_
  refine wq_lco (x := 1) rfl (by decide) ?_
  refine wq_con (x := 4) rfl (by decide) ?_
  refine wp_ldi rfl tm_m0 ?_
  refine wq_imul rfl ?_
  refine wq_lshl rfl ?_
  refine wq_lco (x := 1) rfl (by decide) ?_
  refine wq_lsub rfl ?_
  refine wq_land rfl ?_
  generalize hr : r &&& ((1 <<< (((4 * (nI n)) : Int32).toInt64 &&& 63)) - 1) = row
  refine wq_stl [(5, .long row), (4, .int (nI n)), (0, .ref 0), (1, .int s), (2, .long r)] rfl rfl ?_
  refine wp_ldi rfl tm_m3 ?_
  refine wq_cals [.int s] rfl rfl rfl rfl rfl rfl (th_isl) ?_
  rintro r22 _ ⟨hr22, rfl⟩
  obtain ⟨z22, rfl, hz22⟩ : ∃ z : Int32, r22 = some (.int z) ∧ (¬ z = 0 → 0 ≤ (s).toInt ∧ (s).toInt < 6) := by
    rcases hr22 with ⟨rfl, g1, g2⟩ | rfl
    · exact ⟨_, rfl, fun _ => ⟨g1, g2⟩⟩
    · exact ⟨_, rfl, fun e => absurd rfl e⟩
  refine wq_ifeq rfl (fun h25 => ?_) (fun h25 => ?_)
  · refine wq_con (x := 0) rfl (by decide) ?_
    exact wp_reti rfl (th_n0 rfl) ⟨⟨_, rfl⟩, Or.inl rfl⟩
  · refine wp_ldl rfl tm_m0 ?_
    refine wp_ldi rfl tm_m1 ?_
    refine wq_cals [.long row, .int (nI n)] rfl rfl rfl rfl rfl rfl (th_isrow hn) ?_
    rintro r32 _ ⟨hr32, rfl⟩
    obtain ⟨z32, rfl, hz32⟩ : ∃ z : Int32, r32 = some (.int z) ∧ (¬ z = 0 → th_or row 0 n = 2 ^ n - 1) := by
      rcases hr32 with ⟨rfl, g1⟩ | rfl
      · exact ⟨_, rfl, fun _ => g1⟩
      · exact ⟨_, rfl, fun e => absurd rfl e⟩
    refine wq_ifne rfl (fun h35 => ?_) (fun h35 => ?_)
    · have hs := hz22 (fun e => h25 e)
      have hd : th_dg 12 row := by
        intro i
        by_cases hi : i < n
        · have := th_or_full (hz32 h35) hi
          omega
        · rw [← hr, th_mnb (by omega) (by omega)]
          decide
      refine wp_lda rfl tm_m2 ?_
      refine wq_getr (p := 12) rfl rfl (f := 5) rfl rfl ?_
      refine wp_ldi rfl tm_m3 ?_
      refine wp_ldl rfl tm_m0 ?_
      refine wp_last rfl rfl (tn_in hs.1 hs.2) ?_
      refine wq_con (x := 1) rfl (by decide) ?_
      exact wp_reti rfl (th_n1 rfl) ⟨⟨_, rfl⟩, Or.inr ⟨_, row, hd, rfl⟩⟩
    · refine wq_con (x := 0) rfl (by decide) ?_
      exact wp_reti rfl (th_n0 rfl) ⟨⟨_, rfl⟩, Or.inl rfl⟩
set_option maxRecDepth 100000 in
set_option maxHeartbeats 4000000 in
theorem th_fnote {d n t i : Nat} {r : Int64} {kd : Int32} {σ : tm_S} (hn : n ≤ 12) (ht : t < n) (hi : i < n) (hr : ∀ k : Nat, k < n → th_nb r k < n) : WM (d + 1) 60 [.long r, .int (nI n), .int kd, .int (nI t), .int (nI i)] σ (fun q σ' => (∃ z : Nat, q = some (.int (nI z)) ∧ z < n) ∧ σ = σ') := by
  have eN : (nI n).toInt = n := nI_toInt (by omega)
  have eT : (nI t).toInt = t := nI_toInt (by omega)
  have k41 : ∀ (u v : Int32), (-(n : Int)) < v.toInt → v.toInt < 2 * n → WP (d + 1) 60 41 [(6, .int u), (0, .long r), (2, .int (nI n)), (3, .int kd), (4, .int (nI t)), (5, .int (nI i))] [.int v] σ (fun q σ' => (∃ z : Nat, q = some (.int (nI z)) ∧ z < n) ∧ σ = σ') := by
    intro u v v1 v2
    have a1 : (v + nI n).toInt = v.toInt + n := by rw [tn_add (by omega) (by omega), eN]
    have a2 : (v - nI n).toInt = v.toInt - n := by rw [tn_sub (by omega) (by omega), eN]
    have fin : ∀ z : Int32, 0 ≤ z.toInt → z.toInt < n → (∃ q : Nat, some (Value.int z) = some (.int (nI q)) ∧ q < n) := by
      intro z z1 z2
      obtain ⟨q, q1, rfl⟩ := nI_of (x := z) (by rw [tn_ltI]; show ¬ z.toInt < 0; omega)
      rw [nI_toInt q1] at z2
      exact ⟨q, rfl, by omega⟩
    refine wq_sti [(7, .int v), (6, .int u), (0, .long r), (2, .int (nI n)), (3, .int kd), (4, .int (nI t)), (5, .int (nI i))] rfl rfl ?_
    refine wp_ldi rfl tm_m0 ?_
    refine wq_ifge rfl (fun h45 => ?_) (fun h45 => ?_)
    · have g45 : 0 ≤ (v).toInt := tn_leI.mp h45
      have g45b : ¬ v.toInt < 0 := by omega
      refine wp_ldi rfl tm_m0 ?_
      refine wp_ldi rfl tm_m3 ?_
      refine wq_icge rfl (fun h56 => ?_) (fun h56 => ?_)
      · have g56 : (nI n).toInt ≤ (v).toInt := tn_leI.mp h56
        refine wp_ldi rfl tm_m0 ?_
        refine wp_ldi rfl tm_m3 ?_
        refine wq_isub rfl ?_
        exact wp_reti rfl (th_nI rfl) ⟨fin (v - (nI n)) (by omega) (by omega), rfl⟩
      · have g56 : ¬ (nI n).toInt ≤ (v).toInt := fun g => h56 (tn_leI.mpr g)
        refine wp_ldi rfl tm_m0 ?_
        refine wp_go rfl ?_
        exact wp_reti rfl (th_nI rfl) ⟨fin v (by omega) (by omega), rfl⟩
    · have g45 : ¬ 0 ≤ (v).toInt := fun g => h45 (tn_leI.mpr g)
      have g45b : v.toInt < 0 := by omega
      refine wp_ldi rfl tm_m0 ?_
      refine wp_ldi rfl tm_m3 ?_
      refine wq_iadd rfl ?_
      exact wp_reti rfl (th_nI rfl) ⟨fin (v + (nI n)) (by omega) (by omega), rfl⟩
  have k17 : ∀ k : Nat, k < n → WP (d + 1) 60 17 [(0, .long r), (2, .int (nI n)), (3, .int kd), (4, .int (nI t)), (5, .int (nI i))] [.int (nI k), .long r] σ (fun q σ' => (∃ z : Nat, q = some (.int (nI z)) ∧ z < n) ∧ σ = σ') := by
    intro k hk
    have hx := hr k hk
    have eX : (nI (th_nb r k)).toInt = th_nb r k := nI_toInt (by omega)
    refine wq_cals [.long r, .int (nI k)] rfl rfl rfl rfl rfl rfl (th_nt (i := k) (by omega)) ?_
    rintro _ _ ⟨rfl, rfl⟩
    refine wq_sti [(6, .int (nI (th_nb r k))), (0, .long r), (2, .int (nI n)), (3, .int kd), (4, .int (nI t)), (5, .int (nI i))] rfl rfl ?_
    refine wp_ldi rfl tm_m3 ?_
    refine wq_con (x := 2) rfl (by decide) ?_
    refine wp_rem rfl (by decide) ?_
    refine wq_ifne rfl (fun h25 => ?_) (fun h25 => ?_)
    · refine wp_ldi rfl tm_m4 ?_
      refine wp_ldi rfl tm_m0 ?_
      refine wq_isub rfl ?_
      exact WP.less (k41 (nI (th_nb r k)) ((nI t) - (nI (th_nb r k))) (by rw [tn_sub (by omega) (by omega), eX, eT]; omega) (by rw [tn_sub (by omega) (by omega), eX, eT]; omega)) (by simp)
    · refine wp_ldi rfl tm_m0 ?_
      refine wp_ldi rfl tm_m4 ?_
      refine wq_iadd rfl ?_
      refine wp_go rfl ?_
      exact WP.less (k41 (nI (th_nb r k)) ((nI (th_nb r k)) + (nI t)) (by rw [tn_add (by omega) (by omega), eX, eT]; omega) (by rw [tn_add (by omega) (by omega), eX, eT]; omega)) (by simp)
  show WP (d + 1) 60 0 [(0, .long r), (2, .int (nI n)), (3, .int kd), (4, .int (nI t)), (5, .int (nI i))] [] σ _
  refine wp_ldl rfl tm_m0 ?_
  refine wp_ldi rfl tm_m2 ?_
  refine wq_con (x := 2) rfl (by decide) ?_
  refine wq_icge rfl (fun h3 => ?_) (fun h3 => ?_)
  · refine wp_ldi rfl tm_m1 ?_
    refine wq_con (x := 1) rfl (by decide) ?_
    refine wq_isub rfl ?_
    rw [show nI n - 1 = nI (n - 1) by rw [show n = (n - 1) + 1 by omega]; exact nI_pred _]
    refine wp_ldi rfl tm_m4 ?_
    refine wq_isub rfl ?_
    rw [show nI (n - 1) - nI i = nI (n - 1 - i) from Int32.toInt_inj.mp (by rw [tn_sub (by rw [nI_toInt (by omega), nI_toInt (by omega)]; omega) (by rw [nI_toInt (by omega), nI_toInt (by omega)]; omega), nI_toInt (by omega), nI_toInt (by omega), nI_toInt (by omega)]; omega)]
    exact WP.less (k17 (n - 1 - i) (by omega)) (by simp)
  · refine wp_ldi rfl tm_m4 ?_
    refine wp_go rfl ?_
    exact WP.less (k17 i (by omega)) (by simp)
set_option maxRecDepth 100000 in
set_option maxHeartbeats 4000000 in
theorem th_fof {d n t : Nat} {r : Int64} {kd : Int32} {σ : tm_S} (hn : n ≤ 12) (h3 : 3 ≤ n) (ht : t < n) (hr : ∀ k : Nat, k < n → th_nb r k < n) : WM (d + 2) 63 [.long r, .int (nI n), .int kd, .int (nI t)] σ (fun q σ' => (∃ a : Nat, q = some (.long (th_L a)) ∧ th_di n n a) ∧ σ = σ') := by
  have k6 : ∀ m i a : Nat, i + m = n → th_di n i a → WP (d + 2) 63 6 [(7, .int (nI i)), (5, .long (th_L a)), (0, .long r), (2, .int (nI n)), (3, .int kd), (4, .int (nI t))] [] σ (fun q σ' => (∃ a : Nat, q = some (.long (th_L a)) ∧ th_di n n a) ∧ σ = σ') := by
    intro m
    induction m with
    | zero =>
      intro i a hi ha
      obtain rfl : i = n := by omega
      refine wp_ldi rfl tm_m0 ?_
      refine wp_ldi rfl tm_m3 ?_
      refine wq_icge rfl (fun h9 => ?_) (fun h9 => absurd (nI_le (Nat.le_refl _) (by omega)) h9)
      refine wp_ldl rfl tm_m1 ?_
      exact wp_retl rfl ⟨⟨a, rfl, ha⟩, rfl⟩
    | succ m ih =>
      intro i a hi ha
      refine wp_ldi rfl tm_m0 ?_
      refine wp_ldi rfl tm_m3 ?_
      refine wq_icge rfl (fun h9 => absurd h9 (nI_ge (by omega) (by omega))) (fun h9 => ?_)
      refine wp_ldl rfl tm_m1 ?_
      refine wp_ldl rfl tm_m2 ?_
      refine wp_ldi rfl tm_m3 ?_
      refine wp_ldi rfl tm_m4 ?_
      refine wp_ldi rfl tm_m5 ?_
      refine wp_ldi rfl tm_m0 ?_
      refine wq_cals [.long r, .int (nI n), .int kd, .int (nI t), .int (nI i)] rfl rfl rfl rfl rfl rfl (th_fnote hn ht (i := i) (by omega) hr) ?_
      rintro _ _ ⟨⟨z, rfl, hz⟩, rfl⟩
      refine wp_i2l rfl ?_
      refine wq_con (x := 4) rfl (by decide) ?_
      refine wp_ldi rfl tm_m0 ?_
      refine wq_imul rfl ?_
      refine wq_lshl rfl ?_
      refine wq_lor rfl ?_
      rw [th_app ha.1 (by omega) (by omega)]
      refine wq_stl [(5, .long (th_L (a + z * 16 ^ i))), (7, .int (nI i)), (0, .long r), (2, .int (nI n)), (3, .int kd), (4, .int (nI t))] rfl rfl ?_
      refine wq_inc (c := 1) [(7, .int ((nI i) + 1)), (5, .long (th_L (a + z * 16 ^ i))), (0, .long r), (2, .int (nI n)), (3, .int kd), (4, .int (nI t))] rfl tm_m1 rfl rfl ?_
      refine wp_go rfl ?_
      rw [nI_1]
      exact WP.less (ih (i + 1) (a + z * 16 ^ i) (by omega) (th_di1 ha hz (by omega))) (by simp)
  show WP (d + 2) 63 0 [(0, .long r), (2, .int (nI n)), (3, .int kd), (4, .int (nI t))] [] σ _
  refine wq_lco (x := 0) rfl (by decide) ?_
  refine wq_stl [(5, .long 0), (0, .long r), (2, .int (nI n)), (3, .int kd), (4, .int (nI t))] rfl rfl ?_
  refine wq_con (x := nI 0) rfl (by decide) ?_
  refine wq_sti [(7, .int (nI 0)), (5, .long 0), (0, .long r), (2, .int (nI n)), (3, .int kd), (4, .int (nI t))] rfl rfl ?_
  exact WP.less (k6 n 0 0 (by omega) (th_di0 (by omega))) (by simp [th_L0])
theorem th_cur {T : tv_TT} {σ : tm_S} (hT : tv_TY T σ) : σ.2.2 0 8 = 9 ∨ σ.2.2 0 8 = 10 := by
  have h := hT.2 ((0, 8), 9, 10, true) (by decide)
  change 9 ≤ σ.2.2 0 8 ∧ σ.2.2 0 8 ≤ 10 at h
  omega
/-- a score's rows and voices are in order -/
def th_CS (n : Nat) (σ : tm_S) (p : Nat) : Prop := (∀ r : Nat, (r : Int) < (σ.1 p 2).toInt → ∀ i : Nat, i < n → th_nb (σ.2.1 (6 * p - 23) r) i < n) ∧ ∀ u : Nat, (u : Int) < (σ.1 p 7).toInt → (σ.1 (6 * p - 21) u).toInt < (σ.1 p 2).toInt ∧ 0 ≤ (σ.1 (6 * p - 19) u).toInt ∧ (σ.1 (6 * p - 19) u).toInt < n
/-- what stands beside the types: slots, full rows, the score that is sung -/
def th_SL (n : Nat) (σ : tm_S) : Prop := (∀ s : Nat, σ.2.1 12 s = -1 ∨ th_dg 12 (σ.2.1 12 s)) ∧ (∀ i : Nat, th_dg 12 (σ.2.1 24 i)) ∧ th_CS n σ (σ.2.2 0 8) ∧ ¬ σ.2.2 6 1 = σ.2.2 0 8
set_option maxRecDepth 100000 in
set_option maxHeartbeats 4000000 in
theorem th_srow9 {d n : Nat} {u : Int32} {σ : tm_S} (hn : n ≤ 12) (h3 : 3 ≤ n) (hT : tv_TY (tc_T (n : Int)) σ) (h : th_CS n σ 9) (h0 : 0 ≤ u.toInt) (h1 : u.toInt < (σ.1 9 7).toInt) : WM (d + 3) 137 [.ref 9, .int u, .int (nI n)] σ (fun q σ' => (∃ a : Nat, q = some (.long (th_L a)) ∧ th_di n n a) ∧ σ = σ') := by
  have h8 : (σ.1 9 7).toInt ≤ 8 := (hT.1 9 7).2
  have e := tn_cl h0
  obtain ⟨a1, a2, a3⟩ := h.2 u.toNatClampNeg (by omega)
  change (σ.1 33 u.toNatClampNeg).toInt < _ at a1
  change 0 ≤ (σ.1 35 u.toNatClampNeg).toInt at a2
  change (σ.1 35 u.toNatClampNeg).toInt < _ at a3
  have b0 : 0 ≤ (σ.1 33 u.toNatClampNeg).toInt ∧ (σ.1 33 u.toNatClampNeg).toInt ≤ 5 := hT.1 33 _
  have c0 := tn_cl b0.1
  have hr := h.1 (σ.1 33 u.toNatClampNeg).toNatClampNeg (by omega)
  obtain ⟨t, t1, t2⟩ := nI_of (x := σ.1 35 u.toNatClampNeg) (by rw [tn_ltI]; show ¬ _ < (0 : Int); omega)
  rw [t2, nI_toInt t1] at a3
  show WP (d + 3) 137 0 [(0, .ref 9), (1, .int u), (2, .int (nI n))] [] σ _
  refine wp_lda rfl tm_m0 ?_
  refine wq_getr (p := 31) rfl rfl (f := 0) rfl rfl ?_
  refine wp_lda rfl tm_m0 ?_
  refine wq_getr (p := 33) rfl rfl (f := 3) rfl rfl ?_
  refine wp_ldi rfl tm_m1 ?_
  refine wp_iald rfl rfl (tn_in h0 (by show _ < (8 : Int); omega)) ?_
  refine wp_lald rfl rfl (tn_in b0.1 (by show _ < (6 : Int); omega)) ?_
  refine wp_ldi rfl tm_m2 ?_
  refine wp_lda rfl tm_m0 ?_
  refine wq_getr (p := 34) rfl rfl (f := 4) rfl rfl ?_
  refine wp_ldi rfl tm_m1 ?_
  refine wp_iald rfl rfl (tn_in h0 (by show _ < (8 : Int); omega)) ?_
  refine wp_lda rfl tm_m0 ?_
  refine wq_getr (p := 35) rfl rfl (f := 5) rfl rfl ?_
  refine wp_ldi rfl tm_m1 ?_
  refine wp_iald rfl rfl (tn_in h0 (by show _ < (8 : Int); omega)) ?_
  rw [t2]
  refine wq_cals [.long (σ.2.1 31 (σ.1 33 u.toNatClampNeg).toNatClampNeg), .int (nI n), .int (σ.1 34 u.toNatClampNeg), .int (nI t)] rfl rfl rfl rfl rfl rfl (th_fof hn h3 (t := t) (by omega) hr) ?_
  rintro _ _ ⟨⟨a, rfl, ha⟩, rfl⟩
  exact wp_retl rfl ⟨⟨a, rfl, ha⟩, rfl⟩
set_option maxRecDepth 100000 in
set_option maxHeartbeats 4000000 in
theorem th_srow10 {d n : Nat} {u : Int32} {σ : tm_S} (hn : n ≤ 12) (h3 : 3 ≤ n) (hT : tv_TY (tc_T (n : Int)) σ) (h : th_CS n σ 10) (h0 : 0 ≤ u.toInt) (h1 : u.toInt < (σ.1 10 7).toInt) : WM (d + 3) 137 [.ref 10, .int u, .int (nI n)] σ (fun q σ' => (∃ a : Nat, q = some (.long (th_L a)) ∧ th_di n n a) ∧ σ = σ') := by
  have h8 : (σ.1 10 7).toInt ≤ 8 := (hT.1 10 7).2
  have e := tn_cl h0
  obtain ⟨a1, a2, a3⟩ := h.2 u.toNatClampNeg (by omega)
  change (σ.1 39 u.toNatClampNeg).toInt < _ at a1
  change 0 ≤ (σ.1 41 u.toNatClampNeg).toInt at a2
  change (σ.1 41 u.toNatClampNeg).toInt < _ at a3
  have b0 : 0 ≤ (σ.1 39 u.toNatClampNeg).toInt ∧ (σ.1 39 u.toNatClampNeg).toInt ≤ 5 := hT.1 39 _
  have c0 := tn_cl b0.1
  have hr := h.1 (σ.1 39 u.toNatClampNeg).toNatClampNeg (by omega)
  obtain ⟨t, t1, t2⟩ := nI_of (x := σ.1 41 u.toNatClampNeg) (by rw [tn_ltI]; show ¬ _ < (0 : Int); omega)
  rw [t2, nI_toInt t1] at a3
  show WP (d + 3) 137 0 [(0, .ref 10), (1, .int u), (2, .int (nI n))] [] σ _
  refine wp_lda rfl tm_m0 ?_
  refine wq_getr (p := 37) rfl rfl (f := 0) rfl rfl ?_
  refine wp_lda rfl tm_m0 ?_
  refine wq_getr (p := 39) rfl rfl (f := 3) rfl rfl ?_
  refine wp_ldi rfl tm_m1 ?_
  refine wp_iald rfl rfl (tn_in h0 (by show _ < (8 : Int); omega)) ?_
  refine wp_lald rfl rfl (tn_in b0.1 (by show _ < (6 : Int); omega)) ?_
  refine wp_ldi rfl tm_m2 ?_
  refine wp_lda rfl tm_m0 ?_
  refine wq_getr (p := 40) rfl rfl (f := 4) rfl rfl ?_
  refine wp_ldi rfl tm_m1 ?_
  refine wp_iald rfl rfl (tn_in h0 (by show _ < (8 : Int); omega)) ?_
  refine wp_lda rfl tm_m0 ?_
  refine wq_getr (p := 41) rfl rfl (f := 5) rfl rfl ?_
  refine wp_ldi rfl tm_m1 ?_
  refine wp_iald rfl rfl (tn_in h0 (by show _ < (8 : Int); omega)) ?_
  rw [t2]
  refine wq_cals [.long (σ.2.1 37 (σ.1 39 u.toNatClampNeg).toNatClampNeg), .int (nI n), .int (σ.1 40 u.toNatClampNeg), .int (nI t)] rfl rfl rfl rfl rfl rfl (th_fof hn h3 (t := t) (by omega) hr) ?_
  rintro _ _ ⟨⟨a, rfl, ha⟩, rfl⟩
  exact wp_retl rfl ⟨⟨a, rfl, ha⟩, rfl⟩
set_option maxRecDepth 100000 in
set_option maxHeartbeats 4000000 in
theorem th_xkeep {d n : Nat} {u s : Int32} {σ : tm_S} (hn : n ≤ 12) (h3 : 3 ≤ n) (hT : tv_TY (tc_T (n : Int)) σ) (h : th_SL n σ) : WM (d + 4) 150 [.ref 0, .int u, .int s] σ (fun q σ' => (∃ z : Int32, q = some (.int z)) ∧ (σ' = σ ∨ ∃ (k : Nat) (r : Int64), th_dg 12 r ∧ σ' = tm_sJ σ 12 k r)) := by
  have hN0 := th_N0 hT hn
  have hc : σ.2.2 0 8 = 9 ∨ σ.2.2 0 8 = 10 := th_cur hT
  show WP (d + 4) 150 0 [(0, .ref 0), (1, .int u), (2, .int s)] [] σ _
  rcases hc with hc | hc
  · have hC := h.2.2.1
    rw [hc] at hC
    refine wp_lda rfl tm_m0 ?_
    refine wq_getv rfl rfl (f := 8) rfl rfl ?_
    rw [hc]
    refine wp_ldi rfl tm_m1 ?_
    refine wq_calv [.int u] rfl rfl rfl rfl rfl rfl rfl rfl rfl (th_hasv9) ?_
    rintro r5 _ ⟨hr5, rfl⟩
    obtain ⟨z5, rfl, hz5⟩ : ∃ z : Int32, r5 = some (.int z) ∧ (¬ z = 0 → 0 ≤ u.toInt ∧ u.toInt < (σ.1 9 7).toInt) := by
      rcases hr5 with ⟨rfl, g1⟩ | rfl
      · exact ⟨_, rfl, fun _ => g1⟩
      · exact ⟨_, rfl, fun e => absurd rfl e⟩
    refine wq_ifeq rfl (fun h8 => ?_) (fun h8 => ?_)
    · refine wq_con (x := 0) rfl (by decide) ?_
      exact wp_reti rfl (th_n0 rfl) ⟨⟨_, rfl⟩, Or.inl rfl⟩
    · refine wp_ldi rfl tm_m2 ?_
      refine wq_cals [.int s] rfl rfl rfl rfl rfl rfl (th_isl) ?_
      rintro r12 _ ⟨hr12, rfl⟩
      obtain ⟨z12, rfl, hz12⟩ : ∃ z : Int32, r12 = some (.int z) ∧ (¬ z = 0 → 0 ≤ (s).toInt ∧ (s).toInt < 6) := by
        rcases hr12 with ⟨rfl, g1, g2⟩ | rfl
        · exact ⟨_, rfl, fun _ => ⟨g1, g2⟩⟩
        · exact ⟨_, rfl, fun e => absurd rfl e⟩
      refine wq_ifne rfl (fun h15 => ?_) (fun h15 => ?_)
      · have hs := hz12 h15
        refine wp_lda rfl tm_m0 ?_
        refine wq_getr (p := 12) rfl rfl (f := 5) rfl rfl ?_
        refine wp_ldi rfl tm_m2 ?_
        refine wp_lda rfl tm_m0 ?_
        refine wq_getv rfl rfl (f := 8) rfl rfl ?_
        rw [hc]
        refine wp_ldi rfl tm_m1 ?_
        refine wp_lda rfl tm_m0 ?_
        refine wq_getr (p := 1) rfl rfl (f := 0) rfl rfl ?_
        refine wq_calv [] rfl rfl rfl rfl rfl rfl rfl rfl rfl (th_size) ?_
        rintro _ _ ⟨rfl, rfl⟩
        rw [hN0]
        refine wq_calv [.int u, .int (nI n)] rfl rfl rfl rfl rfl rfl rfl rfl rfl (th_srow9 hn h3 hT hC (hz5 h8).1 (hz5 h8).2) ?_
        rintro _ _ ⟨⟨a, rfl, ha⟩, rfl⟩
        refine wp_last rfl rfl (tn_in hs.1 hs.2) ?_
        refine wq_con (x := 1) rfl (by decide) ?_
        exact wp_reti rfl (th_n1 rfl) ⟨⟨_, rfl⟩, Or.inr ⟨_, th_L a, th_di_dg ha (by omega) hn, rfl⟩⟩
      · refine wq_con (x := 0) rfl (by decide) ?_
        exact wp_reti rfl (th_n0 rfl) ⟨⟨_, rfl⟩, Or.inl rfl⟩
  · have hC := h.2.2.1
    rw [hc] at hC
    refine wp_lda rfl tm_m0 ?_
    refine wq_getv rfl rfl (f := 8) rfl rfl ?_
    rw [hc]
    refine wp_ldi rfl tm_m1 ?_
    refine wq_calv [.int u] rfl rfl rfl rfl rfl rfl rfl rfl rfl (th_hasv10) ?_
    rintro r5 _ ⟨hr5, rfl⟩
    obtain ⟨z5, rfl, hz5⟩ : ∃ z : Int32, r5 = some (.int z) ∧ (¬ z = 0 → 0 ≤ u.toInt ∧ u.toInt < (σ.1 10 7).toInt) := by
      rcases hr5 with ⟨rfl, g1⟩ | rfl
      · exact ⟨_, rfl, fun _ => g1⟩
      · exact ⟨_, rfl, fun e => absurd rfl e⟩
    refine wq_ifeq rfl (fun h8 => ?_) (fun h8 => ?_)
    · refine wq_con (x := 0) rfl (by decide) ?_
      exact wp_reti rfl (th_n0 rfl) ⟨⟨_, rfl⟩, Or.inl rfl⟩
    · refine wp_ldi rfl tm_m2 ?_
      refine wq_cals [.int s] rfl rfl rfl rfl rfl rfl (th_isl) ?_
      rintro r12 _ ⟨hr12, rfl⟩
      obtain ⟨z12, rfl, hz12⟩ : ∃ z : Int32, r12 = some (.int z) ∧ (¬ z = 0 → 0 ≤ (s).toInt ∧ (s).toInt < 6) := by
        rcases hr12 with ⟨rfl, g1, g2⟩ | rfl
        · exact ⟨_, rfl, fun _ => ⟨g1, g2⟩⟩
        · exact ⟨_, rfl, fun e => absurd rfl e⟩
      refine wq_ifne rfl (fun h15 => ?_) (fun h15 => ?_)
      · have hs := hz12 h15
        refine wp_lda rfl tm_m0 ?_
        refine wq_getr (p := 12) rfl rfl (f := 5) rfl rfl ?_
        refine wp_ldi rfl tm_m2 ?_
        refine wp_lda rfl tm_m0 ?_
        refine wq_getv rfl rfl (f := 8) rfl rfl ?_
        rw [hc]
        refine wp_ldi rfl tm_m1 ?_
        refine wp_lda rfl tm_m0 ?_
        refine wq_getr (p := 1) rfl rfl (f := 0) rfl rfl ?_
        refine wq_calv [] rfl rfl rfl rfl rfl rfl rfl rfl rfl (th_size) ?_
        rintro _ _ ⟨rfl, rfl⟩
        rw [hN0]
        refine wq_calv [.int u, .int (nI n)] rfl rfl rfl rfl rfl rfl rfl rfl rfl (th_srow10 hn h3 hT hC (hz5 h8).1 (hz5 h8).2) ?_
        rintro _ _ ⟨⟨a, rfl, ha⟩, rfl⟩
        refine wp_last rfl rfl (tn_in hs.1 hs.2) ?_
        refine wq_con (x := 1) rfl (by decide) ?_
        exact wp_reti rfl (th_n1 rfl) ⟨⟨_, rfl⟩, Or.inr ⟨_, th_L a, th_di_dg ha (by omega) hn, rfl⟩⟩
      · refine wq_con (x := 0) rfl (by decide) ?_
        exact wp_reti rfl (th_n0 rfl) ⟨⟨_, rfl⟩, Or.inl rfl⟩
theorem th_remk : (List.range 13).all (fun n => (List.range 13).all (fun e => Nat.beq e 0 || !(decide (nI n - nI n / nI e * nI e = 0)) || Nat.beq (n % e) 0)) = true := by decide +kernel
theorem th_rem {n : Nat} (hn : n ≤ 12) (h3 : 3 ≤ n) {d : Int32} (hd : 1 ≤ d.toInt) (h : nI n - nI n / d * d = 0) : ∃ e : Nat, d = nI e ∧ 1 ≤ e ∧ e ≤ n ∧ n % e = 0 := by
  have eN : (nI n).toInt = n := nI_toInt (by omega)
  obtain ⟨e, e1, rfl⟩ := nI_of (x := d) (by rw [tn_ltI]; show ¬ d.toInt < 0; omega)
  rw [nI_toInt e1] at hd
  by_cases hc : e ≤ n
  · have h1 := List.all_eq_true.mp (List.all_eq_true.mp th_remk n (List.mem_range.mpr (by omega))) e (List.mem_range.mpr (by omega))
    simp only [Bool.or_eq_true, Bool.not_eq_true', decide_eq_false_iff_not] at h1
    rcases h1 with (h1 | h1) | h1
    · have := tv_beq h1
      omega
    · exact absurd h h1
    · exact ⟨e, rfl, by omega, hc, tv_beq h1⟩
  · exfalso
    have q0 : nI n / nI e = 0 := by
      refine Int32.toInt_inj.mp ?_
      rw [Int32.toInt_div_of_ne_right _ _ (fun x => by have := congrArg Int32.toInt x; rw [nI_toInt e1] at this; change (e : Int) = -1 at this; omega), eN, nI_toInt e1]
      show (n : Int).tdiv e = 0
      rw [Int.tdiv_eq_ediv_of_nonneg (by omega)]
      exact Int.ediv_eq_zero_of_lt (by omega) (by omega)
    rw [q0, Int32.zero_mul, Int32.sub_zero] at h
    have := congrArg Int32.toInt h
    rw [eN] at this
    change (n : Int) = 0 at this
    omega
theorem th_mulle {n e f : Nat} (h1 : n % e = 0) (h2 : f % e = 0) (h3 : f < n) : f + e ≤ n := by
  obtain ⟨a, rfl⟩ := Nat.dvd_of_mod_eq_zero h1
  obtain ⟨c, rfl⟩ := Nat.dvd_of_mod_eq_zero h2
  have h4 : c < a := Nat.lt_of_mul_lt_mul_left h3
  calc e * c + e = e * (c + 1) := by rw [Nat.mul_add, Nat.mul_one]
    _ ≤ e * a := Nat.mul_le_mul_left e h4
def tz_li : tv_C := (14, [(3, 1, 1), (1, 0, 2), (1, 0, 4095)], [], [((1, (-1), 4095), [])], [(14, 64), (15, 64), (16, 64), (17, 64)], 39)
theorem tq_li {T : tv_TT} {a1 : Int32} {a2 : Int32} {σ σ' : tm_S} {r : Option Value} (h : tv_Qc T tz_li [.ref 1, .int a1, .int a2] σ r σ') : tv_TY T σ' ∧ tv_un σ σ' [(14, 64), (15, 64), (16, 64), (17, 64)] ∧ ((∃ z : Int32, r = some (.int z) ∧ (-1) ≤ z.toInt ∧ z.toInt ≤ 4095)) := by
  obtain ⟨h1, h2, q, hq, hr, hn⟩ := h
  refine ⟨h1, h2, ?_⟩
  change q ∈ [((1, (-1), 4095), [])] at hq
  simp only [List.mem_cons, List.not_mem_nil, or_false] at hq
  rcases hq with rfl
  rcases hr with ⟨e, -⟩ | ⟨x, rfl, hx⟩
  · cases e
  · obtain ⟨z, rfl, g1, g2⟩ := hx
    exact ⟨z, rfl, g1, g2⟩
set_option maxRecDepth 100000 in
set_option maxHeartbeats 4000000 in
theorem th_xsplit {n : Nat} {s dd : Int32} {σ : tm_S} (hn : n ≤ 12) (h3 : 3 ≤ n) (hli : tv_Snd (tc_T (n : Int)) tz_li) (hT : tv_TY (tc_T (n : Int)) σ) (h : th_SL n σ) : WM 40 67 [.ref 0, .int s, .int dd] σ (fun q σ' => (∃ z : Int32, q = some (.int z)) ∧ tv_TY (tc_T (n : Int)) σ' ∧ tv_un σ σ' [(14, 64), (15, 64), (16, 64), (17, 64)]) := by
  have hN0 := th_N0 hT hn
  have k53 : ∀ (e : Nat) (fi : Int32), 1 ≤ e → e ≤ n → n % e = 0 → 0 ≤ s.toInt → s.toInt < 6 → ¬ σ.2.1 12 s.toNatClampNeg = -1 → ∀ (m f : Nat) (t : tm_S), f % e = 0 → n ≤ f + m → f ≤ n → tv_TY (tc_T (n : Int)) t → tv_un σ t [(14, 64), (15, 64), (16, 64), (17, 64)] → WP 40 67 53 [(5, .int (nI f)), (4, .int fi), (3, .int (nI n)), (0, .ref 0), (1, .int s), (2, .int (nI e))] [] t (fun q σ' => (∃ z : Int32, q = some (.int z)) ∧ tv_TY (tc_T (n : Int)) σ' ∧ tv_un σ σ' [(14, 64), (15, 64), (16, 64), (17, 64)]) := by
    intro e fi he1 he2 he3 hs1 hs2 hs3 m
    induction m with
    | zero =>
      intro f t hf hm hfn Tt Ut
      obtain rfl : f = n := by omega
      refine wp_ldi rfl tm_m0 ?_
      refine wp_ldi rfl tm_m2 ?_
      refine wq_icge rfl (fun h56 => ?_) (fun h56 => absurd (nI_le (Nat.le_refl _) (by omega)) h56)
      refine wq_con (x := 1) rfl (by decide) ?_
      exact wp_reti rfl (th_nI rfl) ⟨⟨_, rfl⟩, Tt, Ut⟩
    | succ m ih =>
      intro f t hf hm hfn Tt Ut
      refine wp_ldi rfl tm_m0 ?_
      refine wp_ldi rfl tm_m2 ?_
      refine wq_icge rfl (fun h56 => ?_) (fun h56 => ?_)
      · refine wq_con (x := 1) rfl (by decide) ?_
        exact wp_reti rfl (th_nI rfl) ⟨⟨_, rfl⟩, Tt, Ut⟩
      · have hfl : f < n := by
          rcases Nat.lt_or_ge f n with g | g
          · exact g
          · exact absurd (nI_le g (by omega)) h56
        have hle := th_mulle he3 hf (by omega)
        have hd : th_dg 12 (σ.2.1 12 s.toNatClampNeg) := (h.1 _).resolve_left hs3
        have hol : th_or (σ.2.1 12 s.toNatClampNeg) f e < 2 ^ 12 := th_or_lt (fun i _ => hd (f + i))
        refine wp_lda rfl tm_m3 ?_
        refine wq_getr (p := 1) rfl rfl (f := 0) rfl rfl ?_
        refine wq_con (x := 1) rfl (by decide) ?_
        refine wp_lda rfl tm_m3 ?_
        refine wq_getr (p := 12) rfl rfl (f := 5) rfl rfl ?_
        refine wp_ldi rfl tm_m4 ?_
        refine wp_lald rfl rfl (tn_in hs1 hs2) ?_
        rw [(tv_un_a Ut (k := 12) rfl rfl).2]
        refine wp_ldi rfl tm_m0 ?_
        refine wp_ldi rfl tm_m5 ?_
        refine wq_cals [.long (σ.2.1 12 s.toNatClampNeg), .int (nI f), .int (nI e)] rfl rfl rfl rfl rfl rfl (th_nof (f := f) (k := e) (by omega)) ?_
        rintro _ _ ⟨rfl, rfl⟩
        refine wq_calv [.int 1, .int (nI (th_or (σ.2.1 12 s.toNatClampNeg) f e))] rfl rfl rfl rfl rfl rfl rfl rfl rfl (WM.deep (hli [.ref 1, .int 1, .int (nI (th_or (σ.2.1 12 s.toNatClampNeg) f e))] t ⟨⟨_, rfl, by decide, by decide⟩, ⟨_, rfl, by decide, by decide⟩, ⟨_, rfl, by rw [nI_toInt (by omega)]; omega, by rw [nI_toInt (by omega)]; show _ ≤ (4095 : Int); omega⟩, trivial⟩ Tt) (by decide)) ?_
        rintro r76 s76 hq76
        obtain ⟨Ts76, us76, z76, rfl, -⟩ := tq_li hq76
        refine wp_ldi rfl tm_m1 ?_
        refine wq_iceq rfl (fun h81 => ?_) (fun h81 => ?_)
        · refine wp_ldi rfl tm_m0 ?_
          refine wp_ldi rfl tm_m5 ?_
          refine wq_iadd rfl ?_
          rw [nI_add]
          refine wq_sti [(5, .int (nI (f + e))), (4, .int fi), (3, .int (nI n)), (0, .ref 0), (1, .int s), (2, .int (nI e))] rfl rfl ?_
          refine wp_go rfl ?_
          exact WP.less (ih (f + e) s76 (by rw [Nat.add_mod, hf, Nat.mod_self, Nat.zero_add, Nat.zero_mod]) (by omega) hle Ts76 (tv_un_tr Ut us76)) (by simp)
        · refine wq_con (x := 0) rfl (by decide) ?_
          exact wp_reti rfl (th_nI rfl) ⟨⟨_, rfl⟩, Ts76, (tv_un_tr Ut us76)⟩
  show WP 40 67 0 [(0, .ref 0), (1, .int s), (2, .int dd)] [] σ _
  refine wp_lda rfl tm_m0 ?_
  refine wq_getr (p := 1) rfl rfl (f := 0) rfl rfl ?_
  refine wq_calv [] rfl rfl rfl rfl rfl rfl rfl rfl rfl (th_size) ?_
  rintro _ _ ⟨rfl, rfl⟩
  rw [hN0]
  refine wq_sti [(3, .int (nI n)), (0, .ref 0), (1, .int s), (2, .int dd)] rfl rfl ?_
  refine wp_lda rfl tm_m1 ?_
  refine wp_ldi rfl tm_m2 ?_
  refine wq_calv [.int s] rfl rfl rfl rfl rfl rfl rfl rfl rfl (th_hasr) ?_
  rintro r10 _ ⟨hr10, rfl⟩
  obtain ⟨z10, rfl, hz10⟩ : ∃ z : Int32, r10 = some (.int z) ∧ (¬ z = 0 → 0 ≤ s.toInt ∧ s.toInt < 6 ∧ ¬ σ.2.1 12 s.toNatClampNeg = -1) := by
    rcases hr10 with ⟨rfl, g1⟩ | rfl
    · exact ⟨_, rfl, fun _ => g1⟩
    · exact ⟨_, rfl, fun e => absurd rfl e⟩
  refine wq_ifeq rfl (fun h13 => ?_) (fun h13 => ?_)
  · have g13 : (z10).toInt = 0 := congrArg Int32.toInt h13
    refine wq_con (x := (-1)) rfl (by decide) ?_
    exact wp_reti rfl (th_nI rfl) ⟨⟨_, rfl⟩, hT, tv_un_rf⟩
  · refine wp_ldi rfl tm_m3 ?_
    refine wq_con (x := 1) rfl (by decide) ?_
    refine wq_iclt rfl (fun h18 => ?_) (fun h18 => ?_)
    · have g18 : (dd).toInt < 1 := tn_ltI.mp h18
      refine wq_con (x := (-1)) rfl (by decide) ?_
      exact wp_reti rfl (th_nI rfl) ⟨⟨_, rfl⟩, hT, tv_un_rf⟩
    · have g18 : ¬ (dd).toInt < 1 := fun g => h18 (tn_ltI.mpr g)
      refine wp_ldi rfl tm_m0 ?_
      refine wp_ldi rfl tm_m3 ?_
      refine wp_rem rfl (fun e => by rw [e] at g18; exact absurd (show (0 : Int) < 1 by decide) g18) ?_
      refine wq_ifeq rfl (fun h24 => ?_) (fun h24 => ?_)
      · have g24 : ((nI n) - (nI n) / dd * dd).toInt = 0 := congrArg Int32.toInt h24
        obtain ⟨e, rfl, he1, he2, he3⟩ := th_rem hn h3 (by omega) h24
        have hz := hz10 h13
        have hd : th_dg 12 (σ.2.1 12 s.toNatClampNeg) := (h.1 _).resolve_left hz.2.2
        have hol : th_or (σ.2.1 12 s.toNatClampNeg) 0 e < 2 ^ 12 := th_or_lt (fun i _ => hd (0 + i))
        refine wp_lda rfl tm_m1 ?_
        refine wq_getr (p := 1) rfl rfl (f := 0) rfl rfl ?_
        refine wq_con (x := 1) rfl (by decide) ?_
        refine wp_lda rfl tm_m1 ?_
        refine wq_getr (p := 12) rfl rfl (f := 5) rfl rfl ?_
        refine wp_ldi rfl tm_m2 ?_
        refine wp_lald rfl rfl (tn_in hz.1 hz.2.1) ?_
        refine wq_con (x := nI 0) rfl (by decide) ?_
        refine wp_ldi rfl tm_m3 ?_
        refine wq_cals [.long (σ.2.1 12 s.toNatClampNeg), .int (nI 0), .int (nI e)] rfl rfl rfl rfl rfl rfl (th_nof (f := 0) (k := e) (by omega)) ?_
        rintro _ _ ⟨rfl, rfl⟩
        refine wq_calv [.int 1, .int (nI (th_or (σ.2.1 12 s.toNatClampNeg) 0 e))] rfl rfl rfl rfl rfl rfl rfl rfl rfl (WM.deep (hli [.ref 1, .int 1, .int (nI (th_or (σ.2.1 12 s.toNatClampNeg) 0 e))] σ ⟨⟨_, rfl, by decide, by decide⟩, ⟨_, rfl, by decide, by decide⟩, ⟨_, rfl, by rw [nI_toInt (by omega)]; omega, by rw [nI_toInt (by omega)]; show _ ≤ (4095 : Int); omega⟩, trivial⟩ hT) (by decide)) ?_
        rintro r45 s45 hq45
        obtain ⟨Ts45, us45, z45, rfl, -⟩ := tq_li hq45
        refine wq_sti [(4, .int z45), (3, .int (nI n)), (0, .ref 0), (1, .int s), (2, .int (nI e))] rfl rfl ?_
        refine wp_ldi rfl tm_m4 ?_
        refine wq_sti [(5, .int (nI e)), (4, .int z45), (3, .int (nI n)), (0, .ref 0), (1, .int s), (2, .int (nI e))] rfl rfl ?_
        exact WP.less (k53 e z45 he1 he2 he3 hz.1 hz.2.1 hz.2.2 n e s45 (Nat.mod_self e) (by omega) he2 Ts45 (tv_un_tr tv_un_rf us45)) (by simp)
      · refine wq_con (x := (-1)) rfl (by decide) ?_
        exact wp_reti rfl (th_nI rfl) ⟨⟨_, rfl⟩, hT, tv_un_rf⟩
