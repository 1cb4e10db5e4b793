/-! ===== the fresh object: the class ===== -/
theorem tF_hasr {d : Nat} {s : Int32} {σ : tm_S} (hs : ∀ k : Nat, k < 6 → σ.2.1 12 k = -1) : WM (d + 1) 58 [.ref 0, .int s] σ (fun q σ' => q = some (.int 0) ∧ σ = σ') := WM.mono th_hasr (fun q σ' h => by
  obtain ⟨h1, h2⟩ := h
  rcases h1 with ⟨-, g1, g2, g3⟩ | h1
  · exact absurd (hs _ (by have := tn_cl g1; omega)) g3
  · exact ⟨h1, h2⟩)
set_option maxRecDepth 100000 in
set_option maxHeartbeats 4000000 in
theorem tF_x_form {d : Nat} {a1 a2 a3 a4 : Int32} {σ : tm_S} (hs : ∀ k : Nat, k < 6 → σ.2.1 12 k = -1) : WM (d + 2) 57 [.ref 0, .int a1, .int a2, .int a3, .int a4] σ (fun r σ' => r = some (.int (-1)) ∧ σ = σ') := by
  show WP (d + 2) 57 0 [(0, .ref 0), (1, .int a1), (2, .int a2), (3, .int a3), (4, .int a4)] [] σ _
  refine wp_lda rfl tm_m0 ?_
  refine wp_ldi rfl tm_m1 ?_
  refine wq_calv [.int a1] rfl rfl rfl rfl rfl rfl rfl rfl rfl (tF_hasr hs) ?_
  rintro _ _ ⟨rfl, rfl⟩
  refine wq_ifeq rfl (fun h5 => ?_) (fun h5 => absurd rfl h5)
  refine wq_con (x := (-1)) rfl (by decide) ?_
  exact wp_reti rfl (th_nI rfl) ⟨rfl, rfl⟩
set_option maxRecDepth 100000 in
set_option maxHeartbeats 4000000 in
theorem tF_x_about {d : Nat} {a1 a2 : Int32} {σ : tm_S} (hs : ∀ k : Nat, k < 6 → σ.2.1 12 k = -1) : WM (d + 2) 61 [.ref 0, .int a1, .int a2] σ (fun r σ' => r = some (.int (-1)) ∧ σ = σ') := by
  show WP (d + 2) 61 0 [(0, .ref 0), (1, .int a1), (2, .int a2)] [] σ _
  refine wp_lda rfl tm_m0 ?_
  refine wp_ldi rfl tm_m1 ?_
  refine wq_calv [.int a1] rfl rfl rfl rfl rfl rfl rfl rfl rfl (tF_hasr hs) ?_
  rintro _ _ ⟨rfl, rfl⟩
  refine wq_ifne rfl (fun h5 => absurd rfl h5) (fun h5 => ?_)
  refine wq_con (x := (-1)) rfl (by decide) ?_
  exact wp_reti rfl (th_nI rfl) ⟨rfl, rfl⟩
set_option maxRecDepth 100000 in
set_option maxHeartbeats 4000000 in
theorem tF_x_partners {d : Nat} {a1 a2 : Int32} {σ : tm_S} (hs : ∀ k : Nat, k < 6 → σ.2.1 12 k = -1) : WM (d + 2) 66 [.ref 0, .int a1, .int a2] σ (fun r σ' => r = some (.int (-1)) ∧ σ = σ') := by
  show WP (d + 2) 66 0 [(0, .ref 0), (1, .int a1), (2, .int a2)] [] σ _
  refine wp_lda rfl tm_m0 ?_
  refine wq_getr (p := 1) rfl rfl (f := 0) rfl rfl ?_
  refine wq_calv [] rfl rfl rfl rfl rfl rfl rfl rfl rfl (th_size) ?_
  rintro _ _ ⟨rfl, rfl⟩
  refine wq_sti [(3, .int (σ.1 1 0)), (0, .ref 0), (1, .int a1), (2, .int a2)] rfl rfl ?_
  refine wp_lda rfl tm_m1 ?_
  refine wp_ldi rfl tm_m2 ?_
  refine wq_calv [.int a1] rfl rfl rfl rfl rfl rfl rfl rfl rfl (tF_hasr hs) ?_
  rintro _ _ ⟨rfl, rfl⟩
  refine wq_ifeq rfl (fun h13 => ?_) (fun h13 => absurd rfl h13)
  refine wq_con (x := (-1)) rfl (by decide) ?_
  exact wp_reti rfl (th_nI rfl) ⟨rfl, rfl⟩
set_option maxRecDepth 100000 in
set_option maxHeartbeats 4000000 in
theorem tF_x_split {d : Nat} {a1 a2 : Int32} {σ : tm_S} (hs : ∀ k : Nat, k < 6 → σ.2.1 12 k = -1) : WM (d + 2) 67 [.ref 0, .int a1, .int a2] σ (fun r σ' => r = some (.int (-1)) ∧ σ = σ') := by
  show WP (d + 2) 67 0 [(0, .ref 0), (1, .int a1), (2, .int a2)] [] σ _
  refine wp_lda rfl tm_m0 ?_
  refine wq_getr (p := 1) rfl rfl (f := 0) rfl rfl ?_
  refine wq_calv [] rfl rfl rfl rfl rfl rfl rfl rfl rfl (th_size) ?_
  rintro _ _ ⟨rfl, rfl⟩
  refine wq_sti [(3, .int (σ.1 1 0)), (0, .ref 0), (1, .int a1), (2, .int a2)] rfl rfl ?_
  refine wp_lda rfl tm_m1 ?_
  refine wp_ldi rfl tm_m2 ?_
  refine wq_calv [.int a1] rfl rfl rfl rfl rfl rfl rfl rfl rfl (tF_hasr hs) ?_
  rintro _ _ ⟨rfl, rfl⟩
  refine wq_ifeq rfl (fun h13 => ?_) (fun h13 => absurd rfl h13)
  refine wq_con (x := (-1)) rfl (by decide) ?_
  exact wp_reti rfl (th_nI rfl) ⟨rfl, rfl⟩
set_option maxRecDepth 100000 in
set_option maxHeartbeats 4000000 in
theorem tF_x_rank {d : Nat} {a1 : Int32} {σ : tm_S} (hs : ∀ k : Nat, k < 6 → σ.2.1 12 k = -1) : WM (d + 2) 75 [.ref 0, .int a1] σ (fun r σ' => r = some (.int (-1)) ∧ σ = σ') := by
  show WP (d + 2) 75 0 [(0, .ref 0), (1, .int a1)] [] σ _
  refine wp_lda rfl tm_m0 ?_
  refine wp_ldi rfl tm_m1 ?_
  refine wq_calv [.int a1] rfl rfl rfl rfl rfl rfl rfl rfl rfl (tF_hasr hs) ?_
  rintro _ _ ⟨rfl, rfl⟩
  refine wq_ifeq rfl (fun h5 => ?_) (fun h5 => absurd rfl h5)
  refine wq_con (x := (-1)) rfl (by decide) ?_
  exact wp_reti rfl (th_nI rfl) ⟨rfl, rfl⟩
set_option maxRecDepth 100000 in
set_option maxHeartbeats 4000000 in
theorem tF_faultKind {d : Nat} {σ : tm_S} : WM d 132 [.ref 6] σ (th_is (.int (σ.1 6 7)) σ) := by
  show WP d 132 0 [(0, .ref 6)] [] σ _
  refine wp_lda rfl tm_m0 ?_
  refine wq_geti rfl rfl (f := 7) rfl rfl (Or.inl rfl) ?_
  exact wp_reti rfl (th_nI rfl) ⟨rfl, rfl⟩
set_option maxRecDepth 100000 in
set_option maxHeartbeats 4000000 in
theorem tF_faultPlace {d : Nat} {σ : tm_S} : WM d 133 [.ref 6] σ (th_is (.int (σ.1 6 8)) σ) := by
  show WP d 133 0 [(0, .ref 6)] [] σ _
  refine wp_lda rfl tm_m0 ?_
  refine wq_geti rfl rfl (f := 8) rfl rfl (Or.inl rfl) ?_
  exact wp_reti rfl (th_nI rfl) ⟨rfl, rfl⟩
def tF_fault (w : Int32) : Int32 := if w.toInt = 0 then 0 else -1
def tF_score (w : Int32) : Int32 := if 0 ≤ w.toInt ∧ w.toInt ≤ 3 then 0 else -1
set_option maxRecDepth 100000 in
set_option maxHeartbeats 4000000 in
theorem tF_x_fault {d : Nat} {a1 : Int32} {σ : tm_S} (hT : tv_TY tF_T σ) : WM (d + 1) 131 [.ref 0, .int a1] σ (fun r σ' => r = some (.int (tF_fault a1)) ∧ tv_TY tF_T σ') := by
  have e7 : σ.1 6 7 = 0 := tF_v hT rfl
  have e8 : σ.1 6 8 = -1 := tF_v hT rfl
  show WP (d + 1) 131 0 [(0, .ref 0), (1, .int a1)] [] σ _
  refine wp_ldi rfl tm_m1 ?_
  refine wp_sw rfl ?_
  by_cases h1_0 : (a1).toInt = 0
  · rw [h1_0]
    show WP _ 131 28 _ _ _ _
    refine wp_lda rfl tm_m0 ?_
    refine wq_getr (p := 6) rfl rfl (f := 6) rfl rfl ?_
    refine wq_calv [] rfl rfl rfl rfl rfl rfl rfl rfl rfl (tF_faultKind) ?_
    rintro _ _ ⟨rfl, rfl⟩
    refine wp_reti rfl (th_nI rfl) ⟨?_, hT⟩
    rw [e7, show tF_fault a1 = 0 from if_pos h1_0]
  by_cases h1_1 : (a1).toInt = 1
  · rw [h1_1]
    show WP _ 131 36 _ _ _ _
    refine wp_lda rfl tm_m0 ?_
    refine wq_getr (p := 6) rfl rfl (f := 6) rfl rfl ?_
    refine wq_calv [] rfl rfl rfl rfl rfl rfl rfl rfl rfl (tF_faultPlace) ?_
    rintro _ _ ⟨rfl, rfl⟩
    refine wp_reti rfl (th_nI rfl) ⟨?_, hT⟩
    rw [e8, show tF_fault a1 = -1 from if_neg (by omega)]
  rw [show tb_sw _ _ (a1).toInt = 44 from tb_swd (by intro q hq; simp only [List.mem_cons, List.not_mem_nil, or_false] at hq; rcases hq with rfl | rfl <;> (intro e; dsimp only at e; omega))]
  refine wq_con (x := (-1)) rfl (by decide) ?_
  refine wp_reti rfl (th_nI rfl) ⟨?_, hT⟩
  rw [show tF_fault a1 = -1 from if_neg h1_0]
set_option maxRecDepth 100000 in
set_option maxHeartbeats 4000000 in
theorem tF_x_score {a1 : Int32} {σ : tm_S} (hT : tv_TY tF_T σ) (hc : σ.2.2 0 8 = 9) : WM 90 134 [.ref 0, .int a1] σ (fun r σ' => r = some (.int (tF_score a1)) ∧ tv_TY tF_T σ') := by
  have eN : σ.1 1 0 = 12 := tF_v hT rfl
  show WP 90 134 0 [(0, .ref 0), (1, .int a1)] [] σ _
  refine wp_ldi rfl tm_m1 ?_
  refine wp_sw rfl ?_
  by_cases h1_0 : (a1).toInt = 0
  · rw [h1_0]
    show WP _ 134 32 _ _ _ _
    refine wp_lda rfl tm_m0 ?_
    refine wq_getv rfl rfl (f := 8) rfl rfl ?_
    rw [hc]
    refine wq_calv [] rfl rfl rfl rfl rfl rfl rfl rfl rfl (tF_one (w := 0) (R := 89) (a := [(3, 9, 9)]) (z := 0) (ws := []) (by decide +kernel) (by decide) ⟨⟨_, rfl, by decide, by decide⟩, trivial⟩ hT) ?_
    rintro _ σ' ⟨rfl, hT'⟩
    refine wp_reti rfl (th_nI rfl) ⟨?_, hT'⟩
    rw [show tF_score a1 = 0 from if_pos ⟨by omega, by omega⟩]
  by_cases h1_1 : (a1).toInt = 1
  · rw [h1_1]
    show WP _ 134 40 _ _ _ _
    refine wp_lda rfl tm_m0 ?_
    refine wq_getv rfl rfl (f := 8) rfl rfl ?_
    rw [hc]
    refine wq_calv [] rfl rfl rfl rfl rfl rfl rfl rfl rfl (tF_one (w := 0) (R := 89) (a := [(3, 9, 9)]) (z := 0) (ws := []) (by decide +kernel) (by decide) ⟨⟨_, rfl, by decide, by decide⟩, trivial⟩ hT) ?_
    rintro _ σ' ⟨rfl, hT'⟩
    refine wp_reti rfl (th_nI rfl) ⟨?_, hT'⟩
    rw [show tF_score a1 = 0 from if_pos ⟨by omega, by omega⟩]
  by_cases h1_2 : (a1).toInt = 2
  · rw [h1_2]
    show WP _ 134 48 _ _ _ _
    refine wp_lda rfl tm_m0 ?_
    refine wq_getv rfl rfl (f := 8) rfl rfl ?_
    rw [hc]
    refine wp_lda rfl tm_m0 ?_
    refine wq_getr (p := 1) rfl rfl (f := 0) rfl rfl ?_
    refine wq_calv [] rfl rfl rfl rfl rfl rfl rfl rfl rfl (th_size) ?_
    rintro _ _ ⟨rfl, rfl⟩
    refine wq_calv [.int (σ.1 1 0)] rfl rfl rfl rfl rfl rfl rfl rfl rfl (tF_one (w := 0) (R := 89) (a := [(3, 9, 9), (1, 12, 12)]) (z := 0) (ws := []) (by decide +kernel) (by decide) ⟨⟨_, rfl, by decide, by decide⟩, ⟨_, rfl, by rw [eN]; decide, by rw [eN]; decide⟩, trivial⟩ hT) ?_
    rintro _ σ' ⟨rfl, hT'⟩
    refine wp_reti rfl (th_nI rfl) ⟨?_, hT'⟩
    rw [show tF_score a1 = 0 from if_pos ⟨by omega, by omega⟩]
  by_cases h1_3 : (a1).toInt = 3
  · rw [h1_3]
    show WP _ 134 63 _ _ _ _
    refine wp_lda rfl tm_m0 ?_
    refine wq_getv rfl rfl (f := 8) rfl rfl ?_
    rw [hc]
    refine wp_lda rfl tm_m0 ?_
    refine wq_getr (p := 1) rfl rfl (f := 0) rfl rfl ?_
    refine wq_calv [] rfl rfl rfl rfl rfl rfl rfl rfl rfl (th_size) ?_
    rintro _ _ ⟨rfl, rfl⟩
    refine wq_calv [.int (σ.1 1 0)] rfl rfl rfl rfl rfl rfl rfl rfl rfl (tF_one (w := 0) (R := 89) (a := [(3, 9, 9), (1, 12, 12)]) (z := 0) (ws := []) (by decide +kernel) (by decide) ⟨⟨_, rfl, by decide, by decide⟩, ⟨_, rfl, by rw [eN]; decide, by rw [eN]; decide⟩, trivial⟩ hT) ?_
    rintro _ σ' ⟨rfl, hT'⟩
    refine wp_reti rfl (th_nI rfl) ⟨?_, hT'⟩
    rw [show tF_score a1 = 0 from if_pos ⟨by omega, by omega⟩]
  rw [show tb_sw _ _ (a1).toInt = 78 from tb_swd (by intro q hq; simp only [List.mem_cons, List.not_mem_nil, or_false] at hq; rcases hq with rfl | rfl | rfl | rfl <;> (intro e; dsimp only at e; omega))]
  refine wq_con (x := (-1)) rfl (by decide) ?_
  refine wp_reti rfl (th_nI rfl) ⟨?_, hT⟩
  rw [show tF_score a1 = -1 from if_neg (fun e => by omega)]
theorem tF_x_voice {a1 a2 : Int32} {σ : tm_S} (hT : tv_TY tF_T σ) : WM 90 140 [.ref 0, .int a1, .int a2] σ (fun r σ' => r = some (.int (-1)) ∧ tv_TY tF_T σ') := tF_one (R := 90) (a := [(3, 0, 0), (1, (-2147483648), 2147483647), (1, (-2147483648), 2147483647)]) (z := (-1)) (ws := []) (by decide +kernel) (by decide) ⟨⟨_, rfl, by decide, by decide⟩, ⟨_, rfl, (tn_rng _).1, (tn_rng _).2⟩, ⟨_, rfl, (tn_rng _).1, (tn_rng _).2⟩, trivial⟩ hT
theorem tF_x_sings {a1 a2 : Int32} {σ : tm_S} (hT : tv_TY tF_T σ) : WM 90 146 [.ref 0, .int a1, .int a2] σ (fun r σ' => r = some (.int (-1)) ∧ tv_TY tF_T σ') := tF_one (R := 90) (a := [(3, 0, 0), (1, (-2147483648), 2147483647), (1, (-2147483648), 2147483647)]) (z := (-1)) (ws := []) (by decide +kernel) (by decide) ⟨⟨_, rfl, by decide, by decide⟩, ⟨_, rfl, (tn_rng _).1, (tn_rng _).2⟩, ⟨_, rfl, (tn_rng _).1, (tn_rng _).2⟩, trivial⟩ hT
theorem tF_x_chord {a1 : Int32} {σ : tm_S} (hT : tv_TY tF_T σ) : WM 90 147 [.ref 0, .int a1] σ (fun r σ' => r = some (.int 0) ∧ tv_TY tF_T σ') := tF_one (R := 90) (a := [(3, 0, 0), (1, (-2147483648), 2147483647)]) (z := 0) (ws := []) (by decide +kernel) (by decide) ⟨⟨_, rfl, by decide, by decide⟩, ⟨_, rfl, (tn_rng _).1, (tn_rng _).2⟩, trivial⟩ hT
theorem tF_x_fit {a1 a2 : Int32} {σ : tm_S} (hT : tv_TY tF_T σ) : WM 90 148 [.ref 0, .int a1, .int a2] σ (fun r σ' => r = some (.int (-1)) ∧ tv_TY tF_T σ') := tF_one (R := 90) (a := [(3, 0, 0), (1, (-2147483648), 2147483647), (1, (-2147483648), 2147483647)]) (z := (-1)) (ws := []) (by decide +kernel) (by decide) ⟨⟨_, rfl, by decide, by decide⟩, ⟨_, rfl, (tn_rng _).1, (tn_rng _).2⟩, ⟨_, rfl, (tn_rng _).1, (tn_rng _).2⟩, trivial⟩ hT
theorem tF_x_keep {a1 a2 : Int32} {σ : tm_S} (hT : tv_TY tF_T σ) : WM 90 150 [.ref 0, .int a1, .int a2] σ (fun r σ' => r = some (.int 0) ∧ tv_TY tF_T σ') := tF_one (R := 90) (a := [(3, 0, 0), (1, (-2147483648), 2147483647), (1, (-2147483648), 2147483647)]) (z := 0) (ws := []) (by decide +kernel) (by decide) ⟨⟨_, rfl, by decide, by decide⟩, ⟨_, rfl, (tn_rng _).1, (tn_rng _).2⟩, ⟨_, rfl, (tn_rng _).1, (tn_rng _).2⟩, trivial⟩ hT
theorem tF_x_write {σ : tm_S} (hT : tv_TY tF_T σ) : WM 90 151 [.ref 0] σ (fun r σ' => r = some (.int 0) ∧ tv_TY tF_T σ') := tF_one (R := 90) (a := [(3, 0, 0)]) (z := 0) (ws := []) (by decide +kernel) (by decide) ⟨⟨_, rfl, by decide, by decide⟩, trivial⟩ hT
theorem tF_x_out {a1 : Int32} {σ : tm_S} (hT : tv_TY tF_T σ) : WM 90 157 [.ref 0, .int a1] σ (fun r σ' => r = some (.int (-1)) ∧ tv_TY tF_T σ') := tF_one (R := 90) (a := [(3, 0, 0), (1, (-2147483648), 2147483647)]) (z := (-1)) (ws := []) (by decide +kernel) (by decide) ⟨⟨_, rfl, by decide, by decide⟩, ⟨_, rfl, (tn_rng _).1, (tn_rng _).2⟩, trivial⟩ hT
theorem tF_x_take {σ : tm_S} (hT : tv_TY tF_T σ) : WM 90 158 [.ref 0] σ (fun r σ' => r = some (.int 0) ∧ tv_TY tF_T σ') := tF_one (R := 90) (a := [(3, 0, 0)]) (z := 0) (ws := [(7, 1), (29, 64)]) (by decide +kernel) (by decide) ⟨⟨_, rfl, by decide, by decide⟩, trivial⟩ hT
def tF_end (n : Int32) : Int32 := if n.toInt = 0 then 0 else -1
theorem tF_x_end {a1 : Int32} {σ : tm_S} (hT : tv_TY tF_T σ) : WM 90 95 [.ref 0, .int a1] σ (fun r σ' => r = some (.int (tF_end a1)) ∧ tv_TY tF_T σ') := by
  have g := tn_rng a1
  by_cases h0 : a1.toInt < 0
  · rw [show tF_end a1 = (-1) from if_neg (fun e => by omega)]
    exact tF_one (R := 90) (a := [(3, 0, 0), (1, (-2147483648), (-1))]) (z := (-1)) (ws := []) (by decide +kernel) (by decide) ⟨⟨_, rfl, by decide, by decide⟩, ⟨_, rfl, by omega, by omega⟩, trivial⟩ hT
  · by_cases h1 : a1.toInt ≤ 0
    · rw [show tF_end a1 = 0 from if_pos (by omega)]
      exact tF_one (R := 90) (a := [(3, 0, 0), (1, 0, 0)]) (z := 0) (ws := []) (by decide +kernel) (by decide) ⟨⟨_, rfl, by decide, by decide⟩, ⟨_, rfl, by omega, by omega⟩, trivial⟩ hT
    · rw [show tF_end a1 = (-1) from if_neg (fun e => by omega)]
      exact tF_one (R := 90) (a := [(3, 0, 0), (1, 1, 2147483647)]) (z := (-1)) (ws := []) (by decide +kernel) (by decide) ⟨⟨_, rfl, by decide, by decide⟩, ⟨_, rfl, by omega, by omega⟩, trivial⟩ hT
/-! feed -/
def tF_ap (L : Nat) (σ σ' : tm_S) : Prop := σ'.1 7 1 = nI L ∧ σ'.1 11 = σ.1 11
set_option maxRecDepth 100000 in
set_option maxHeartbeats 4000000 in
theorem tF_add {d : Nat} {v : Int32} {σ0 σ : tm_S} {L : Nat} (h : tF_ap L σ0 σ) (hL : L < 800) : WM d 94 [.ref 7, .int v] σ (fun r σ' => r = none ∧ tF_ap (L + 1) σ0 σ') := by
  have eL := nI_toInt (n := L) (by omega)
  show WP d 94 0 [(0, .ref 7), (1, .int v)] [] σ _
  refine wp_lda rfl tm_m0 ?_
  refine wq_geti rfl rfl (f := 1) rfl rfl (Or.inl rfl) ?_
  rw [h.1]
  refine wp_lda rfl tm_m0 ?_
  refine wq_getr (p := 29) rfl rfl (f := 0) rfl rfl ?_
  refine wq_len (x := 800) rfl rfl (by decide) ?_
  refine wq_icge rfl (fun h9 => absurd (tn_leI.mp h9) (by rw [eL]; show ¬ (800 : Int) ≤ L; omega)) (fun h9 => ?_)
  refine wp_lda rfl tm_m0 ?_
  refine wq_getr (p := 29) rfl rfl (f := 0) rfl rfl ?_
  refine wp_lda rfl tm_m0 ?_
  refine wq_geti rfl rfl (f := 1) rfl rfl (Or.inl rfl) ?_
  rw [h.1]
  refine wp_ldi rfl tm_m1 ?_
  refine wq_con (x := 255) rfl (by decide) ?_
  refine wq_iand rfl ?_
  refine wp_iast rfl rfl (vp_in_nI hL (by decide)) ?_
  refine wp_lda rfl tm_m0 ?_
  refine wp_dup rfl rfl ?_
  refine wq_geti rfl rfl (f := 1) rfl rfl (Or.inl rfl) ?_
  rw [show ((tm_sI σ 29 (nI L).toNatClampNeg (v &&& 255)).1 7 1) = nI L from h.1]
  refine wq_con (x := 1) rfl (by decide) ?_
  refine wq_iadd rfl ?_
  refine wq_puti rfl rfl (f := 1) rfl rfl ?_
  refine wp_retv rfl ⟨rfl, ?_, h.2⟩
  show (tm_sI _ 7 1 (nI L + 1)).1 7 1 = _
  rw [tm_gI, if_pos ⟨rfl, rfl⟩, show (1 : Int32) = nI 1 by decide, nI_add]
set_option maxRecDepth 100000 in
set_option maxHeartbeats 4000000 in
theorem tF_four {d : Nat} {v : Int32} {σ0 σ : tm_S} {L : Nat} (h : tF_ap L σ0 σ) (hL : L + 4 ≤ 800) : WM (d + 1) 93 [.ref 7, .int v] σ (fun r σ' => r = none ∧ tF_ap (L + 4) σ0 σ') := by
  show WP (d + 1) 93 0 [(0, .ref 7), (1, .int v)] [] σ _
  refine wp_lda rfl tm_m0 ?_
  refine wp_ldi rfl tm_m1 ?_
  refine wq_con (x := 24) rfl (by decide) ?_
  refine wq_iushr rfl ?_
  refine wq_calv [.int (((v : Int32).toUInt32 >>> ((24 : Int32).toUInt32 &&& Int32.toUInt32 31)).toInt32)] rfl rfl rfl rfl rfl rfl rfl rfl rfl (tF_add h (by omega)) ?_
  rintro _ s1 ⟨rfl, h1⟩
  refine wp_lda rfl tm_m0 ?_
  refine wp_ldi rfl tm_m1 ?_
  refine wq_con (x := 16) rfl (by decide) ?_
  refine wq_iushr rfl ?_
  refine wq_calv [.int (((v : Int32).toUInt32 >>> ((16 : Int32).toUInt32 &&& Int32.toUInt32 31)).toInt32)] rfl rfl rfl rfl rfl rfl rfl rfl rfl (tF_add h1 (by omega)) ?_
  rintro _ s2 ⟨rfl, h2⟩
  refine wp_lda rfl tm_m0 ?_
  refine wp_ldi rfl tm_m1 ?_
  refine wq_con (x := 8) rfl (by decide) ?_
  refine wq_iushr rfl ?_
  refine wq_calv [.int (((v : Int32).toUInt32 >>> ((8 : Int32).toUInt32 &&& Int32.toUInt32 31)).toInt32)] rfl rfl rfl rfl rfl rfl rfl rfl rfl (tF_add h2 (by omega)) ?_
  rintro _ s3 ⟨rfl, h3⟩
  refine wp_lda rfl tm_m0 ?_
  refine wp_ldi rfl tm_m1 ?_
  refine wq_calv [.int v] rfl rfl rfl rfl rfl rfl rfl rfl rfl (tF_add h3 (by omega)) ?_
  rintro _ s4 ⟨rfl, h4⟩
  exact wp_retv rfl ⟨rfl, h4⟩
set_option maxRecDepth 100000 in
set_option maxHeartbeats 4000000 in
theorem tF_tape {d : Nat} {σ : tm_S} : WM d 91 [.ref 6] σ (th_is (.ref 7) σ) := by
  show WP d 91 0 [(0, .ref 6)] [] σ _
  refine wp_lda rfl tm_m0 ?_
  refine wq_getr (p := 7) rfl rfl (f := 0) rfl rfl ?_
  exact wp_retr rfl ⟨rfl, rfl⟩
set_option maxRecDepth 100000 in
set_option maxHeartbeats 4000000 in
theorem tF_length {d : Nat} {σ : tm_S} {x : Int32} (h : σ.1 7 1 = x) : WM d 92 [.ref 7] σ (th_is (.int x) σ) := by
  subst h
  show WP d 92 0 [(0, .ref 7)] [] σ _
  refine wp_lda rfl tm_m0 ?_
  refine wq_geti rfl rfl (f := 1) rfl rfl (Or.inl rfl) ?_
  exact wp_reti rfl (th_nI rfl) ⟨rfl, rfl⟩
set_option maxRecDepth 100000 in
set_option maxHeartbeats 4000000 in
theorem tF_x_feed {d : Nat} {a1 a2 a3 a4 a5 : Int32} {σ : tm_S} (hT : tv_TY tF_T σ) : WM (d + 2) 90 [.ref 0, .int a1, .int a2, .int a3, .int a4, .int a5] σ (fun r σ' => r = some (.int 20) ∧ σ'.1 11 32 = 0) := by
  have e7 : σ.1 7 1 = 0 := tF_v hT rfl
  have et : σ.1 11 32 = 0 := tF_v hT rfl
  have h0 : tF_ap 0 σ σ := ⟨e7, rfl⟩
  show WP (d + 2) 90 0 [(0, .ref 0), (1, .int a1), (2, .int a2), (3, .int a3), (4, .int a4), (5, .int a5)] [] σ _
  refine wp_lda rfl tm_m0 ?_
  refine wq_getr (p := 6) rfl rfl (f := 6) rfl rfl ?_
  refine wq_calv [] rfl rfl rfl rfl rfl rfl rfl rfl rfl (tF_tape) ?_
  rintro _ _ ⟨rfl, rfl⟩
  refine wq_sta [(6, .ref 7), (0, .ref 0), (1, .int a1), (2, .int a2), (3, .int a3), (4, .int a4), (5, .int a5)] rfl rfl ?_
  refine wp_lda rfl tm_m0 ?_
  refine wq_calv [] rfl rfl rfl rfl rfl rfl rfl rfl rfl (tF_length e7) ?_
  rintro _ _ ⟨rfl, rfl⟩
  refine wq_con (x := 20) rfl (by decide) ?_
  refine wq_iadd rfl ?_
  refine wq_con (x := 800) rfl (by decide) ?_
  refine wq_icle rfl (fun h20 => ?_) (fun h20 => absurd (by decide) h20)
  refine wp_lda rfl tm_m0 ?_
  refine wp_ldi rfl tm_m2 ?_
  refine wq_calv [.int a1] rfl rfl rfl rfl rfl rfl rfl rfl rfl (tF_four h0 (by decide)) ?_
  rintro _ s1 ⟨rfl, h1⟩
  refine wp_lda rfl tm_m0 ?_
  refine wp_ldi rfl tm_m3 ?_
  refine wq_calv [.int a2] rfl rfl rfl rfl rfl rfl rfl rfl rfl (tF_four h1 (by decide)) ?_
  rintro _ s2 ⟨rfl, h2⟩
  refine wp_lda rfl tm_m0 ?_
  refine wp_ldi rfl tm_m4 ?_
  refine wq_calv [.int a3] rfl rfl rfl rfl rfl rfl rfl rfl rfl (tF_four h2 (by decide)) ?_
  rintro _ s3 ⟨rfl, h3⟩
  refine wp_lda rfl tm_m0 ?_
  refine wp_ldi rfl tm_m5 ?_
  refine wq_calv [.int a4] rfl rfl rfl rfl rfl rfl rfl rfl rfl (tF_four h3 (by decide)) ?_
  rintro _ s4 ⟨rfl, h4⟩
  refine wp_lda rfl tm_m0 ?_
  refine wp_ldi rfl tm_m6 ?_
  refine wq_calv [.int a5] rfl rfl rfl rfl rfl rfl rfl rfl rfl (tF_four h4 (by decide)) ?_
  rintro _ s5 ⟨rfl, h5⟩
  refine wp_lda rfl tm_m0 ?_
  refine wq_calv [] rfl rfl rfl rfl rfl rfl rfl rfl rfl (tF_length (x := 20) (h5.1.trans (by decide))) ?_
  rintro _ _ ⟨rfl, rfl⟩
  exact wp_reti rfl (th_nI rfl) ⟨rfl, by rw [h5.2]; exact et⟩
