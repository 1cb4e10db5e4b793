/-! ===== indexOf, advance ===== -/
set_option maxRecDepth 100000 in
set_option maxHeartbeats 4000000 in
theorem th_can {d : Nat} {σ : tm_S} {c : Int32} : WM d 126 [.int c] σ (fun r σ' => (r = some (.int 0) ∨ r = some (.int 1)) ∧ σ = σ') := by
  show WP d 126 0 [(0, .int c)] [] σ _
  refine wp_ldi rfl tm_m0 ?_
  refine wq_iflt rfl (fun h1 => ?_) (fun h1 => ?_)
  · refine wq_con (x := 0) rfl (by decide) ?_
    exact wp_reti rfl (th_n0 rfl) ⟨Or.inl rfl, rfl⟩
  · refine wp_ldi rfl tm_m0 ?_
    refine wq_con (x := 255) rfl (by decide) ?_
    refine wq_icgt rfl (fun h8 => ?_) (fun h8 => ?_)
    · refine wq_con (x := 0) rfl (by decide) ?_
      exact wp_reti rfl (th_n0 rfl) ⟨Or.inl rfl, rfl⟩
    · refine wq_con (x := 1) rfl (by decide) ?_
      refine wp_go rfl ?_
      exact wp_reti rfl (th_n1 rfl) ⟨Or.inr rfl, rfl⟩
set_option maxRecDepth 100000 in
set_option maxHeartbeats 4000000 in
theorem th_ioc_l {d : Nat} {σ : tm_S} {q : Nat} (hq : q < tt_NS) {c e f t : Int32} (hn : tt_len.getD q 0 ≤ 100) (ht : t.toInt ≤ (tt_len.getD q 0 : Nat)) : ∀ (m : Nat) (i : Int32), 0 ≤ i.toInt → t.toInt ≤ i.toInt + m → WP d 127 7 [(5, .int i), (4, .int e), (0, .ref (tt_SV + q)), (1, .int c), (2, .int f), (3, .int t)] [] σ (fun r σ' => (∃ z : Int32, r = some (.int z) ∧ -1 ≤ z.toInt ∧ z.toInt < (tt_len.getD q 0 : Nat)) ∧ σ = σ') := by
  intro m
  induction m with
  | zero =>
    intro i h1 h2
    refine wp_ldi rfl tm_m0 ?_
    refine wp_ldi rfl tm_m5 ?_
    refine wq_icge rfl (fun h10 => ?_) (fun h10 => absurd (tn_leI.mpr (by omega)) h10)
    refine wq_con (x := (-1)) rfl (by decide) ?_
    exact wp_reti rfl (th_nI rfl) ⟨⟨_, rfl, by decide, by show (-1 : Int) < _; omega⟩, rfl⟩
  | succ m ih =>
    intro i h1 h2
    refine wp_ldi rfl tm_m0 ?_
    refine wp_ldi rfl tm_m5 ?_
    refine wq_icge rfl (fun h10 => ?_) (fun h10 => ?_)
    · refine wq_con (x := (-1)) rfl (by decide) ?_
      exact wp_reti rfl (th_nI rfl) ⟨⟨_, rfl, by decide, by show (-1 : Int) < _; omega⟩, rfl⟩
    · have e10 : i.toInt < t.toInt := by rw [tn_leI] at h10; omega
      have e2 := tn_add1 (x := i) (by omega)
      refine wp_lda rfl tm_m2 ?_
      refine wp_ldi rfl tm_m0 ?_
      refine wp_sald rfl hq (tn_in (by omega) (by omega)) ?_
      refine wp_ldi rfl tm_m1 ?_
      refine wq_icne rfl (fun h19 => ?_) (fun h19 => ?_)
      · refine wq_inc (c := 1) [(5, .int (i + 1)), (4, .int e), (0, .ref (tt_SV + q)), (1, .int c), (2, .int f), (3, .int t)] rfl tm_m0 rfl rfl ?_
        refine wp_go rfl ?_
        exact WP.less (ih (i + 1) (by omega) (by omega)) (by simp)
      · refine wp_ldi rfl tm_m0 ?_
        exact wp_reti rfl (th_nI rfl) ⟨⟨_, rfl, by omega, by omega⟩, rfl⟩
set_option maxRecDepth 100000 in
set_option maxHeartbeats 4000000 in
theorem th_ioc {d : Nat} {σ : tm_S} {q : Nat} (hq : q < tt_NS) {c f t : Int32} (hn : tt_len.getD q 0 ≤ 100) (hf : 0 ≤ f.toInt) (ht : t.toInt ≤ (tt_len.getD q 0 : Nat)) : WM d 127 [.ref (tt_SV + q), .int c, .int f, .int t] σ (fun r σ' => (∃ z : Int32, r = some (.int z) ∧ -1 ≤ z.toInt ∧ z.toInt < (tt_len.getD q 0 : Nat)) ∧ σ = σ') := by
  show WP d 127 0 [(0, .ref (tt_SV + q)), (1, .int c), (2, .int f), (3, .int t)] [] σ _
  refine wp_ldi rfl tm_m1 ?_
  refine wp_i2b rfl ?_
  refine wq_sti [(4, .int (c.toInt8.toInt32)), (0, .ref (tt_SV + q)), (1, .int c), (2, .int f), (3, .int t)] rfl rfl ?_
  refine wp_ldi rfl tm_m3 ?_
  refine wq_sti [(5, .int f), (4, .int (c.toInt8.toInt32)), (0, .ref (tt_SV + q)), (1, .int c), (2, .int f), (3, .int t)] rfl rfl ?_
  exact WP.less (th_ioc_l (c := c) (e := c.toInt8.toInt32) (f := f) hq hn ht 100 f hf (by omega)) (by simp)
set_option maxRecDepth 100000 in
set_option maxHeartbeats 4000000 in
theorem th_io4 {d : Nat} {σ : tm_S} {q : Nat} (hq : q < tt_NS) {c : Int32} (hn : tt_len.getD q 0 ≤ 100) : WM (d + 1) 125 [.ref (tt_SV + q), .int c, .int 0, .int (Int32.ofNat (tt_len.getD q 0))] σ (fun r σ' => (∃ z : Int32, r = some (.int z) ∧ -1 ≤ z.toInt ∧ z.toInt < (tt_len.getD q 0 : Nat)) ∧ σ = σ') := by
  have eL : (Int32.ofNat (tt_len.getD q 0)).toInt = (tt_len.getD q 0 : Nat) := tn_ofNat (by omega)
  show WP (d + 1) 125 0 [(0, .ref (tt_SV + q)), (1, .int c), (2, .int 0), (3, .int (Int32.ofNat (tt_len.getD q 0)))] [] σ _
  refine wp_ldi rfl tm_m1 ?_
  refine wq_cals [.int c] rfl rfl rfl rfl rfl rfl (th_can) ?_
  rintro r0 _ ⟨hr0, rfl⟩
  obtain ⟨z0, rfl⟩ : ∃ z : Int32, r0 = some (.int z) := by rcases hr0 with rfl | rfl <;> exact ⟨_, rfl⟩
  refine wq_ifne rfl (fun h4 => ?_) (fun h4 => ?_)
  · refine wp_ldi rfl tm_m2 ?_
    refine wq_con (x := 0) rfl (by decide) ?_
    refine wp_mmax rfl (by omega) (by decide) ?_
    rw [ite_self]
    refine wq_sti [(2, .int 0), (0, .ref (tt_SV + q)), (1, .int c), (3, .int (Int32.ofNat (tt_len.getD q 0)))] rfl rfl ?_
    refine wp_ldi rfl tm_m3 ?_
    refine wp_lda rfl tm_m1 ?_
    refine wp_slen rfl hq ?_
    refine wp_mmin rfl (by omega) (by decide) ?_
    rw [ite_self]
    refine wq_sti [(3, .int (Int32.ofNat (tt_len.getD q 0))), (2, .int 0), (0, .ref (tt_SV + q)), (1, .int c)] rfl rfl ?_
    refine wp_ldi rfl tm_m1 ?_
    refine wp_ldi rfl tm_m0 ?_
    refine wq_iclt rfl (fun h24 => ?_) (fun h24 => ?_)
    · refine wp_lda rfl tm_m2 ?_
      refine wp_ldi rfl tm_m3 ?_
      refine wp_ldi rfl tm_m1 ?_
      refine wp_ldi rfl tm_m0 ?_
      refine wq_cals [.ref (tt_SV + q), .int c, .int 0, .int (Int32.ofNat (tt_len.getD q 0))] rfl rfl rfl rfl rfl rfl (th_ioc hq hn (by decide) (by rw [eL]; omega)) ?_
      rintro _ _ ⟨⟨z1, rfl, g1, g2⟩, rfl⟩
      exact wp_reti rfl (th_nI rfl) ⟨⟨_, rfl, g1, g2⟩, rfl⟩
    · refine wq_con (x := (-1)) rfl (by decide) ?_
      exact wp_reti rfl (th_nI rfl) ⟨⟨_, rfl, by decide, by show (-1 : Int) < _; omega⟩, rfl⟩
  · refine wq_con (x := (-1)) rfl (by decide) ?_
    exact wp_reti rfl (th_nI rfl) ⟨⟨_, rfl, by decide, by show (-1 : Int) < _; omega⟩, rfl⟩
set_option maxRecDepth 100000 in
set_option maxHeartbeats 4000000 in
theorem th_io3 {d : Nat} {σ : tm_S} {q : Nat} (hq : q < tt_NS) {c : Int32} (hn : tt_len.getD q 0 ≤ 100) : WM (d + 2) 124 [.ref (tt_ST + q), .int c, .int 0] σ (fun r σ' => (∃ z : Int32, r = some (.int z) ∧ -1 ≤ z.toInt ∧ z.toInt < (tt_len.getD q 0 : Nat)) ∧ σ = σ') := by
  show WP (d + 2) 124 0 [(0, .ref (tt_ST + q)), (1, .int c), (2, .int 0)] [] σ _
  refine wp_lda rfl tm_m0 ?_
  refine wq_calS [] rfl rfl rfl rfl rfl rfl rfl hq (th_isL hq) ?_
  rintro _ _ ⟨rfl, rfl⟩
  refine wq_ifeq rfl (fun h4 => absurd h4 (by decide)) (fun h4 => ?_)
  refine wp_lda rfl tm_m0 ?_
  refine wp_sfV rfl hq ?_
  refine wp_ldi rfl tm_m1 ?_
  refine wp_ldi rfl tm_m2 ?_
  refine wp_lda rfl tm_m0 ?_
  refine wq_calS [] rfl rfl rfl rfl rfl rfl rfl hq (th_len hq) ?_
  rintro _ _ ⟨rfl, rfl⟩
  refine wq_cals [.ref (tt_SV + q), .int c, .int 0, .int (Int32.ofNat (tt_len.getD q 0))] rfl rfl rfl rfl rfl rfl (th_io4 hq hn) ?_
  rintro _ _ ⟨⟨z1, rfl, g1, g2⟩, rfl⟩
  refine wp_go rfl ?_
  exact wp_reti rfl (th_nI rfl) ⟨⟨_, rfl, g1, g2⟩, rfl⟩
set_option maxRecDepth 100000 in
set_option maxHeartbeats 4000000 in
theorem th_io2 {d : Nat} {σ : tm_S} {q : Nat} (hq : q < tt_NS) {c : Int32} (hn : tt_len.getD q 0 ≤ 100) : WM (d + 3) 123 [.ref (tt_ST + q), .int c] σ (fun r σ' => (∃ z : Int32, r = some (.int z) ∧ -1 ≤ z.toInt ∧ z.toInt < (tt_len.getD q 0 : Nat)) ∧ σ = σ') := by
  show WP (d + 3) 123 0 [(0, .ref (tt_ST + q)), (1, .int c)] [] σ _
  refine wp_lda rfl tm_m0 ?_
  refine wp_ldi rfl tm_m1 ?_
  refine wq_con (x := 0) rfl (by decide) ?_
  refine wq_calS [.int c, .int 0] rfl rfl rfl rfl rfl rfl rfl hq (th_io3 hq hn) ?_
  rintro _ _ ⟨⟨z1, rfl, g1, g2⟩, rfl⟩
  exact wp_reti rfl (th_nI rfl) ⟨⟨_, rfl, g1, g2⟩, rfl⟩
set_option maxRecDepth 100000 in
set_option maxHeartbeats 4000000 in
theorem ts_io0 {v : Int}  : tv_Snd (tc_T v) (123, [(3, 85, 85), (1, 0, 65535)], [], [((1, (-1), 3), [])], [], 40) := by
  intro As σ hva hT
  obtain ⟨x0, x1, rfl, h0, h1⟩ := tv_va2 hva
  obtain ⟨k0, rfl, l0, u0⟩ := h0
  obtain rfl : k0 = 85 := by omega
  obtain ⟨a1, rfl, l1, u1⟩ := h1
  refine WM.mono (th_io2 (q := 3) (d := 37) (by decide) (c := a1) (by decide)) ?_
  rintro r σ1 ⟨⟨z, rfl, g1, g2⟩, rfl⟩
  exact tv_Qc1 hT tv_un_rf (tv_rvi g1 (by have g3 : z.toInt < (4 : Nat) := g2; omega))
def tz_get7 : tv_C := (100, [(3, 7, 7), (1, (-2147483648), 2147483647)], [], [((1, (-1), (-1)), []), ((1, 0, 255), [(1, 0, 799)])], [], 49)
theorem tq_get7 {T : tv_TT} {a1 : Int32} {σ σ' : tm_S} {r : Option Value} (h : tv_Qc T tz_get7 [.ref 7, .int a1] σ r σ') : tv_TY T σ' ∧ tv_un σ σ' [] ∧ ((∃ z : Int32, r = some (.int z) ∧ (-1) ≤ z.toInt ∧ z.toInt ≤ (-1)) ∨ (∃ z : Int32, r = some (.int z) ∧ 0 ≤ z.toInt ∧ z.toInt ≤ 255 ∧ 0 ≤ a1.toInt ∧ a1.toInt ≤ 799)) := by
  obtain ⟨h1, h2, q, hq, hr, hn⟩ := h
  refine ⟨h1, h2, ?_⟩
  change q ∈ [((1, (-1), (-1)), []), ((1, 0, 255), [(1, 0, 799)])] at hq
  simp only [List.mem_cons, List.not_mem_nil, or_false] at hq
  rcases hq with rfl | rfl
  · rcases hr with ⟨e, -⟩ | ⟨x, rfl, hx⟩
    · cases e
    · obtain ⟨z, rfl, g1, g2⟩ := hx
      exact Or.inl (⟨z, rfl, g1, g2⟩)
  · obtain ⟨y0, e0, l0, u0⟩ := hn (1, 0, 799) tm_m0
    cases e0
    rcases hr with ⟨e, -⟩ | ⟨x, rfl, hx⟩
    · cases e
    · obtain ⟨z, rfl, g1, g2⟩ := hx
      exact Or.inr (⟨z, rfl, g1, g2, l0, u0⟩)
def tz_blank : tv_C := (101, [(1, (-2147483648), 2147483647)], [], [((1, 1, 1), [(0, 10, 32)]), ((1, 0, 0), [])], [], 49)
theorem tq_blank {T : tv_TT} {a0 : Int32} {σ σ' : tm_S} {r : Option Value} (h : tv_Qc T tz_blank [.int a0] σ r σ') : tv_TY T σ' ∧ tv_un σ σ' [] ∧ ((∃ z : Int32, r = some (.int z) ∧ 1 ≤ z.toInt ∧ z.toInt ≤ 1 ∧ 10 ≤ a0.toInt ∧ a0.toInt ≤ 32) ∨ (∃ z : Int32, r = some (.int z) ∧ 0 ≤ z.toInt ∧ z.toInt ≤ 0)) := by
  obtain ⟨h1, h2, q, hq, hr, hn⟩ := h
  refine ⟨h1, h2, ?_⟩
  change q ∈ [((1, 1, 1), [(0, 10, 32)]), ((1, 0, 0), [])] at hq
  simp only [List.mem_cons, List.not_mem_nil, or_false] at hq
  rcases hq with rfl | rfl
  · obtain ⟨y0, e0, l0, u0⟩ := hn (0, 10, 32) tm_m0
    cases e0
    rcases hr with ⟨e, -⟩ | ⟨x, rfl, hx⟩
    · cases e
    · obtain ⟨z, rfl, g1, g2⟩ := hx
      exact Or.inl (⟨z, rfl, g1, g2, l0, u0⟩)
  · rcases hr with ⟨e, -⟩ | ⟨x, rfl, hx⟩
    · cases e
    · obtain ⟨z, rfl, g1, g2⟩ := hx
      exact Or.inr (⟨z, rfl, g1, g2⟩)
def tz_letter : tv_C := (102, [(1, (-2147483648), 2147483647)], [], [((1, 0, 0), []), ((1, 1, 1), [(0, 65, 122)])], [], 49)
theorem tq_letter {T : tv_TT} {a0 : Int32} {σ σ' : tm_S} {r : Option Value} (h : tv_Qc T tz_letter [.int a0] σ r σ') : tv_TY T σ' ∧ tv_un σ σ' [] ∧ ((∃ z : Int32, r = some (.int z) ∧ 0 ≤ z.toInt ∧ z.toInt ≤ 0) ∨ (∃ z : Int32, r = some (.int z) ∧ 1 ≤ z.toInt ∧ z.toInt ≤ 1 ∧ 65 ≤ a0.toInt ∧ a0.toInt ≤ 122)) := by
  obtain ⟨h1, h2, q, hq, hr, hn⟩ := h
  refine ⟨h1, h2, ?_⟩
  change q ∈ [((1, 0, 0), []), ((1, 1, 1), [(0, 65, 122)])] at hq
  simp only [List.mem_cons, List.not_mem_nil, or_false] at hq
  rcases hq with rfl | rfl
  · rcases hr with ⟨e, -⟩ | ⟨x, rfl, hx⟩
    · cases e
    · obtain ⟨z, rfl, g1, g2⟩ := hx
      exact Or.inl (⟨z, rfl, g1, g2⟩)
  · obtain ⟨y0, e0, l0, u0⟩ := hn (0, 65, 122) tm_m0
    cases e0
    rcases hr with ⟨e, -⟩ | ⟨x, rfl, hx⟩
    · cases e
    · obtain ⟨z, rfl, g1, g2⟩ := hx
      exact Or.inr (⟨z, rfl, g1, g2, l0, u0⟩)
def tz_digit : tv_C := (112, [(1, (-2147483648), 2147483647)], [], [((1, 0, 0), []), ((1, 1, 1), [(0, 48, 57)])], [], 49)
theorem tq_digit {T : tv_TT} {a0 : Int32} {σ σ' : tm_S} {r : Option Value} (h : tv_Qc T tz_digit [.int a0] σ r σ') : tv_TY T σ' ∧ tv_un σ σ' [] ∧ ((∃ z : Int32, r = some (.int z) ∧ 0 ≤ z.toInt ∧ z.toInt ≤ 0) ∨ (∃ z : Int32, r = some (.int z) ∧ 1 ≤ z.toInt ∧ z.toInt ≤ 1 ∧ 48 ≤ a0.toInt ∧ a0.toInt ≤ 57)) := by
  obtain ⟨h1, h2, q, hq, hr, hn⟩ := h
  refine ⟨h1, h2, ?_⟩
  change q ∈ [((1, 0, 0), []), ((1, 1, 1), [(0, 48, 57)])] at hq
  simp only [List.mem_cons, List.not_mem_nil, or_false] at hq
  rcases hq with rfl | rfl
  · rcases hr with ⟨e, -⟩ | ⟨x, rfl, hx⟩
    · cases e
    · obtain ⟨z, rfl, g1, g2⟩ := hx
      exact Or.inl (⟨z, rfl, g1, g2⟩)
  · obtain ⟨y0, e0, l0, u0⟩ := hn (0, 48, 57) tm_m0
    cases e0
    rcases hr with ⟨e, -⟩ | ⟨x, rfl, hx⟩
    · cases e
    · obtain ⟨z, rfl, g1, g2⟩ := hx
      exact Or.inr (⟨z, rfl, g1, g2, l0, u0⟩)
def tz_word : tv_C := (103, [(3, 6, 6), (1, (-2147483648), 2147483647)], [], [((3, 81, 81), []), ((3, 75, 75), []), ((3, 74, 74), []), ((3, 73, 73), []), ((3, 76, 76), [(1, 97, 2147483647)])], [(6, 4), (6, 6)], 49)
theorem tq_word {T : tv_TT} {a1 : Int32} {σ σ' : tm_S} {r : Option Value} (h : tv_Qc T tz_word [.ref 6, .int a1] σ r σ') : tv_TY T σ' ∧ tv_un σ σ' [(6, 4), (6, 6)] ∧ ((r = some (.ref 81)) ∨ (r = some (.ref 75)) ∨ (r = some (.ref 74)) ∨ (r = some (.ref 73)) ∨ (r = some (.ref 76) ∧ 97 ≤ a1.toInt ∧ a1.toInt ≤ 2147483647)) := by
  obtain ⟨h1, h2, q, hq, hr, hn⟩ := h
  refine ⟨h1, h2, ?_⟩
  change q ∈ [((3, 81, 81), []), ((3, 75, 75), []), ((3, 74, 74), []), ((3, 73, 73), []), ((3, 76, 76), [(1, 97, 2147483647)])] at hq
  simp only [List.mem_cons, List.not_mem_nil, or_false] at hq
  rcases hq with rfl | rfl | rfl | rfl | rfl
  · rcases hr with ⟨e, -⟩ | ⟨x, rfl, hx⟩
    · cases e
    · obtain ⟨z, rfl, g1, g2⟩ := hx
      obtain rfl : z = 81 := by omega
      exact Or.inl (rfl)
  · rcases hr with ⟨e, -⟩ | ⟨x, rfl, hx⟩
    · cases e
    · obtain ⟨z, rfl, g1, g2⟩ := hx
      obtain rfl : z = 75 := by omega
      exact Or.inr (Or.inl (rfl))
  · rcases hr with ⟨e, -⟩ | ⟨x, rfl, hx⟩
    · cases e
    · obtain ⟨z, rfl, g1, g2⟩ := hx
      obtain rfl : z = 74 := by omega
      exact Or.inr (Or.inr (Or.inl (rfl)))
  · rcases hr with ⟨e, -⟩ | ⟨x, rfl, hx⟩
    · cases e
    · obtain ⟨z, rfl, g1, g2⟩ := hx
      obtain rfl : z = 73 := by omega
      exact Or.inr (Or.inr (Or.inr (Or.inl (rfl))))
  · obtain ⟨y0, e0, l0, u0⟩ := hn (1, 97, 2147483647) tm_m0
    cases e0
    rcases hr with ⟨e, -⟩ | ⟨x, rfl, hx⟩
    · cases e
    · obtain ⟨z, rfl, g1, g2⟩ := hx
      obtain rfl : z = 76 := by omega
      exact Or.inr (Or.inr (Or.inr (Or.inr (⟨rfl, l0, u0⟩))))
def tz_numb : tv_C := (113, [(3, 6, 6)], [], [((3, 81, 81), []), ((3, 77, 77), [])], [(6, 4), (6, 6)], 49)
theorem tq_numb {T : tv_TT}  {σ σ' : tm_S} {r : Option Value} (h : tv_Qc T tz_numb [.ref 6] σ r σ') : tv_TY T σ' ∧ tv_un σ σ' [(6, 4), (6, 6)] ∧ ((r = some (.ref 81)) ∨ (r = some (.ref 77))) := by
  obtain ⟨h1, h2, q, hq, hr, hn⟩ := h
  refine ⟨h1, h2, ?_⟩
  change q ∈ [((3, 81, 81), []), ((3, 77, 77), [])] at hq
  simp only [List.mem_cons, List.not_mem_nil, or_false] at hq
  rcases hq with rfl | rfl
  · rcases hr with ⟨e, -⟩ | ⟨x, rfl, hx⟩
    · cases e
    · obtain ⟨z, rfl, g1, g2⟩ := hx
      obtain rfl : z = 81 := by omega
      exact Or.inl (rfl)
  · rcases hr with ⟨e, -⟩ | ⟨x, rfl, hx⟩
    · cases e
    · obtain ⟨z, rfl, g1, g2⟩ := hx
      obtain rfl : z = 77 := by omega
      exact Or.inr (rfl)
/-- the types hold but at one field -/
def tv_TX (T : tv_TT) (p q : Nat) (σ : tm_S) : Prop := (∀ k j : Nat, ¬ (k = p ∧ j = q) → (tv_ti T k j).1 ≤ (σ.1 k j).toInt ∧ (σ.1 k j).toInt ≤ (tv_ti T k j).2) ∧ ∀ w ∈ tv_rt, w.2.1 ≤ σ.2.2 w.1.1 w.1.2 ∧ σ.2.2 w.1.1 w.1.2 ≤ w.2.2.1
theorem tv_TX_of {T : tv_TT} {p q : Nat} {σ : tm_S} (h : tv_TY T σ) : tv_TX T p q σ := ⟨fun k j _ => h.1 k j, h.2⟩
theorem tv_TX_at {T : tv_TT} {p q : Nat} {σ : tm_S} {x : Int32} (h : tv_TX T p q σ) (h1 : (tv_ti T p q).1 ≤ x.toInt) (h2 : x.toInt ≤ (tv_ti T p q).2) : tv_TY T (tm_sI σ p q x) := by
  refine ⟨fun k j => ?_, h.2⟩
  rw [tm_gI]
  split
  · rename_i e
    rw [e.1, e.2]
    exact ⟨h1, h2⟩
  · rename_i e
    exact h.1 k j e
theorem tv_TX_self {T : tv_TT} {p q : Nat} {σ : tm_S} {x : Int32} (h : tv_TX T p q σ) : tv_TX T p q (tm_sI σ p q x) := by
  refine ⟨fun k j e => ?_, h.2⟩
  rw [tm_gI, if_neg e]
  exact h.1 k j e
theorem tv_TX_sI {T : tv_TT} {p q a b : Nat} {σ : tm_S} {x : Int32} (h : tv_TX T p q σ) (h1 : (tv_ti T a b).1 ≤ x.toInt) (h2 : x.toInt ≤ (tv_ti T a b).2) : tv_TX T p q (tm_sI σ a b x) := by
  refine ⟨fun k j e => ?_, h.2⟩
  rw [tm_gI]
  split
  · rename_i e
    rw [e.1, e.2]
    exact ⟨h1, h2⟩
  · exact h.1 k j e
theorem tm_gR (σ : tm_S) (k j v a b : Nat) : (tm_sR σ k j v).2.2 a b = if a = k ∧ b = j then v else σ.2.2 a b := by
  show (if a = k then (fun i => if i = j then v else σ.2.2 k i) else σ.2.2 a) b = _
  by_cases ha : a = k
  · subst ha
    rw [if_pos rfl]
    by_cases hb : b = j
    · rw [if_pos hb, if_pos ⟨rfl, hb⟩]
    · rw [if_neg hb, if_neg (fun e => hb e.2)]
  · rw [if_neg ha, if_neg (fun e => ha e.1)]
/-- the reader's token is one of the nine -/
theorem tv_TX_tok {T : tv_TT} {p q x : Nat} {σ : tm_S} (h : tv_TX T p q σ) (h1 : tt_EN ≤ x) (h2 : x ≤ tt_EN + 8) : tv_TX T p q (tm_sR σ 6 3 x) := by
  refine ⟨h.1, fun w hw => ?_⟩
  rw [tm_gR]
  split
  · rename_i e
    have h3 : ∀ w ∈ tv_rt, w.1.1 = 6 ∧ w.1.2 = 3 → w.2.1 = tt_EN ∧ w.2.2.1 = tt_EN + 8 := by decide
    obtain ⟨e1, e2⟩ := h3 w hw e
    rw [e1, e2]
    exact ⟨h1, h2⟩
  · exact h.2 w hw
theorem tv_TY_tok {T : tv_TT} {x : Nat} {σ : tm_S} (h : tv_TY T σ) (h1 : tt_EN ≤ x) (h2 : x ≤ tt_EN + 8) : tv_TY T (tm_sR σ 6 3 x) := by
  have h3 := tv_TX_tok (p := 6) (q := 0) (tv_TX_of h) h1 h2
  exact ⟨h.1, h3.2⟩
theorem tv_un_fR {σ : tm_S} {p k x : Nat} {w : List (Nat × Nat)} (hm : tv_mem w p k = true) : tv_un σ (tm_sR σ p k x) w := by
  refine ⟨fun a i kd h1 h2 => ?_, fun _ _ _ _ => ⟨rfl, rfl⟩⟩
  match kd with
  | 0 => rfl
  | 1 => rfl
  | 2 => rfl
  | 3 =>
    show Value.ref _ = Value.ref _
    rw [tm_gR, if_neg (fun e => by rw [e.1, e.2, hm] at h2; cases h2)]
  | p + 4 => rfl
theorem tv_un_i {a b : tm_S} {w : List (Nat × Nat)} {k j : Nat} (h : tv_un a b w) (hk : tv_kd k j = some 0) (hm : tv_mem w k j = false) : b.1 k j = a.1 k j := Value.int.inj (h.1 k j 0 hk hm)
set_option maxRecDepth 100000 in
set_option maxHeartbeats 4000000 in
theorem ts_adv {v : Int} (hget7 : tv_Snd (tc_T v) tz_get7) (hblank : tv_Snd (tc_T v) tz_blank) (hletter : tv_Snd (tc_T v) tz_letter) (hdigit : tv_Snd (tc_T v) tz_digit) (hword : tv_Snd (tc_T v) tz_word) (hnumb : tv_Snd (tc_T v) tz_numb) : tv_Snd (tc_T v) (99, [(3, 6, 6)], [], [((0, 0, 0), [])], [(6, 3), (6, 4), (6, 5), (6, 6)], 50) := by
  intro As σ hva hT
  obtain ⟨x0, rfl, h0⟩ := tv_va1 hva
  obtain ⟨k0, rfl, l0, u0⟩ := h0
  obtain rfl : k0 = 6 := by omega
  have k50 : ∀ (i : Int32) (σa : tm_S), tv_TY (tc_T v) σa → tv_un σ σa [(6, 3), (6, 4), (6, 5), (6, 6)] → WP 50 99 50 [(1, .int i), (0, .ref 6)] [] σa (tv_Qc (tc_T v) (99, [(3, 6, 6)], [], [((0, 0, 0), [])], [(6, 3), (6, 4), (6, 5), (6, 6)], 50) [.ref 6] σ) := by
    intro i σa hTa hua
    refine wp_lda rfl tm_m1 ?_
    refine wq_getr (p := 7) rfl rfl (f := 0) rfl rfl ?_
    refine wp_lda rfl tm_m1 ?_
    refine wq_geti rfl rfl (f := 5) rfl rfl (Or.inl rfl) ?_
    refine wq_calv [.int (σa.1 6 5)] rfl rfl rfl rfl rfl rfl rfl rfl rfl (WM.deep (hget7 [.ref 7, .int (σa.1 6 5)] σa ⟨⟨_, rfl, by decide, by decide⟩, ⟨_, rfl, (tn_rng _).1, (tn_rng _).2⟩, trivial⟩ hTa) (by decide)) ?_
    rintro r1 σ1 hq1
    obtain ⟨hT1, hu1, hz1⟩ := tq_get7 hq1
    obtain ⟨z1, rfl, hp1, hm1⟩ : ∃ z : Int32, r1 = some (.int z) ∧ (¬ z = -1 → 0 ≤ (σa.1 6 5).toInt ∧ (σa.1 6 5).toInt ≤ 799) ∧ (0 ≤ z.toInt → ¬ z = -1) := by
      rcases hz1 with ⟨z, rfl, g1, g2⟩ | ⟨z, rfl, g1, g2, g3, g4⟩
      · exact ⟨z, rfl, fun e => absurd (Int32.toInt_inj.mp (by show z.toInt = -1; omega)) e, fun h => by omega⟩
      · exact ⟨z, rfl, fun _ => ⟨g3, g4⟩, fun _ e => by rw [e] at g1; exact absurd g1 (by decide)⟩
    have ep1 : σ1.1 6 5 = (σa).1 6 5 := tv_un_i hu1 rfl rfl
    refine wq_sti [(1, .int z1), (0, .ref 6)] rfl rfl ?_
    refine wp_lda rfl tm_m1 ?_
    refine wp_lda rfl tm_m1 ?_
    refine wq_geti rfl rfl (f := 5) rfl rfl (Or.inl rfl) ?_
    refine wq_con (x := 1) rfl (by decide) ?_
    refine wq_iadd rfl ?_
    refine wq_puti rfl rfl (f := 6) rfl rfl ?_
    have gp : 0 ≤ (σ1.1 6 5).toInt ∧ (σ1.1 6 5).toInt ≤ 800 := hT1.1 6 5
    have gv : (tv_ti (tc_T v) 6 4).1 ≤ (0 : Int32).toInt ∧ (0 : Int32).toInt ≤ (tv_ti (tc_T v) 6 4).2 := ⟨tv_z0, tv_z1⟩
    refine wp_lda rfl tm_m1 ?_
    refine wq_con (x := 0) rfl (by decide) ?_
    refine wq_puti rfl rfl (f := 4) rfl rfl ?_
    refine wp_ldi rfl tm_m0 ?_
    refine wq_con (x := (-1)) rfl (by decide) ?_
    refine wq_icne rfl (fun h79 => ?_) (fun h79 => ?_)
    · have gq := hp1 h79
      rw [← ep1] at gq
      have g1 := tn_add1 (x := σ1.1 6 5) (by omega)
      have hTs : tv_TY (tc_T v) (tm_sI (tm_sI σ1 6 6 ((σ1.1 6 5) + 1)) 6 4 0) := tv_TY_sI (tv_TY_sI hT1 (by show (0 : Int) ≤ _; omega) (by show _ ≤ (800 : Int); omega)) gv.1 gv.2
      have hus : tv_un σ (tm_sI (tm_sI σ1 6 6 ((σ1.1 6 5) + 1)) 6 4 0) [(6, 3), (6, 4), (6, 5), (6, 6)] := (tv_un_tr (tv_un_tr (tv_un_tr hua (tv_un_mo hu1 (by decide))) (tv_un_fI rfl)) (tv_un_fI rfl))
      refine wp_ldi rfl tm_m0 ?_
      refine wq_cals [.int z1] rfl rfl rfl rfl rfl rfl (WM.deep (hletter [.int z1] (tm_sI (tm_sI σ1 6 6 ((σ1.1 6 5) + 1)) 6 4 0) ⟨⟨_, rfl, (tn_rng _).1, (tn_rng _).2⟩, trivial⟩ hTs) (by decide)) ?_
      rintro r2 σ2 hq2
      obtain ⟨hT2, hu2, hz2⟩ := tq_letter hq2
      obtain ⟨z2, rfl, hb2⟩ : ∃ z : Int32, r2 = some (.int z) ∧ (¬ z = 0 → 0 ≤ (z1).toInt) := by
        rcases hz2 with ⟨z, rfl, g1, g2⟩ | ⟨z, rfl, g1, g2, g3, g4⟩
        · exact ⟨z, rfl, fun e => absurd (Int32.toInt_inj.mp (by show z.toInt = 0; omega)) e⟩
        · exact ⟨z, rfl, fun e => by omega⟩
      have hx2 := tv_un_tr hus (tv_un_mo hu2 (w' := [(6, 3), (6, 4), (6, 5), (6, 6)]) (by decide))
      refine wq_ifeq rfl (fun h104 => ?_) (fun h104 => ?_)
      · refine wp_ldi rfl tm_m0 ?_
        refine wq_cals [.int z1] rfl rfl rfl rfl rfl rfl (WM.deep (hdigit [.int z1] σ2 ⟨⟨_, rfl, (tn_rng _).1, (tn_rng _).2⟩, trivial⟩ hT2) (by decide)) ?_
        rintro r3 σ3 hq3
        obtain ⟨hT3, hu3, hz3⟩ := tq_digit hq3
        obtain ⟨z3, rfl, hb3⟩ : ∃ z : Int32, r3 = some (.int z) ∧ (¬ z = 0 → 0 ≤ (z1).toInt) := by
          rcases hz3 with ⟨z, rfl, g1, g2⟩ | ⟨z, rfl, g1, g2, g3, g4⟩
          · exact ⟨z, rfl, fun e => absurd (Int32.toInt_inj.mp (by show z.toInt = 0; omega)) e⟩
          · exact ⟨z, rfl, fun e => by omega⟩
        have hx3 := tv_un_tr hx2 (tv_un_mo hu3 (w' := [(6, 3), (6, 4), (6, 5), (6, 6)]) (by decide))
        refine wq_ifeq rfl (fun h123 => ?_) (fun h123 => ?_)
        · refine wp_ldi rfl tm_m0 ?_
          refine wq_con (x := 61) rfl (by decide) ?_
          refine wq_icne rfl (fun h140 => ?_) (fun h140 => ?_)
          · refine wp_lda rfl tm_m1 ?_
            refine wp_ldi rfl tm_m0 ?_
            refine wq_con (x := 59) rfl (by decide) ?_
            refine wq_icne rfl (fun h157 => ?_) (fun h157 => ?_)
            · refine wp_gsE rfl ?_
              refine wq_putr rfl rfl (f := 3) rfl rfl ?_
              exact wp_retv rfl (tv_Qc1 (tv_TY_tok hT3 (by decide) (by decide)) (tv_un_tr hx3 (tv_un_fR rfl)) tv_rvn)
            · refine wp_gsE rfl ?_
              refine wp_go rfl ?_
              refine wq_putr rfl rfl (f := 3) rfl rfl ?_
              exact wp_retv rfl (tv_Qc1 (tv_TY_tok hT3 (by decide) (by decide)) (tv_un_tr hx3 (tv_un_fR rfl)) tv_rvn)
          · refine wp_lda rfl tm_m1 ?_
            refine wp_gsE rfl ?_
            refine wq_putr rfl rfl (f := 3) rfl rfl ?_
            refine wp_go rfl ?_
            exact wp_retv rfl (tv_Qc1 (tv_TY_tok hT3 (by decide) (by decide)) (tv_un_tr hx3 (tv_un_fR rfl)) tv_rvn)
        · refine wp_lda rfl tm_m1 ?_
          refine wp_lda rfl tm_m1 ?_
          refine wq_calv [] rfl rfl rfl rfl rfl rfl rfl rfl rfl (WM.deep (hnumb [.ref 6] σ3 ⟨⟨_, rfl, by decide, by decide⟩, trivial⟩ hT3) (by decide)) ?_
          rintro r4 σ4 hq4
          obtain ⟨hT4, hu4, hz4⟩ := tq_numb hq4
          obtain ⟨z4, rfl, hc4, hd4⟩ : ∃ z : Nat, r4 = some (.ref z) ∧ tt_EN ≤ z ∧ z ≤ tt_EN + 8 := by
            rcases hz4 with rfl | rfl <;> exact ⟨_, rfl, by decide, by decide⟩
          have hx4 := tv_un_tr hx3 (tv_un_mo hu4 (w' := [(6, 3), (6, 4), (6, 5), (6, 6)]) (by decide))
          refine wq_putr rfl rfl (f := 3) rfl rfl ?_
          refine wp_go rfl ?_
          exact wp_retv rfl (tv_Qc1 (tv_TY_tok hT4 (hc4) (hd4)) (tv_un_tr hx4 (tv_un_fR rfl)) tv_rvn)
      · refine wp_lda rfl tm_m1 ?_
        refine wp_lda rfl tm_m1 ?_
        refine wp_ldi rfl tm_m0 ?_
        refine wq_calv [.int z1] rfl rfl rfl rfl rfl rfl rfl rfl rfl (WM.deep (hword [.ref 6, .int z1] σ2 ⟨⟨_, rfl, by decide, by decide⟩, ⟨_, rfl, (tn_rng _).1, (tn_rng _).2⟩, trivial⟩ hT2) (by decide)) ?_
        rintro r5 σ5 hq5
        obtain ⟨hT5, hu5, hz5⟩ := tq_word hq5
        obtain ⟨z5, rfl, hc5, hd5⟩ : ∃ z : Nat, r5 = some (.ref z) ∧ tt_EN ≤ z ∧ z ≤ tt_EN + 8 := by
          rcases hz5 with rfl | rfl | rfl | rfl | ⟨rfl, -, -⟩ <;> exact ⟨_, rfl, by decide, by decide⟩
        have hx5 := tv_un_tr hx2 (tv_un_mo hu5 (w' := [(6, 3), (6, 4), (6, 5), (6, 6)]) (by decide))
        refine wq_putr rfl rfl (f := 3) rfl rfl ?_
        refine wp_go rfl ?_
        exact wp_retv rfl (tv_Qc1 (tv_TY_tok hT5 (hc5) (hd5)) (tv_un_tr hx5 (tv_un_fR rfl)) tv_rvn)
    · refine wp_lda rfl tm_m1 ?_
      refine wp_gsE rfl ?_
      refine wq_putr rfl rfl (f := 3) rfl rfl ?_
      refine wp_lda rfl tm_m1 ?_
      refine wp_lda rfl tm_m1 ?_
      refine wq_geti rfl rfl (f := 5) rfl rfl (Or.inl rfl) ?_
      refine wq_puti rfl rfl (f := 6) rfl rfl ?_
      refine wp_go rfl ?_
      exact wp_retv rfl (tv_Qc1 (tv_TX_at (tv_TX_tok (tv_TX_sI (tv_TX_self (tv_TX_of hT1)) gv.1 gv.2) (by decide) (by decide)) (gp.1) (gp.2)) (tv_un_tr (tv_un_tr (tv_un_tr (tv_un_tr (tv_un_tr hua (tv_un_mo hu1 (by decide))) (tv_un_fI rfl)) (tv_un_fI rfl)) (tv_un_fR rfl)) (tv_un_fI rfl)) tv_rvn)
  have k10 : ∀ (m : Nat) (i : Int32) (σa : tm_S), tv_TY (tc_T v) σa → tv_un σ σa [(6, 3), (6, 4), (6, 5), (6, 6)] → 0 ≤ i.toInt → 800 ≤ i.toInt + m → WP 50 99 10 [(1, .int i), (0, .ref 6)] [] σa (tv_Qc (tc_T v) (99, [(3, 6, 6)], [], [((0, 0, 0), [])], [(6, 3), (6, 4), (6, 5), (6, 6)], 50) [.ref 6] σ) := by
    intro m
    induction m with
    | zero =>
      intro i σa hTa hua h1 h2
      refine wp_ldi rfl tm_m0 ?_
      refine wq_con (x := 800) rfl (by decide) ?_
      refine wq_icge rfl (fun h14 => ?_) (fun h14 => absurd (tn_leI.mpr (by show (800 : Int) ≤ _; omega)) h14)
      exact k50 i _ hTa hua
    | succ m ih =>
      intro i σa hTa hua h1 h2
      refine wp_ldi rfl tm_m0 ?_
      refine wq_con (x := 800) rfl (by decide) ?_
      refine wq_icge rfl (fun h14 => ?_) (fun h14 => ?_)
      · exact k50 i _ hTa hua
      · have e14 : i.toInt < 800 := by rw [tn_leI] at h14; exact Int.not_le.mp h14
        have e2 := tn_add1 (x := i) (by omega)
        refine wp_lda rfl tm_m1 ?_
        refine wq_getr (p := 7) rfl rfl (f := 0) rfl rfl ?_
        refine wp_lda rfl tm_m1 ?_
        refine wq_geti rfl rfl (f := 5) rfl rfl (Or.inl rfl) ?_
        refine wq_calv [.int (σa.1 6 5)] rfl rfl rfl rfl rfl rfl rfl rfl rfl (WM.deep (hget7 [.ref 7, .int (σa.1 6 5)] σa ⟨⟨_, rfl, by decide, by decide⟩, ⟨_, rfl, (tn_rng _).1, (tn_rng _).2⟩, trivial⟩ hTa) (by decide)) ?_
        rintro r1 σ1 hq1
        obtain ⟨hT1, hu1, hz1⟩ := tq_get7 hq1
        obtain ⟨z1, rfl, hp1, hm1⟩ : ∃ z : Int32, r1 = some (.int z) ∧ (¬ z = -1 → 0 ≤ (σa.1 6 5).toInt ∧ (σa.1 6 5).toInt ≤ 799) ∧ (0 ≤ z.toInt → ¬ z = -1) := by
          rcases hz1 with ⟨z, rfl, g1, g2⟩ | ⟨z, rfl, g1, g2, g3, g4⟩
          · exact ⟨z, rfl, fun e => absurd (Int32.toInt_inj.mp (by show z.toInt = -1; omega)) e, fun h => by omega⟩
          · exact ⟨z, rfl, fun _ => ⟨g3, g4⟩, fun _ e => by rw [e] at g1; exact absurd g1 (by decide)⟩
        have ep1 : σ1.1 6 5 = (σa).1 6 5 := tv_un_i hu1 rfl rfl
        refine wq_cals [.int z1] rfl rfl rfl rfl rfl rfl (WM.deep (hblank [.int z1] σ1 ⟨⟨_, rfl, (tn_rng _).1, (tn_rng _).2⟩, trivial⟩ hT1) (by decide)) ?_
        rintro r2 σ2 hq2
        obtain ⟨hT2, hu2, hz2⟩ := tq_blank hq2
        obtain ⟨z2, rfl, hb2⟩ : ∃ z : Int32, r2 = some (.int z) ∧ (¬ z = 0 → 0 ≤ (z1).toInt) := by
          rcases hz2 with ⟨z, rfl, g1, g2, g3, g4⟩ | ⟨z, rfl, g1, g2⟩
          · exact ⟨z, rfl, fun e => by omega⟩
          · exact ⟨z, rfl, fun e => absurd (Int32.toInt_inj.mp (by show z.toInt = 0; omega)) e⟩
        have ep2 : σ2.1 6 5 = σ1.1 6 5 := tv_un_i hu2 rfl rfl
        refine wq_ifeq rfl (fun h31 => ?_) (fun h31 => ?_)
        · exact k50 i _ hT2 (tv_un_tr (tv_un_tr hua (tv_un_mo hu1 (by decide))) (tv_un_mo hu2 (by decide)))
        · have gq := hp1 (hm1 (hb2 h31))
          rw [← ep1, ← ep2] at gq
          have g1 := tn_add1 (x := σ2.1 6 5) (by omega)
          refine wp_lda rfl tm_m1 ?_
          refine wp_dup rfl rfl ?_
          refine wq_geti rfl rfl (f := 5) rfl rfl (Or.inl rfl) ?_
          refine wq_con (x := 1) rfl (by decide) ?_
          refine wq_iadd rfl ?_
          refine wq_puti rfl rfl (f := 5) rfl rfl ?_
          refine wq_inc (c := 1) [(1, .int (i + 1)), (0, .ref 6)] rfl tm_m0 rfl rfl ?_
          refine wp_go rfl ?_
          exact WP.less (ih (i + 1) _ (tv_TY_sI hT2 (by show (0 : Int) ≤ _; omega) (by show _ ≤ (800 : Int); omega)) (tv_un_tr (tv_un_tr (tv_un_tr hua (tv_un_mo hu1 (by decide))) (tv_un_mo hu2 (by decide))) (tv_un_fI rfl)) (by omega) (by omega)) (by simp)
  show WP 50 99 0 [(0, .ref 6)] [] σ _
  have gn : 0 ≤ (σ.1 6 6).toInt ∧ (σ.1 6 6).toInt ≤ 800 := hT.1 6 6
  refine wp_lda rfl tm_m0 ?_
  refine wp_lda rfl tm_m0 ?_
  refine wq_geti rfl rfl (f := 6) rfl rfl (Or.inl rfl) ?_
  refine wq_puti rfl rfl (f := 5) rfl rfl ?_
  refine wq_con (x := 0) rfl (by decide) ?_
  refine wq_sti [(1, .int 0), (0, .ref 6)] rfl rfl ?_
  exact WP.less (k10 800 0 _ (tv_TY_sI hT gn.1 gn.2) (tv_un_fI rfl) (by decide) (by decide)) (by simp)
