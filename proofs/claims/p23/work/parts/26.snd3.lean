/-! ===== indexOf, advance ===== -/
set_option maxRecDepth 100000 in
set_option maxHeartbeats 4000000 in
theorem th_can {d : Nat} {σ : tm_S} {c : Int32} : WM d 126 [.int c] σ (fun r σ' => (r = some (.int 0) ∨ r = some (.int 1)) ∧ σ = σ') := by
  show WP d 126 0 [(0, .int c)] [] σ _
  refine wp_ldi rfl tm_m0 ?_
  refine wq_iflt rfl (fun h1 => ?_) (fun h1 => ?_)
  · refine wq_con (x := 0) rfl (by decide) ?_
    exact wp_reti rfl (th_n0 rfl) ⟨Or.inl rfl, rfl⟩
  · refine wp_ldi rfl tm_m0 ?_
    refine wq_con (x := 255) rfl (by decide) ?_
    refine wq_icgt rfl (fun h8 => ?_) (fun h8 => ?_)
    · refine wq_con (x := 0) rfl (by decide) ?_
      exact wp_reti rfl (th_n0 rfl) ⟨Or.inl rfl, rfl⟩
    · refine wq_con (x := 1) rfl (by decide) ?_
      refine wp_go rfl ?_
      exact wp_reti rfl (th_n1 rfl) ⟨Or.inr rfl, rfl⟩
set_option maxRecDepth 100000 in
set_option maxHeartbeats 4000000 in
theorem th_ioc_l {d : Nat} {σ : tm_S} {q : Nat} (hq : q < tt_NS) {c e f t : Int32} (hn : tt_len.getD q 0 ≤ 100) (ht : t.toInt ≤ (tt_len.getD q 0 : Nat)) : ∀ (m : Nat) (i : Int32), 0 ≤ i.toInt → t.toInt ≤ i.toInt + m → WP d 127 7 [(5, .int i), (4, .int e), (0, .ref (tt_SV + q)), (1, .int c), (2, .int f), (3, .int t)] [] σ (fun r σ' => (∃ z : Int32, r = some (.int z) ∧ -1 ≤ z.toInt ∧ z.toInt < (tt_len.getD q 0 : Nat)) ∧ σ = σ') := by
  intro m
  induction m with
  | zero =>
    intro i h1 h2
    refine wp_ldi rfl tm_m0 ?_
    refine wp_ldi rfl tm_m5 ?_
    refine wq_icge rfl (fun h10 => ?_) (fun h10 => absurd (tn_leI.mpr (by omega)) h10)
    refine wq_con (x := (-1)) rfl (by decide) ?_
    exact wp_reti rfl (th_nI rfl) ⟨⟨_, rfl, by decide, by show (-1 : Int) < _; omega⟩, rfl⟩
  | succ m ih =>
    intro i h1 h2
    refine wp_ldi rfl tm_m0 ?_
    refine wp_ldi rfl tm_m5 ?_
    refine wq_icge rfl (fun h10 => ?_) (fun h10 => ?_)
    · refine wq_con (x := (-1)) rfl (by decide) ?_
      exact wp_reti rfl (th_nI rfl) ⟨⟨_, rfl, by decide, by show (-1 : Int) < _; omega⟩, rfl⟩
    · have e10 : i.toInt < t.toInt := by rw [tn_leI] at h10; omega
      have e2 := tn_add1 (x := i) (by omega)
      refine wp_lda rfl tm_m2 ?_
      refine wp_ldi rfl tm_m0 ?_
      refine wp_sald rfl hq (tn_in (by omega) (by omega)) ?_
      refine wp_ldi rfl tm_m1 ?_
      refine wq_icne rfl (fun h19 => ?_) (fun h19 => ?_)
      · refine wq_inc (c := 1) [(5, .int (i + 1)), (4, .int e), (0, .ref (tt_SV + q)), (1, .int c), (2, .int f), (3, .int t)] rfl tm_m0 rfl rfl ?_
        refine wp_go rfl ?_
        exact WP.less (ih (i + 1) (by omega) (by omega)) (by simp)
      · refine wp_ldi rfl tm_m0 ?_
        exact wp_reti rfl (th_nI rfl) ⟨⟨_, rfl, by omega, by omega⟩, rfl⟩
set_option maxRecDepth 100000 in
set_option maxHeartbeats 4000000 in
theorem th_ioc {d : Nat} {σ : tm_S} {q : Nat} (hq : q < tt_NS) {c f t : Int32} (hn : tt_len.getD q 0 ≤ 100) (hf : 0 ≤ f.toInt) (ht : t.toInt ≤ (tt_len.getD q 0 : Nat)) : WM d 127 [.ref (tt_SV + q), .int c, .int f, .int t] σ (fun r σ' => (∃ z : Int32, r = some (.int z) ∧ -1 ≤ z.toInt ∧ z.toInt < (tt_len.getD q 0 : Nat)) ∧ σ = σ') := by
  show WP d 127 0 [(0, .ref (tt_SV + q)), (1, .int c), (2, .int f), (3, .int t)] [] σ _
  refine wp_ldi rfl tm_m1 ?_
  refine wp_i2b rfl ?_
  refine wq_sti [(4, .int (c.toInt8.toInt32)), (0, .ref (tt_SV + q)), (1, .int c), (2, .int f), (3, .int t)] rfl rfl ?_
  refine wp_ldi rfl tm_m3 ?_
  refine wq_sti [(5, .int f), (4, .int (c.toInt8.toInt32)), (0, .ref (tt_SV + q)), (1, .int c), (2, .int f), (3, .int t)] rfl rfl ?_
  exact WP.less (th_ioc_l (c := c) (e := c.toInt8.toInt32) (f := f) hq hn ht 100 f hf (by omega)) (by simp)
set_option maxRecDepth 100000 in
set_option maxHeartbeats 4000000 in
theorem th_io4 {d : Nat} {σ : tm_S} {q : Nat} (hq : q < tt_NS) {c : Int32} (hn : tt_len.getD q 0 ≤ 100) : WM (d + 1) 125 [.ref (tt_SV + q), .int c, .int 0, .int (Int32.ofNat (tt_len.getD q 0))] σ (fun r σ' => (∃ z : Int32, r = some (.int z) ∧ -1 ≤ z.toInt ∧ z.toInt < (tt_len.getD q 0 : Nat)) ∧ σ = σ') := by
  have eL : (Int32.ofNat (tt_len.getD q 0)).toInt = (tt_len.getD q 0 : Nat) := tn_ofNat (by omega)
  show WP (d + 1) 125 0 [(0, .ref (tt_SV + q)), (1, .int c), (2, .int 0), (3, .int (Int32.ofNat (tt_len.getD q 0)))] [] σ _
  refine wp_ldi rfl tm_m1 ?_
  refine wq_cals [.int c] rfl rfl rfl rfl rfl rfl (th_can) ?_
  rintro r0 _ ⟨hr0, rfl⟩
  obtain ⟨z0, rfl⟩ : ∃ z : Int32, r0 = some (.int z) := by rcases hr0 with rfl | rfl <;> exact ⟨_, rfl⟩
  refine wq_ifne rfl (fun h4 => ?_) (fun h4 => ?_)
  · refine wp_ldi rfl tm_m2 ?_
    refine wq_con (x := 0) rfl (by decide) ?_
    refine wp_mmax rfl (by omega) (by decide) ?_
    rw [ite_self]
    refine wq_sti [(2, .int 0), (0, .ref (tt_SV + q)), (1, .int c), (3, .int (Int32.ofNat (tt_len.getD q 0)))] rfl rfl ?_
    refine wp_ldi rfl tm_m3 ?_
    refine wp_lda rfl tm_m1 ?_
    refine wp_slen rfl hq ?_
    refine wp_mmin rfl (by omega) (by decide) ?_
    rw [ite_self]
    refine wq_sti [(3, .int (Int32.ofNat (tt_len.getD q 0))), (2, .int 0), (0, .ref (tt_SV + q)), (1, .int c)] rfl rfl ?_
    refine wp_ldi rfl tm_m1 ?_
    refine wp_ldi rfl tm_m0 ?_
    refine wq_iclt rfl (fun h24 => ?_) (fun h24 => ?_)
    · refine wp_lda rfl tm_m2 ?_
      refine wp_ldi rfl tm_m3 ?_
      refine wp_ldi rfl tm_m1 ?_
      refine wp_ldi rfl tm_m0 ?_
      refine wq_cals [.ref (tt_SV + q), .int c, .int 0, .int (Int32.ofNat (tt_len.getD q 0))] rfl rfl rfl rfl rfl rfl (th_ioc hq hn (by decide) (by rw [eL]; omega)) ?_
      rintro _ _ ⟨⟨z1, rfl, g1, g2⟩, rfl⟩
      exact wp_reti rfl (th_nI rfl) ⟨⟨_, rfl, g1, g2⟩, rfl⟩
    · refine wq_con (x := (-1)) rfl (by decide) ?_
      exact wp_reti rfl (th_nI rfl) ⟨⟨_, rfl, by decide, by show (-1 : Int) < _; omega⟩, rfl⟩
  · refine wq_con (x := (-1)) rfl (by decide) ?_
    exact wp_reti rfl (th_nI rfl) ⟨⟨_, rfl, by decide, by show (-1 : Int) < _; omega⟩, rfl⟩
set_option maxRecDepth 100000 in
set_option maxHeartbeats 4000000 in
theorem th_io3 {d : Nat} {σ : tm_S} {q : Nat} (hq : q < tt_NS) {c : Int32} (hn : tt_len.getD q 0 ≤ 100) : WM (d + 2) 124 [.ref (tt_ST + q), .int c, .int 0] σ (fun r σ' => (∃ z : Int32, r = some (.int z) ∧ -1 ≤ z.toInt ∧ z.toInt < (tt_len.getD q 0 : Nat)) ∧ σ = σ') := by
  show WP (d + 2) 124 0 [(0, .ref (tt_ST + q)), (1, .int c), (2, .int 0)] [] σ _
  refine wp_lda rfl tm_m0 ?_
  refine wq_calS [] rfl rfl rfl rfl rfl rfl rfl hq (th_isL hq) ?_
  rintro _ _ ⟨rfl, rfl⟩
  refine wq_ifeq rfl (fun h4 => absurd h4 (by decide)) (fun h4 => ?_)
  refine wp_lda rfl tm_m0 ?_
  refine wp_sfV rfl hq ?_
  refine wp_ldi rfl tm_m1 ?_
  refine wp_ldi rfl tm_m2 ?_
  refine wp_lda rfl tm_m0 ?_
  refine wq_calS [] rfl rfl rfl rfl rfl rfl rfl hq (th_len hq) ?_
  rintro _ _ ⟨rfl, rfl⟩
  refine wq_cals [.ref (tt_SV + q), .int c, .int 0, .int (Int32.ofNat (tt_len.getD q 0))] rfl rfl rfl rfl rfl rfl (th_io4 hq hn) ?_
  rintro _ _ ⟨⟨z1, rfl, g1, g2⟩, rfl⟩
  refine wp_go rfl ?_
  exact wp_reti rfl (th_nI rfl) ⟨⟨_, rfl, g1, g2⟩, rfl⟩
set_option maxRecDepth 100000 in
set_option maxHeartbeats 4000000 in
theorem th_io2 {d : Nat} {σ : tm_S} {q : Nat} (hq : q < tt_NS) {c : Int32} (hn : tt_len.getD q 0 ≤ 100) : WM (d + 3) 123 [.ref (tt_ST + q), .int c] σ (fun r σ' => (∃ z : Int32, r = some (.int z) ∧ -1 ≤ z.toInt ∧ z.toInt < (tt_len.getD q 0 : Nat)) ∧ σ = σ') := by
  show WP (d + 3) 123 0 [(0, .ref (tt_ST + q)), (1, .int c)] [] σ _
  refine wp_lda rfl tm_m0 ?_
  refine wp_ldi rfl tm_m1 ?_
  refine wq_con (x := 0) rfl (by decide) ?_
  refine wq_calS [.int c, .int 0] rfl rfl rfl rfl rfl rfl rfl hq (th_io3 hq hn) ?_
  rintro _ _ ⟨⟨z1, rfl, g1, g2⟩, rfl⟩
  exact wp_reti rfl (th_nI rfl) ⟨⟨_, rfl, g1, g2⟩, rfl⟩
set_option maxRecDepth 100000 in
set_option maxHeartbeats 4000000 in
theorem ts_io0 {v : Int}  : tv_Snd (tc_T v) (123, [(3, 85, 85), (1, 0, 255)], [], [((1, (-1), 3), [])], [], 40) := by
  intro As σ hva hT
  obtain ⟨x0, x1, rfl, h0, h1⟩ := tv_va2 hva
  obtain ⟨k0, rfl, l0, u0⟩ := h0
  obtain rfl : k0 = 85 := by omega
  obtain ⟨a1, rfl, l1, u1⟩ := h1
  refine WM.mono (th_io2 (q := 3) (d := 37) (by decide) (c := a1) (by decide)) ?_
  rintro r σ1 ⟨⟨z, rfl, g1, g2⟩, rfl⟩
  exact tv_Qc1 hT tv_un_rf (tv_rvi g1 (by have g3 : z.toInt < (4 : Nat) := g2; omega))
def tz_blank : tv_C := (101, [(1, (-2147483648), 2147483647)], [], [((1, 1, 1), [(0, 10, 32)]), ((1, 0, 0), [])], [], 49)
theorem tq_blank {T : tv_TT} {a0 : Int32} {σ σ' : tm_S} {r : Option Value} (h : tv_Qc T tz_blank [.int a0] σ r σ') : tv_TY T σ' ∧ tv_un σ σ' [] ∧ ((∃ z : Int32, r = some (.int z) ∧ 1 ≤ z.toInt ∧ z.toInt ≤ 1 ∧ 10 ≤ a0.toInt ∧ a0.toInt ≤ 32) ∨ (∃ z : Int32, r = some (.int z) ∧ 0 ≤ z.toInt ∧ z.toInt ≤ 0)) := by
  obtain ⟨h1, h2, q, hq, hr, hn⟩ := h
  refine ⟨h1, h2, ?_⟩
  change q ∈ [((1, 1, 1), [(0, 10, 32)]), ((1, 0, 0), [])] at hq
  simp only [List.mem_cons, List.not_mem_nil, or_false] at hq
  rcases hq with rfl | rfl
  · obtain ⟨y0, e0, l0, u0⟩ := hn (0, 10, 32) tm_m0
    cases e0
    rcases hr with ⟨e, -⟩ | ⟨x, rfl, hx⟩
    · cases e
    · obtain ⟨z, rfl, g1, g2⟩ := hx
      exact Or.inl (⟨z, rfl, g1, g2, l0, u0⟩)
  · rcases hr with ⟨e, -⟩ | ⟨x, rfl, hx⟩
    · cases e
    · obtain ⟨z, rfl, g1, g2⟩ := hx
      exact Or.inr (⟨z, rfl, g1, g2⟩)
def tz_letter : tv_C := (102, [(1, (-2147483648), 2147483647)], [], [((1, 0, 0), []), ((1, 1, 1), [(0, 65, 122)])], [], 49)
theorem tq_letter {T : tv_TT} {a0 : Int32} {σ σ' : tm_S} {r : Option Value} (h : tv_Qc T tz_letter [.int a0] σ r σ') : tv_TY T σ' ∧ tv_un σ σ' [] ∧ ((∃ z : Int32, r = some (.int z) ∧ 0 ≤ z.toInt ∧ z.toInt ≤ 0) ∨ (∃ z : Int32, r = some (.int z) ∧ 1 ≤ z.toInt ∧ z.toInt ≤ 1 ∧ 65 ≤ a0.toInt ∧ a0.toInt ≤ 122)) := by
  obtain ⟨h1, h2, q, hq, hr, hn⟩ := h
  refine ⟨h1, h2, ?_⟩
  change q ∈ [((1, 0, 0), []), ((1, 1, 1), [(0, 65, 122)])] at hq
  simp only [List.mem_cons, List.not_mem_nil, or_false] at hq
  rcases hq with rfl | rfl
  · rcases hr with ⟨e, -⟩ | ⟨x, rfl, hx⟩
    · cases e
    · obtain ⟨z, rfl, g1, g2⟩ := hx
      exact Or.inl (⟨z, rfl, g1, g2⟩)
  · obtain ⟨y0, e0, l0, u0⟩ := hn (0, 65, 122) tm_m0
    cases e0
    rcases hr with ⟨e, -⟩ | ⟨x, rfl, hx⟩
    · cases e
    · obtain ⟨z, rfl, g1, g2⟩ := hx
      exact Or.inr (⟨z, rfl, g1, g2, l0, u0⟩)
def tz_digit : tv_C := (112, [(1, (-2147483648), 2147483647)], [], [((1, 0, 0), []), ((1, 1, 1), [(0, 48, 57)])], [], 49)
theorem tq_digit {T : tv_TT} {a0 : Int32} {σ σ' : tm_S} {r : Option Value} (h : tv_Qc T tz_digit [.int a0] σ r σ') : tv_TY T σ' ∧ tv_un σ σ' [] ∧ ((∃ z : Int32, r = some (.int z) ∧ 0 ≤ z.toInt ∧ z.toInt ≤ 0) ∨ (∃ z : Int32, r = some (.int z) ∧ 1 ≤ z.toInt ∧ z.toInt ≤ 1 ∧ 48 ≤ a0.toInt ∧ a0.toInt ≤ 57)) := by
  obtain ⟨h1, h2, q, hq, hr, hn⟩ := h
  refine ⟨h1, h2, ?_⟩
  change q ∈ [((1, 0, 0), []), ((1, 1, 1), [(0, 48, 57)])] at hq
  simp only [List.mem_cons, List.not_mem_nil, or_false] at hq
  rcases hq with rfl | rfl
  · rcases hr with ⟨e, -⟩ | ⟨x, rfl, hx⟩
    · cases e
    · obtain ⟨z, rfl, g1, g2⟩ := hx
      exact Or.inl (⟨z, rfl, g1, g2⟩)
  · obtain ⟨y0, e0, l0, u0⟩ := hn (0, 48, 57) tm_m0
    cases e0
    rcases hr with ⟨e, -⟩ | ⟨x, rfl, hx⟩
    · cases e
    · obtain ⟨z, rfl, g1, g2⟩ := hx
      exact Or.inr (⟨z, rfl, g1, g2, l0, u0⟩)
def tz_word : tv_C := (103, [(3, 6, 6), (1, 0, 255)], [], [((3, 81, 81), []), ((3, 75, 75), []), ((3, 74, 74), []), ((3, 73, 73), []), ((3, 76, 76), [(1, 97, 255)])], [(6, 4), (6, 6)], 49)
theorem tq_word {T : tv_TT} {a1 : Int32} {σ σ' : tm_S} {r : Option Value} (h : tv_Qc T tz_word [.ref 6, .int a1] σ r σ') : tv_TY T σ' ∧ tv_un σ σ' [(6, 4), (6, 6)] ∧ ((r = some (.ref 81)) ∨ (r = some (.ref 75)) ∨ (r = some (.ref 74)) ∨ (r = some (.ref 73)) ∨ (r = some (.ref 76) ∧ 97 ≤ a1.toInt ∧ a1.toInt ≤ 255)) := by
  obtain ⟨h1, h2, q, hq, hr, hn⟩ := h
  refine ⟨h1, h2, ?_⟩
  change q ∈ [((3, 81, 81), []), ((3, 75, 75), []), ((3, 74, 74), []), ((3, 73, 73), []), ((3, 76, 76), [(1, 97, 255)])] at hq
  simp only [List.mem_cons, List.not_mem_nil, or_false] at hq
  rcases hq with rfl | rfl | rfl | rfl | rfl
  · rcases hr with ⟨e, -⟩ | ⟨x, rfl, hx⟩
    · cases e
    · obtain ⟨z, rfl, g1, g2⟩ := hx
      obtain rfl : z = 81 := by omega
      exact Or.inl (rfl)
  · rcases hr with ⟨e, -⟩ | ⟨x, rfl, hx⟩
    · cases e
    · obtain ⟨z, rfl, g1, g2⟩ := hx
      obtain rfl : z = 75 := by omega
      exact Or.inr (Or.inl (rfl))
  · rcases hr with ⟨e, -⟩ | ⟨x, rfl, hx⟩
    · cases e
    · obtain ⟨z, rfl, g1, g2⟩ := hx
      obtain rfl : z = 74 := by omega
      exact Or.inr (Or.inr (Or.inl (rfl)))
  · rcases hr with ⟨e, -⟩ | ⟨x, rfl, hx⟩
    · cases e
    · obtain ⟨z, rfl, g1, g2⟩ := hx
      obtain rfl : z = 73 := by omega
      exact Or.inr (Or.inr (Or.inr (Or.inl (rfl))))
  · obtain ⟨y0, e0, l0, u0⟩ := hn (1, 97, 255) tm_m0
    cases e0
    rcases hr with ⟨e, -⟩ | ⟨x, rfl, hx⟩
    · cases e
    · obtain ⟨z, rfl, g1, g2⟩ := hx
      obtain rfl : z = 76 := by omega
      exact Or.inr (Or.inr (Or.inr (Or.inr (⟨rfl, l0, u0⟩))))
/-- the types hold but at one field -/
def tv_TX (T : tv_TT) (p q : Nat) (σ : tm_S) : Prop := (∀ k j : Nat, ¬ (k = p ∧ j = q) → (tv_ti T k j).1 ≤ (σ.1 k j).toInt ∧ (σ.1 k j).toInt ≤ (tv_ti T k j).2) ∧ ∀ w ∈ tv_rt, w.2.1 ≤ σ.2.2 w.1.1 w.1.2 ∧ σ.2.2 w.1.1 w.1.2 ≤ w.2.2.1
theorem tv_TX_of {T : tv_TT} {p q : Nat} {σ : tm_S} (h : tv_TY T σ) : tv_TX T p q σ := ⟨fun k j _ => h.1 k j, h.2⟩
theorem tv_TX_at {T : tv_TT} {p q : Nat} {σ : tm_S} {x : Int32} (h : tv_TX T p q σ) (h1 : (tv_ti T p q).1 ≤ x.toInt) (h2 : x.toInt ≤ (tv_ti T p q).2) : tv_TY T (tm_sI σ p q x) := by
  refine ⟨fun k j => ?_, h.2⟩
  rw [tm_gI]
  split
  · rename_i e
    rw [e.1, e.2]
    exact ⟨h1, h2⟩
  · rename_i e
    exact h.1 k j e
theorem tv_TX_self {T : tv_TT} {p q : Nat} {σ : tm_S} {x : Int32} (h : tv_TX T p q σ) : tv_TX T p q (tm_sI σ p q x) := by
  refine ⟨fun k j e => ?_, h.2⟩
  rw [tm_gI, if_neg e]
  exact h.1 k j e
theorem tv_TX_sI {T : tv_TT} {p q a b : Nat} {σ : tm_S} {x : Int32} (h : tv_TX T p q σ) (h1 : (tv_ti T a b).1 ≤ x.toInt) (h2 : x.toInt ≤ (tv_ti T a b).2) : tv_TX T p q (tm_sI σ a b x) := by
  refine ⟨fun k j e => ?_, h.2⟩
  rw [tm_gI]
  split
  · rename_i e
    rw [e.1, e.2]
    exact ⟨h1, h2⟩
  · exact h.1 k j e
theorem tm_gR (σ : tm_S) (k j v a b : Nat) : (tm_sR σ k j v).2.2 a b = if a = k ∧ b = j then v else σ.2.2 a b := by
  show (if a = k then (fun i => if i = j then v else σ.2.2 k i) else σ.2.2 a) b = _
  by_cases ha : a = k
  · subst ha
    rw [if_pos rfl]
    by_cases hb : b = j
    · rw [if_pos hb, if_pos ⟨rfl, hb⟩]
    · rw [if_neg hb, if_neg (fun e => hb e.2)]
  · rw [if_neg ha, if_neg (fun e => ha e.1)]
/-- the reader's token is one of the nine -/
theorem tv_TX_tok {T : tv_TT} {p q x : Nat} {σ : tm_S} (h : tv_TX T p q σ) (h1 : tt_EN ≤ x) (h2 : x ≤ tt_EN + 8) : tv_TX T p q (tm_sR σ 6 3 x) := by
  refine ⟨h.1, fun w hw => ?_⟩
  rw [tm_gR]
  split
  · rename_i e
    have h3 : ∀ w ∈ tv_rt, w.1.1 = 6 ∧ w.1.2 = 3 → w.2.1 = tt_EN ∧ w.2.2.1 = tt_EN + 8 := by decide
    obtain ⟨e1, e2⟩ := h3 w hw e
    rw [e1, e2]
    exact ⟨h1, h2⟩
  · exact h.2 w hw
theorem tv_TY_tok {T : tv_TT} {x : Nat} {σ : tm_S} (h : tv_TY T σ) (h1 : tt_EN ≤ x) (h2 : x ≤ tt_EN + 8) : tv_TY T (tm_sR σ 6 3 x) := by
  have h3 := tv_TX_tok (p := 6) (q := 0) (tv_TX_of h) h1 h2
  exact ⟨h.1, h3.2⟩
theorem tv_un_fR {σ : tm_S} {p k x : Nat} {w : List (Nat × Nat)} (hm : tv_mem w p k = true) : tv_un σ (tm_sR σ p k x) w := by
  refine ⟨fun a i kd h1 h2 => ?_, fun _ _ _ _ => ⟨rfl, rfl⟩⟩
  match kd with
  | 0 => rfl
  | 1 => rfl
  | 2 => rfl
  | 3 =>
    show Value.ref _ = Value.ref _
    rw [tm_gR, if_neg (fun e => by rw [e.1, e.2, hm] at h2; cases h2)]
  | p + 4 => rfl
theorem tv_un_i {a b : tm_S} {w : List (Nat × Nat)} {k j : Nat} (h : tv_un a b w) (hk : tv_kd k j = some 0) (hm : tv_mem w k j = false) : b.1 k j = a.1 k j := Value.int.inj (h.1 k j 0 hk hm)
/-- what stands at i of the tape -/
def th_g (σ : tm_S) (i : Int32) : Int32 := if 0 ≤ i.toInt ∧ i.toInt < (σ.1 7 1).toInt then σ.1 29 i.toNatClampNeg else -1
theorem th_g_ne {v : Int} {σ : tm_S} {i : Int32} (hT : tv_TY (tc_T v) σ) (h : ¬ th_g σ i = -1) : 0 ≤ i.toInt ∧ i.toInt ≤ 799 := by
  have g : (σ.1 7 1).toInt ≤ 800 := (hT.1 7 1).2
  unfold th_g at h
  by_cases hc : 0 ≤ i.toInt ∧ i.toInt < (σ.1 7 1).toInt
  · omega
  · rw [if_neg hc] at h
    exact absurd rfl h
theorem th_g_rng {v : Int} {σ : tm_S} {i : Int32} (hT : tv_TY (tc_T v) σ) : -1 ≤ (th_g σ i).toInt ∧ (th_g σ i).toInt ≤ 255 := by
  unfold th_g
  split
  · have g : 0 ≤ (σ.1 29 i.toNatClampNeg).toInt ∧ (σ.1 29 i.toNatClampNeg).toInt ≤ 255 := hT.1 29 _
    omega
  · exact ⟨by decide, by decide⟩
set_option maxRecDepth 100000 in
set_option maxHeartbeats 4000000 in
theorem th_get7 {d : Nat} {v : Int} {i : Int32} {σ : tm_S} (hT : tv_TY (tc_T v) σ) : WM d 100 [.ref 7, .int i] σ (th_is (.int (th_g σ i)) σ) := by
  have g : (σ.1 7 1).toInt ≤ 800 := (hT.1 7 1).2
  show WP d 100 0 [(0, .ref 7), (1, .int i)] [] σ _
  refine wp_ldi rfl tm_m1 ?_
  refine wq_iflt rfl (fun h1 => ?_) (fun h1 => ?_)
  · have g1 : (i).toInt < 0 := tn_ltI.mp h1
    refine wq_con (x := (-1)) rfl (by decide) ?_
    exact wp_reti rfl (th_nI rfl) ⟨by unfold th_g; rw [if_neg (by omega)], rfl⟩
  · have g1 : ¬ (i).toInt < 0 := fun g => h1 (tn_ltI.mpr g)
    refine wp_ldi rfl tm_m1 ?_
    refine wp_lda rfl tm_m0 ?_
    refine wq_geti rfl rfl (f := 1) rfl rfl (Or.inl rfl) ?_
    refine wq_icge rfl (fun h9 => ?_) (fun h9 => ?_)
    · have g9 : (σ.1 7 1).toInt ≤ (i).toInt := tn_leI.mp h9
      refine wq_con (x := (-1)) rfl (by decide) ?_
      exact wp_reti rfl (th_nI rfl) ⟨by unfold th_g; rw [if_neg (by omega)], rfl⟩
    · have g9 : ¬ (σ.1 7 1).toInt ≤ (i).toInt := fun g => h9 (tn_leI.mpr g)
      refine wp_lda rfl tm_m0 ?_
      refine wq_getr (p := 29) rfl rfl (f := 0) rfl rfl ?_
      refine wp_ldi rfl tm_m1 ?_
      refine wp_iald rfl rfl (tn_in (by omega) (by omega)) ?_
      refine wp_go rfl ?_
      exact wp_reti rfl (th_nI rfl) ⟨by unfold th_g; rw [if_pos ⟨by omega, by omega⟩], rfl⟩
set_option maxRecDepth 100000 in
set_option maxHeartbeats 4000000 in
theorem th_xdig {d : Nat} {c : Int32} {σ : tm_S} : WM d 112 [.int c] σ (fun r σ' => ((r = some (.int 1) ∧ 48 ≤ c.toInt ∧ c.toInt ≤ 57) ∨ r = some (.int 0)) ∧ σ = σ') := by
  show WP d 112 0 [(0, .int c)] [] σ _
  refine wp_ldi rfl tm_m0 ?_
  refine wq_con (x := 48) rfl (by decide) ?_
  refine wq_iclt rfl (fun h3 => ?_) (fun h3 => ?_)
  · have g3 : (c).toInt < 48 := tn_ltI.mp h3
    refine wq_con (x := 0) rfl (by decide) ?_
    exact wp_reti rfl (th_n0 rfl) ⟨Or.inr rfl, rfl⟩
  · have g3 : ¬ (c).toInt < 48 := fun g => h3 (tn_ltI.mpr g)
    refine wp_ldi rfl tm_m0 ?_
    refine wq_con (x := 57) rfl (by decide) ?_
    refine wq_icgt rfl (fun h9 => ?_) (fun h9 => ?_)
    · have g9 : 57 < (c).toInt := tn_ltI.mp h9
      refine wq_con (x := 0) rfl (by decide) ?_
      exact wp_reti rfl (th_n0 rfl) ⟨Or.inr rfl, rfl⟩
    · have g9 : ¬ 57 < (c).toInt := fun g => h9 (tn_ltI.mpr g)
      refine wq_con (x := 1) rfl (by decide) ?_
      refine wp_go rfl ?_
      exact wp_reti rfl (th_n1 rfl) ⟨Or.inl ⟨rfl, by omega, by omega⟩, rfl⟩
set_option maxRecDepth 100000 in
set_option maxHeartbeats 4000000 in
theorem th_rnum {d : Nat} {v : Int} {s : tm_S} (hT : tv_TY (tc_T v) s) (hn : s.1 6 6 = s.1 6 5 + 1) (hp : (s.1 6 5).toInt ≤ 799) (hv : s.1 6 4 = 0) (hd : 48 ≤ (th_g s (s.1 6 5)).toInt ∧ (th_g s (s.1 6 5)).toInt ≤ 57) : WM (d + 1) 113 [.ref 6] s (fun r s' => (∃ z : Nat, r = some (.ref z) ∧ tt_EN ≤ z ∧ z ≤ tt_EN + 8) ∧ tv_TY (tc_T v) s' ∧ tv_un s s' [(6, 4), (6, 6)]) := by
  have hp0 : 0 ≤ (s.1 6 5).toInt := (hT.1 6 5).1
  have hn1 : (s.1 6 6).toInt = (s.1 6 5).toInt + 1 := by rw [hn, tn_add1 (by omega)]
  have hgs : ∀ t : tm_S, tv_un s t [(6, 4), (6, 6)] → th_g t = th_g s := by
    intro t h
    funext i
    unfold th_g
    rw [tv_un_i h (k := 7) (j := 1) rfl rfl, (tv_un_a h (k := 29) rfl rfl).1]
  have hpl : ∀ t : tm_S, tv_un s t [(6, 4), (6, 6)] → t.1 6 5 = s.1 6 5 := fun t h => tv_un_i h rfl rfl
  have k64 : ∀ (m : Nat) (i : Int32) (t : tm_S), tv_TY (tc_T v) t → tv_un s t [(6, 4), (6, 6)] → (t.1 6 6).toInt ≤ (s.1 6 5).toInt + 2 → (∀ k : Int32, (s.1 6 5).toInt ≤ k.toInt → k.toInt < (t.1 6 6).toInt → 48 ≤ (th_g s k).toInt ∧ (th_g s k).toInt ≤ 57) → (s.1 6 5).toInt ≤ i.toInt → (t.1 6 6).toInt ≤ i.toInt + m → (i.toInt = (s.1 6 5).toInt → (t.1 6 4).toInt ≤ 0) → (i.toInt ≤ (s.1 6 5).toInt + 1 → (t.1 6 4).toInt ≤ 9) → (t.1 6 4).toInt ≤ 99 → WP (d + 1) 113 64 [(1, .int i), (0, .ref 6)] [] t (fun r s' => (∃ z : Nat, r = some (.ref z) ∧ tt_EN ≤ z ∧ z ≤ tt_EN + 8) ∧ tv_TY (tc_T v) s' ∧ tv_un s s' [(6, 4), (6, 6)]) := by
    intro m
    induction m with
    | zero =>
      intro i t Tt Ut hx hdg hi hm v0 v1 v2
      have tv : 0 ≤ (t.1 6 4).toInt := (Tt.1 6 4).1
      refine wp_ldi rfl tm_m0 ?_
      refine wp_lda rfl tm_m1 ?_
      refine wq_geti rfl rfl (f := 6) rfl rfl (Or.inl rfl) ?_
      refine wq_icge rfl (fun h69 => ?_) (fun h69 => absurd (tn_leI.mpr (by omega)) h69)
      refine wp_gsE rfl ?_
      exact wp_retr rfl ⟨⟨_, rfl, by decide, by decide⟩, Tt, Ut⟩
    | succ m ih =>
      intro i t Tt Ut hx hdg hi hm v0 v1 v2
      have tv : 0 ≤ (t.1 6 4).toInt := (Tt.1 6 4).1
      refine wp_ldi rfl tm_m0 ?_
      refine wp_lda rfl tm_m1 ?_
      refine wq_geti rfl rfl (f := 6) rfl rfl (Or.inl rfl) ?_
      refine wq_icge rfl (fun h69 => ?_) (fun h69 => ?_)
      · have g69 : (t.1 6 6).toInt ≤ (i).toInt := tn_leI.mp h69
        refine wp_gsE rfl ?_
        exact wp_retr rfl ⟨⟨_, rfl, by decide, by decide⟩, Tt, Ut⟩
      · have g69 : ¬ (t.1 6 6).toInt ≤ (i).toInt := fun g => h69 (tn_leI.mpr g)
        refine wp_lda rfl tm_m1 ?_
        refine wq_con (x := 10) rfl (by decide) ?_
        refine wp_lda rfl tm_m1 ?_
        refine wq_geti rfl rfl (f := 4) rfl rfl (Or.inl rfl) ?_
        refine wq_imul rfl ?_
        refine wp_lda rfl tm_m1 ?_
        refine wq_getr (p := 7) rfl rfl (f := 0) rfl rfl ?_
        refine wp_ldi rfl tm_m0 ?_
        refine wq_calv [.int i] rfl rfl rfl rfl rfl rfl rfl rfl rfl (th_get7 Tt) ?_
        rintro _ _ ⟨rfl, rfl⟩
        have e0 : th_g t i = th_g s i := congrFun (hgs t Ut) i
        have e1 := hdg i hi (by omega)
        have e2 : (10 * t.1 6 4).toInt = 10 * (t.1 6 4).toInt := by rw [tn_mul (by show -2147483648 ≤ 10 * (t.1 6 4).toInt; omega) (by show 10 * (t.1 6 4).toInt ≤ 2147483647; omega)]; rfl
        have e3 : (10 * t.1 6 4 + th_g t i).toInt = 10 * (t.1 6 4).toInt + (th_g s i).toInt := by rw [tn_add (by rw [e2, e0]; omega) (by rw [e2, e0]; omega), e2, e0]
        have e4 : (10 * t.1 6 4 + th_g t i - 48).toInt = 10 * (t.1 6 4).toInt + (th_g s i).toInt - 48 := by rw [tn_sub (by rw [e3]; show -2147483648 ≤ _ - (48 : Int); omega) (by rw [e3]; show _ - (48 : Int) ≤ 2147483647; omega), e3]; rfl
        have e5 := tn_add1 (x := i) (by omega)
        refine wq_iadd rfl ?_
        refine wq_con (x := 48) rfl (by decide) ?_
        refine wq_isub rfl ?_
        refine wq_puti rfl rfl (f := 4) rfl rfl ?_
        refine wq_inc (c := 1) [(1, .int (i + 1)), (0, .ref 6)] rfl tm_m0 rfl rfl ?_
        refine wp_go rfl ?_
        have n6 : (tm_sI t 6 4 (((10 * (t.1 6 4)) + (th_g t i)) - 48)).1 6 6 = t.1 6 6 := by rw [tm_gI, if_neg (fun e => absurd e.2 (by decide))]
        have n4 : (tm_sI t 6 4 (((10 * (t.1 6 4)) + (th_g t i)) - 48)).1 6 4 = 10 * t.1 6 4 + th_g t i - 48 := by rw [tm_gI, if_pos ⟨rfl, rfl⟩]
        exact WP.less (ih (i + 1) _ (tv_TY_sI Tt (by rw [e4]; show (0 : Int) ≤ _; omega) (by rw [e4]; show _ ≤ (255 : Int); omega)) (tv_un_tr Ut (tv_un_fI rfl)) (by rw [n6]; exact hx) (by rw [n6]; exact hdg) (by omega) (by rw [n6]; omega) (fun e => by omega) (fun e => by rw [n4, e4]; omega) (by rw [n4, e4]; omega)) (by simp)
  have k42 : ∀ (i : Int32) (t : tm_S), tv_TY (tc_T v) t → tv_un s t [(6, 4), (6, 6)] → t.1 6 4 = 0 → (∀ k : Int32, (s.1 6 5).toInt ≤ k.toInt → k.toInt < (t.1 6 6).toInt → 48 ≤ (th_g s k).toInt ∧ (th_g s k).toInt ≤ 57) → WP (d + 1) 113 42 [(1, .int i), (0, .ref 6)] [] t (fun r s' => (∃ z : Nat, r = some (.ref z) ∧ tt_EN ≤ z ∧ z ≤ tt_EN + 8) ∧ tv_TY (tc_T v) s' ∧ tv_un s s' [(6, 4), (6, 6)]) := by
    intro i t Tt Ut t0 hdg
    have ep := hpl t Ut
    have e2 : (t.1 6 5 + 2).toInt = (s.1 6 5).toInt + 2 := by rw [ep, tn_add (by show -2147483648 ≤ _ + (2 : Int); omega) (by show _ + (2 : Int) ≤ 2147483647; omega)]; rfl
    have t4 : (t.1 6 4).toInt = 0 := by rw [t0]; rfl
    have tn8 : (t.1 6 6).toInt ≤ 800 := (Tt.1 6 6).2
    refine wp_lda rfl tm_m1 ?_
    refine wq_geti rfl rfl (f := 6) rfl rfl (Or.inl rfl) ?_
    refine wp_lda rfl tm_m1 ?_
    refine wq_geti rfl rfl (f := 5) rfl rfl (Or.inl rfl) ?_
    refine wq_con (x := 2) rfl (by decide) ?_
    refine wq_iadd rfl ?_
    refine wq_icle rfl (fun h52 => ?_) (fun h52 => ?_)
    · have g52 : (t.1 6 6).toInt ≤ ((t.1 6 5) + 2).toInt := tn_leI.mp h52
      refine wp_lda rfl tm_m1 ?_
      refine wq_geti rfl rfl (f := 5) rfl rfl (Or.inl rfl) ?_
      refine wq_sti [(1, .int (t.1 6 5)), (0, .ref 6)] rfl rfl ?_
      exact WP.less (k64 2 (t.1 6 5) t Tt Ut (by omega) hdg (by rw [ep]; omega) (by rw [ep]; omega) (fun _ => by omega) (fun _ => by omega) (by omega)) (by simp)
    · have g52 : ¬ (t.1 6 6).toInt ≤ ((t.1 6 5) + 2).toInt := fun g => h52 (tn_leI.mpr g)
      refine wp_gsE rfl ?_
      exact wp_retr rfl ⟨⟨_, rfl, by decide, by decide⟩, Tt, Ut⟩
  have k2 : ∀ (m : Nat) (i : Int32) (t : tm_S), tv_TY (tc_T v) t → tv_un s t [(6, 4), (6, 6)] → t.1 6 4 = 0 → 0 ≤ (t.1 6 6).toInt → (∀ k : Int32, (s.1 6 5).toInt ≤ k.toInt → k.toInt < (t.1 6 6).toInt → 48 ≤ (th_g s k).toInt ∧ (th_g s k).toInt ≤ 57) → 0 ≤ i.toInt → 800 ≤ i.toInt + m → WP (d + 1) 113 2 [(1, .int i), (0, .ref 6)] [] t (fun r s' => (∃ z : Nat, r = some (.ref z) ∧ tt_EN ≤ z ∧ z ≤ tt_EN + 8) ∧ tv_TY (tc_T v) s' ∧ tv_un s s' [(6, 4), (6, 6)]) := by
    intro m
    induction m with
    | zero =>
      intro i t Tt Ut t0 tn0 hdg hi hm
      refine wp_ldi rfl tm_m0 ?_
      refine wq_con (x := 800) rfl (by decide) ?_
      refine wq_icge rfl (fun h6 => ?_) (fun h6 => absurd (tn_leI.mpr (by show (800 : Int) ≤ _; omega)) h6)
      exact k42 i t Tt Ut t0 hdg
    | succ m ih =>
      intro i t Tt Ut t0 tn0 hdg hi hm
      refine wp_ldi rfl tm_m0 ?_
      refine wq_con (x := 800) rfl (by decide) ?_
      refine wq_icge rfl (fun h6 => ?_) (fun h6 => ?_)
      · exact k42 i t Tt Ut t0 hdg
      · have g6 : i.toInt < 800 := by rw [tn_leI] at h6; exact Int.not_le.mp h6
        refine wp_lda rfl tm_m1 ?_
        refine wq_getr (p := 7) rfl rfl (f := 0) rfl rfl ?_
        refine wp_lda rfl tm_m1 ?_
        refine wq_geti rfl rfl (f := 6) rfl rfl (Or.inl rfl) ?_
        refine wq_calv [.int (t.1 6 6)] rfl rfl rfl rfl rfl rfl rfl rfl rfl (th_get7 Tt) ?_
        rintro _ _ ⟨rfl, rfl⟩
        refine wq_cals [.int (th_g t (t.1 6 6))] rfl rfl rfl rfl rfl rfl (th_xdig) ?_
        rintro r20 _ ⟨hr20, rfl⟩
        obtain ⟨z20, rfl, hz20⟩ : ∃ z : Int32, r20 = some (.int z) ∧ (¬ z = 0 → 48 ≤ (th_g t (t.1 6 6)).toInt ∧ (th_g t (t.1 6 6)).toInt ≤ 57) := by
          rcases hr20 with ⟨rfl, g1⟩ | rfl
          · exact ⟨_, rfl, fun _ => g1⟩
          · exact ⟨_, rfl, fun e => absurd rfl e⟩
        refine wq_ifeq rfl (fun h23 => ?_) (fun h23 => ?_)
        · exact k42 i t Tt Ut t0 hdg
        · have gz := hz20 h23
          have gr := th_g_ne Tt (i := t.1 6 6) (fun e => by rw [e] at gz; exact absurd gz.1 (by decide))
          have e1 := tn_add1 (x := t.1 6 6) (by omega)
          have e2 := tn_add1 (x := i) (by omega)
          refine wp_lda rfl tm_m1 ?_
          refine wp_dup rfl rfl ?_
          refine wq_geti rfl rfl (f := 6) rfl rfl (Or.inl rfl) ?_
          refine wq_con (x := 1) rfl (by decide) ?_
          refine wq_iadd rfl ?_
          refine wq_puti rfl rfl (f := 6) rfl rfl ?_
          refine wq_inc (c := 1) [(1, .int (i + 1)), (0, .ref 6)] rfl tm_m0 rfl rfl ?_
          refine wp_go rfl ?_
          have n6 : (tm_sI t 6 6 ((t.1 6 6) + 1)).1 6 6 = t.1 6 6 + 1 := by rw [tm_gI, if_pos ⟨rfl, rfl⟩]
          refine WP.less (ih (i + 1) _ (tv_TY_sI Tt (by rw [e1]; show (0 : Int) ≤ _; omega) (by rw [e1]; show _ ≤ (800 : Int); omega)) (tv_un_tr Ut (tv_un_fI rfl)) (by rw [tm_gI, if_neg (fun e => absurd e.2 (by decide))]; exact t0) (by rw [n6, e1]; omega) (fun k k1 k2 => ?_) (by omega) (by omega)) (by simp)
          rw [n6, e1] at k2
          by_cases hk : k.toInt < (t.1 6 6).toInt
          · exact hdg k k1 hk
          · obtain rfl : k = t.1 6 6 := Int32.toInt_inj.mp (by omega)
            rw [← hgs t Ut]
            exact gz
  show WP (d + 1) 113 0 [(0, .ref 6)] [] s _
  refine wq_con (x := 0) rfl (by decide) ?_
  refine wq_sti [(1, .int 0), (0, .ref 6)] rfl rfl ?_
  refine WP.less (k2 800 0 s hT tv_un_rf hv (by omega) (fun k k1 k2 => ?_) (by decide) (by decide)) (by simp)
  obtain rfl : k = s.1 6 5 := Int32.toInt_inj.mp (by omega)
  exact hd
set_option maxRecDepth 100000 in
set_option maxHeartbeats 4000000 in
theorem ts_adv {v : Int} (hblank : tv_Snd (tc_T v) tz_blank) (hletter : tv_Snd (tc_T v) tz_letter) (hdigit : tv_Snd (tc_T v) tz_digit) (hword : tv_Snd (tc_T v) tz_word) : tv_Snd (tc_T v) (99, [(3, 6, 6)], [], [((0, 0, 0), [])], [(6, 3), (6, 4), (6, 5), (6, 6)], 50) := by
  intro As σ hva hT
  obtain ⟨x0, rfl, h0⟩ := tv_va1 hva
  obtain ⟨k0, rfl, l0, u0⟩ := h0
  obtain rfl : k0 = 6 := by omega
  have k50 : ∀ (i : Int32) (σa : tm_S), tv_TY (tc_T v) σa → tv_un σ σa [(6, 3), (6, 4), (6, 5), (6, 6)] → WP 50 99 50 [(1, .int i), (0, .ref 6)] [] σa (tv_Qc (tc_T v) (99, [(3, 6, 6)], [], [((0, 0, 0), [])], [(6, 3), (6, 4), (6, 5), (6, 6)], 50) [.ref 6] σ) := by
    intro i σa hTa hua
    refine wp_lda rfl tm_m1 ?_
    refine wq_getr (p := 7) rfl rfl (f := 0) rfl rfl ?_
    refine wp_lda rfl tm_m1 ?_
    refine wq_geti rfl rfl (f := 5) rfl rfl (Or.inl rfl) ?_
    refine wq_calv [.int (σa.1 6 5)] rfl rfl rfl rfl rfl rfl rfl rfl rfl (th_get7 hTa) ?_
    rintro r1 σ1 ⟨hr1, hs1⟩
    have hT1 : tv_TY (tc_T v) σ1 := by rw [← hs1]; exact hTa
    have hu1 : tv_un (σa) σ1 [] := by rw [← hs1]; exact tv_un_rf
    obtain ⟨z1, rfl, hp1, hm1, hg1, hw1⟩ : ∃ z : Int32, r1 = some (.int z) ∧ (¬ z = -1 → 0 ≤ (σa.1 6 5).toInt ∧ (σa.1 6 5).toInt ≤ 799) ∧ (0 ≤ z.toInt → ¬ z = -1) ∧ z = th_g (σa) (σa.1 6 5) ∧ z.toInt ≤ 255 := ⟨_, hr1, fun e => th_g_ne hTa e, fun h e => by rw [e] at h; exact absurd h (by decide), rfl, (th_g_rng hTa).2⟩
    have ep1 : σ1.1 6 5 = (σa).1 6 5 := tv_un_i hu1 rfl rfl
    refine wq_sti [(1, .int z1), (0, .ref 6)] rfl rfl ?_
    refine wp_lda rfl tm_m1 ?_
    refine wp_lda rfl tm_m1 ?_
    refine wq_geti rfl rfl (f := 5) rfl rfl (Or.inl rfl) ?_
    refine wq_con (x := 1) rfl (by decide) ?_
    refine wq_iadd rfl ?_
    refine wq_puti rfl rfl (f := 6) rfl rfl ?_
    have gp : 0 ≤ (σ1.1 6 5).toInt ∧ (σ1.1 6 5).toInt ≤ 800 := hT1.1 6 5
    have gv : (tv_ti (tc_T v) 6 4).1 ≤ (0 : Int32).toInt ∧ (0 : Int32).toInt ≤ (tv_ti (tc_T v) 6 4).2 := ⟨by show (0 : Int) ≤ _; decide, by show _ ≤ (255 : Int); decide⟩
    refine wp_lda rfl tm_m1 ?_
    refine wq_con (x := 0) rfl (by decide) ?_
    refine wq_puti rfl rfl (f := 4) rfl rfl ?_
    refine wp_ldi rfl tm_m0 ?_
    refine wq_con (x := (-1)) rfl (by decide) ?_
    refine wq_icne rfl (fun h79 => ?_) (fun h79 => ?_)
    · have gq := hp1 h79
      rw [← ep1] at gq
      have g1 := tn_add1 (x := σ1.1 6 5) (by omega)
      have hTs : tv_TY (tc_T v) (tm_sI (tm_sI σ1 6 6 ((σ1.1 6 5) + 1)) 6 4 0) := tv_TY_sI (tv_TY_sI hT1 (by show (0 : Int) ≤ _; omega) (by show _ ≤ (800 : Int); omega)) gv.1 gv.2
      have hus : tv_un σ (tm_sI (tm_sI σ1 6 6 ((σ1.1 6 5) + 1)) 6 4 0) [(6, 3), (6, 4), (6, 5), (6, 6)] := (tv_un_tr (tv_un_tr (tv_un_tr hua (tv_un_mo hu1 (by decide))) (tv_un_fI rfl)) (tv_un_fI rfl))
      refine wp_ldi rfl tm_m0 ?_
      refine wq_cals [.int z1] rfl rfl rfl rfl rfl rfl (WM.deep (hletter [.int z1] (tm_sI (tm_sI σ1 6 6 ((σ1.1 6 5) + 1)) 6 4 0) ⟨⟨_, rfl, (tn_rng _).1, (tn_rng _).2⟩, trivial⟩ hTs) (by decide)) ?_
      rintro r2 σ2 hq2
      obtain ⟨hT2, hu2, hz2⟩ := tq_letter hq2
      obtain ⟨z2, rfl, hb2⟩ : ∃ z : Int32, r2 = some (.int z) ∧ (¬ z = 0 → 65 ≤ (z1).toInt ∧ (z1).toInt ≤ 122) := by
        rcases hz2 with ⟨z, rfl, g1, g2⟩ | ⟨z, rfl, g1, g2, g3, g4⟩
        · exact ⟨z, rfl, fun e => absurd (Int32.toInt_inj.mp (by show z.toInt = 0; omega)) e⟩
        · exact ⟨z, rfl, fun e => ⟨by omega, by omega⟩⟩
      have hx2 := tv_un_tr hus (tv_un_mo hu2 (w' := [(6, 3), (6, 4), (6, 5), (6, 6)]) (by decide))
      refine wq_ifeq rfl (fun h104 => ?_) (fun h104 => ?_)
      · refine wp_ldi rfl tm_m0 ?_
        refine wq_cals [.int z1] rfl rfl rfl rfl rfl rfl (WM.deep (hdigit [.int z1] σ2 ⟨⟨_, rfl, (tn_rng _).1, (tn_rng _).2⟩, trivial⟩ hT2) (by decide)) ?_
        rintro r3 σ3 hq3
        obtain ⟨hT3, hu3, hz3⟩ := tq_digit hq3
        obtain ⟨z3, rfl, hb3⟩ : ∃ z : Int32, r3 = some (.int z) ∧ (¬ z = 0 → 48 ≤ (z1).toInt ∧ (z1).toInt ≤ 57) := by
          rcases hz3 with ⟨z, rfl, g1, g2⟩ | ⟨z, rfl, g1, g2, g3, g4⟩
          · exact ⟨z, rfl, fun e => absurd (Int32.toInt_inj.mp (by show z.toInt = 0; omega)) e⟩
          · exact ⟨z, rfl, fun e => ⟨by omega, by omega⟩⟩
        have hx3 := tv_un_tr hx2 (tv_un_mo hu3 (w' := [(6, 3), (6, 4), (6, 5), (6, 6)]) (by decide))
        refine wq_ifeq rfl (fun h123 => ?_) (fun h123 => ?_)
        · refine wp_ldi rfl tm_m0 ?_
          refine wq_con (x := 61) rfl (by decide) ?_
          refine wq_icne rfl (fun h140 => ?_) (fun h140 => ?_)
          · refine wp_lda rfl tm_m1 ?_
            refine wp_ldi rfl tm_m0 ?_
            refine wq_con (x := 59) rfl (by decide) ?_
            refine wq_icne rfl (fun h157 => ?_) (fun h157 => ?_)
            · refine wp_gsE rfl ?_
              refine wq_putr rfl rfl (f := 3) rfl rfl ?_
              exact wp_retv rfl (tv_Qc1 (tv_TY_tok hT3 (by decide) (by decide)) (tv_un_tr hx3 (tv_un_fR rfl)) tv_rvn)
            · refine wp_gsE rfl ?_
              refine wp_go rfl ?_
              refine wq_putr rfl rfl (f := 3) rfl rfl ?_
              exact wp_retv rfl (tv_Qc1 (tv_TY_tok hT3 (by decide) (by decide)) (tv_un_tr hx3 (tv_un_fR rfl)) tv_rvn)
          · refine wp_lda rfl tm_m1 ?_
            refine wp_gsE rfl ?_
            refine wq_putr rfl rfl (f := 3) rfl rfl ?_
            refine wp_go rfl ?_
            exact wp_retv rfl (tv_Qc1 (tv_TY_tok hT3 (by decide) (by decide)) (tv_un_tr hx3 (tv_un_fR rfl)) tv_rvn)
        · have gd := hb3 h123
          have u3 := tv_un_tr hu2 hu3
          have ep9 : σ3.1 6 5 = σ1.1 6 5 := by rw [tv_un_i u3 rfl rfl, tm_gI, if_neg (fun e => absurd e.2 (by decide)), tm_gI, if_neg (fun e => absurd e.2 (by decide))]
          have en : σ3.1 6 6 = σ1.1 6 5 + 1 := by rw [tv_un_i u3 rfl rfl, tm_gI, if_neg (fun e => absurd e.2 (by decide)), tm_gI, if_pos ⟨rfl, rfl⟩]
          have ev : σ3.1 6 4 = 0 := by rw [tv_un_i u3 rfl rfl, tm_gI, if_pos ⟨rfl, rfl⟩]
          have eg : th_g σ3 (σ1.1 6 5) = z1 := by
            unfold th_g
            rw [tv_un_i u3 (k := 7) (j := 1) rfl rfl, (tv_un_a u3 (k := 29) rfl rfl).1, hg1, ← hs1]
            rfl
          refine wp_lda rfl tm_m1 ?_
          refine wp_lda rfl tm_m1 ?_
          refine wq_calv [] rfl rfl rfl rfl rfl rfl rfl rfl rfl (th_rnum hT3 (by rw [en, ep9]) (by rw [ep9]; omega) ev (by rw [ep9, eg]; exact gd)) ?_
          rintro r4 σ4 hq4
          obtain ⟨⟨z4, rfl, hc4, hd4⟩, hT4, hu4⟩ := hq4
          have hx4 := tv_un_tr hx3 (tv_un_mo hu4 (w' := [(6, 3), (6, 4), (6, 5), (6, 6)]) (by decide))
          refine wq_putr rfl rfl (f := 3) rfl rfl ?_
          refine wp_go rfl ?_
          exact wp_retv rfl (tv_Qc1 (tv_TY_tok hT4 (hc4) (hd4)) (tv_un_tr hx4 (tv_un_fR rfl)) tv_rvn)
      · have hbl := hb2 h104
        refine wp_lda rfl tm_m1 ?_
        refine wp_lda rfl tm_m1 ?_
        refine wp_ldi rfl tm_m0 ?_
        refine wq_calv [.int z1] rfl rfl rfl rfl rfl rfl rfl rfl rfl (WM.deep (hword [.ref 6, .int z1] σ2 ⟨⟨_, rfl, by decide, by decide⟩, ⟨_, rfl, by omega, by omega⟩, trivial⟩ hT2) (by decide)) ?_
        rintro r5 σ5 hq5
        obtain ⟨hT5, hu5, hz5⟩ := tq_word hq5
        obtain ⟨z5, rfl, hc5, hd5⟩ : ∃ z : Nat, r5 = some (.ref z) ∧ tt_EN ≤ z ∧ z ≤ tt_EN + 8 := by
          rcases hz5 with rfl | rfl | rfl | rfl | ⟨rfl, -, -⟩ <;> exact ⟨_, rfl, by decide, by decide⟩
        have hx5 := tv_un_tr hx2 (tv_un_mo hu5 (w' := [(6, 3), (6, 4), (6, 5), (6, 6)]) (by decide))
        refine wq_putr rfl rfl (f := 3) rfl rfl ?_
        refine wp_go rfl ?_
        exact wp_retv rfl (tv_Qc1 (tv_TY_tok hT5 (hc5) (hd5)) (tv_un_tr hx5 (tv_un_fR rfl)) tv_rvn)
    · refine wp_lda rfl tm_m1 ?_
      refine wp_gsE rfl ?_
      refine wq_putr rfl rfl (f := 3) rfl rfl ?_
      refine wp_lda rfl tm_m1 ?_
      refine wp_lda rfl tm_m1 ?_
      refine wq_geti rfl rfl (f := 5) rfl rfl (Or.inl rfl) ?_
      refine wq_puti rfl rfl (f := 6) rfl rfl ?_
      refine wp_go rfl ?_
      exact wp_retv rfl (tv_Qc1 (tv_TX_at (tv_TX_tok (tv_TX_sI (tv_TX_self (tv_TX_of hT1)) gv.1 gv.2) (by decide) (by decide)) (gp.1) (gp.2)) (tv_un_tr (tv_un_tr (tv_un_tr (tv_un_tr (tv_un_tr hua (tv_un_mo hu1 (by decide))) (tv_un_fI rfl)) (tv_un_fI rfl)) (tv_un_fR rfl)) (tv_un_fI rfl)) tv_rvn)
  have k10 : ∀ (m : Nat) (i : Int32) (σa : tm_S), tv_TY (tc_T v) σa → tv_un σ σa [(6, 3), (6, 4), (6, 5), (6, 6)] → 0 ≤ i.toInt → 800 ≤ i.toInt + m → WP 50 99 10 [(1, .int i), (0, .ref 6)] [] σa (tv_Qc (tc_T v) (99, [(3, 6, 6)], [], [((0, 0, 0), [])], [(6, 3), (6, 4), (6, 5), (6, 6)], 50) [.ref 6] σ) := by
    intro m
    induction m with
    | zero =>
      intro i σa hTa hua h1 h2
      refine wp_ldi rfl tm_m0 ?_
      refine wq_con (x := 800) rfl (by decide) ?_
      refine wq_icge rfl (fun h14 => ?_) (fun h14 => absurd (tn_leI.mpr (by show (800 : Int) ≤ _; omega)) h14)
      exact k50 i _ hTa hua
    | succ m ih =>
      intro i σa hTa hua h1 h2
      refine wp_ldi rfl tm_m0 ?_
      refine wq_con (x := 800) rfl (by decide) ?_
      refine wq_icge rfl (fun h14 => ?_) (fun h14 => ?_)
      · exact k50 i _ hTa hua
      · have e14 : i.toInt < 800 := by rw [tn_leI] at h14; exact Int.not_le.mp h14
        have e2 := tn_add1 (x := i) (by omega)
        refine wp_lda rfl tm_m1 ?_
        refine wq_getr (p := 7) rfl rfl (f := 0) rfl rfl ?_
        refine wp_lda rfl tm_m1 ?_
        refine wq_geti rfl rfl (f := 5) rfl rfl (Or.inl rfl) ?_
        refine wq_calv [.int (σa.1 6 5)] rfl rfl rfl rfl rfl rfl rfl rfl rfl (th_get7 hTa) ?_
        rintro r1 σ1 ⟨hr1, hs1⟩
        have hT1 : tv_TY (tc_T v) σ1 := by rw [← hs1]; exact hTa
        have hu1 : tv_un (σa) σ1 [] := by rw [← hs1]; exact tv_un_rf
        obtain ⟨z1, rfl, hp1, hm1, hg1, hw1⟩ : ∃ z : Int32, r1 = some (.int z) ∧ (¬ z = -1 → 0 ≤ (σa.1 6 5).toInt ∧ (σa.1 6 5).toInt ≤ 799) ∧ (0 ≤ z.toInt → ¬ z = -1) ∧ z = th_g (σa) (σa.1 6 5) ∧ z.toInt ≤ 255 := ⟨_, hr1, fun e => th_g_ne hTa e, fun h e => by rw [e] at h; exact absurd h (by decide), rfl, (th_g_rng hTa).2⟩
        have ep1 : σ1.1 6 5 = (σa).1 6 5 := tv_un_i hu1 rfl rfl
        refine wq_cals [.int z1] rfl rfl rfl rfl rfl rfl (WM.deep (hblank [.int z1] σ1 ⟨⟨_, rfl, (tn_rng _).1, (tn_rng _).2⟩, trivial⟩ hT1) (by decide)) ?_
        rintro r2 σ2 hq2
        obtain ⟨hT2, hu2, hz2⟩ := tq_blank hq2
        obtain ⟨z2, rfl, hb2⟩ : ∃ z : Int32, r2 = some (.int z) ∧ (¬ z = 0 → 10 ≤ (z1).toInt ∧ (z1).toInt ≤ 32) := by
          rcases hz2 with ⟨z, rfl, g1, g2, g3, g4⟩ | ⟨z, rfl, g1, g2⟩
          · exact ⟨z, rfl, fun e => ⟨by omega, by omega⟩⟩
          · exact ⟨z, rfl, fun e => absurd (Int32.toInt_inj.mp (by show z.toInt = 0; omega)) e⟩
        have ep2 : σ2.1 6 5 = σ1.1 6 5 := tv_un_i hu2 rfl rfl
        refine wq_ifeq rfl (fun h31 => ?_) (fun h31 => ?_)
        · exact k50 i _ hT2 (tv_un_tr (tv_un_tr hua (tv_un_mo hu1 (by decide))) (tv_un_mo hu2 (by decide)))
        · have gq := hp1 (hm1 (by have := (hb2 h31).1; omega))
          rw [← ep1, ← ep2] at gq
          have g1 := tn_add1 (x := σ2.1 6 5) (by omega)
          refine wp_lda rfl tm_m1 ?_
          refine wp_dup rfl rfl ?_
          refine wq_geti rfl rfl (f := 5) rfl rfl (Or.inl rfl) ?_
          refine wq_con (x := 1) rfl (by decide) ?_
          refine wq_iadd rfl ?_
          refine wq_puti rfl rfl (f := 5) rfl rfl ?_
          refine wq_inc (c := 1) [(1, .int (i + 1)), (0, .ref 6)] rfl tm_m0 rfl rfl ?_
          refine wp_go rfl ?_
          exact WP.less (ih (i + 1) _ (tv_TY_sI hT2 (by show (0 : Int) ≤ _; omega) (by show _ ≤ (800 : Int); omega)) (tv_un_tr (tv_un_tr (tv_un_tr hua (tv_un_mo hu1 (by decide))) (tv_un_mo hu2 (by decide))) (tv_un_fI rfl)) (by omega) (by omega)) (by simp)
  show WP 50 99 0 [(0, .ref 6)] [] σ _
  have gn : 0 ≤ (σ.1 6 6).toInt ∧ (σ.1 6 6).toInt ≤ 800 := hT.1 6 6
  refine wp_lda rfl tm_m0 ?_
  refine wp_lda rfl tm_m0 ?_
  refine wq_geti rfl rfl (f := 6) rfl rfl (Or.inl rfl) ?_
  refine wq_puti rfl rfl (f := 5) rfl rfl ?_
  refine wq_con (x := 0) rfl (by decide) ?_
  refine wq_sti [(1, .int 0), (0, .ref 6)] rfl rfl ?_
  exact WP.less (k10 800 0 _ (tv_TY_sI hT gn.1 gn.2) (tv_un_fI rfl) (by decide) (by decide)) (by simp)
