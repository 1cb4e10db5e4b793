/-! ===== the tables are right: all of them ===== -/
theorem tb_valid (j : Nat) (hj : j < tt_NM) : (tb_m j && (tt_tab.getD j []).all (tb_q j)) = true := sorry
theorem tt_at_lt {j pc : Nat} {q : tt_Op × Nat} (h : tt_at j pc = some q) : j < tt_NM := by
  rcases Nat.lt_or_ge j tt_NM with h1 | h1
  · exact h1
  · have h2 : tt_tab.getD j [] = [] := by
      rw [List.getD_eq_getElem?_getD, List.getElem?_eq_none]
      · rfl
      · exact Nat.le_trans (show tt_tab.length ≤ tt_NM by decide +kernel) h1
    unfold tt_at at h
    rw [h2] at h
    cases h
theorem tt_find_mem {pc : Nat} {q : tt_Op × Nat} : ∀ {l : List (Nat × tt_Op × Nat)}, tt_find pc l = some q → (pc, q) ∈ l
  | [], h => by cases h
  | x :: t, h => by
    unfold tt_find at h
    cases hb : Nat.beq x.1 pc with
    | true =>
      rw [hb] at h
      have e1 : x.1 = pc := Nat.eq_of_beq_eq_true hb
      have e2 : x.2 = q := Option.some.inj h
      have e3 : x = (pc, q) := by rw [← e1, ← e2]
      rw [e3]
      exact List.mem_cons_self
    | false =>
      rw [hb] at h
      exact List.mem_cons_of_mem _ (tt_find_mem h)
theorem tb_ok {j pc n : Nat} {o : tt_Op} (h : tt_at j pc = some (o, n)) : ∃ i, decode (tt_c j) pc = .ok (i, n) ∧ tb_i j pc o n i = true := by
  have h1 := tb_valid j (tt_at_lt h)
  rw [Bool.and_eq_true] at h1
  have h2 := List.all_eq_true.mp h1.2 _ (tt_find_mem h)
  unfold tb_q at h2
  cases hd : decode (tt_c j) pc with
  | error e => rw [hd] at h2; cases h2
  | ok x =>
    obtain ⟨i, m⟩ := x
    rw [hd] at h2
    simp only [Bool.and_eq_true, beq_iff_eq] at h2
    obtain ⟨rfl, h3⟩ := h2
    exact ⟨i, rfl, h3⟩
theorem tb_w_in {k : Nat} {w : Cond} (h : tb_w k w = true) : w ∈ tm_tbl := by
  unfold tb_w at h
  rw [Bool.and_eq_true, decide_eq_true_eq] at h
  exact tm_tbl_in (List.mem_of_getElem? h.1) h.2
