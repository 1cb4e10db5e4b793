/-! ===== the tables are right: all of them ===== -/
theorem tb_valid (j : Nat) (hj : j < tt_NM) : (tb_m j && (tt_tab.getD j []).all (tb_q j)) = true := by
  have key : ∀ (a n : Nat), (List.range' a n).all (fun j => tb_m j && (tt_tab.getD j []).all (tb_q j)) = true → a ≤ j → j < a + n → (tb_m j && (tt_tab.getD j []).all (tb_q j)) = true := by
    intro a n h h1 h2
    exact List.all_eq_true.mp h j (List.mem_range'_1.mpr ⟨h1, h2⟩)
  have hN : j < 244 := hj
  rcases Nat.lt_or_ge j 9 with h | h
  · exact key 0 9 tb_v0 (by omega) (by omega)
  rcases Nat.lt_or_ge j 17 with h | h
  · exact key 9 8 tb_v9 (by omega) (by omega)
  rcases Nat.lt_or_ge j 22 with h | h
  · exact key 17 5 tb_v17 (by omega) (by omega)
  rcases Nat.lt_or_ge j 28 with h | h
  · exact key 22 6 tb_v22 (by omega) (by omega)
  rcases Nat.lt_or_ge j 34 with h | h
  · exact key 28 6 tb_v28 (by omega) (by omega)
  rcases Nat.lt_or_ge j 39 with h | h
  · exact key 34 5 tb_v34 (by omega) (by omega)
  rcases Nat.lt_or_ge j 45 with h | h
  · exact key 39 6 tb_v39 (by omega) (by omega)
  rcases Nat.lt_or_ge j 50 with h | h
  · exact key 45 5 tb_v45 (by omega) (by omega)
  rcases Nat.lt_or_ge j 57 with h | h
  · exact key 50 7 tb_v50 (by omega) (by omega)
  rcases Nat.lt_or_ge j 62 with h | h
  · exact key 57 5 tb_v57 (by omega) (by omega)
  rcases Nat.lt_or_ge j 67 with h | h
  · exact key 62 5 tb_v62 (by omega) (by omega)
  rcases Nat.lt_or_ge j 71 with h | h
  · exact key 67 4 tb_v67 (by omega) (by omega)
  rcases Nat.lt_or_ge j 76 with h | h
  · exact key 71 5 tb_v71 (by omega) (by omega)
  rcases Nat.lt_or_ge j 81 with h | h
  · exact key 76 5 tb_v76 (by omega) (by omega)
  rcases Nat.lt_or_ge j 85 with h | h
  · exact key 81 4 tb_v81 (by omega) (by omega)
  rcases Nat.lt_or_ge j 90 with h | h
  · exact key 85 5 tb_v85 (by omega) (by omega)
  rcases Nat.lt_or_ge j 98 with h | h
  · exact key 90 8 tb_v90 (by omega) (by omega)
  rcases Nat.lt_or_ge j 100 with h | h
  · exact key 98 2 tb_v98 (by omega) (by omega)
  rcases Nat.lt_or_ge j 106 with h | h
  · exact key 100 6 tb_v100 (by omega) (by omega)
  rcases Nat.lt_or_ge j 114 with h | h
  · exact key 106 8 tb_v106 (by omega) (by omega)
  rcases Nat.lt_or_ge j 119 with h | h
  · exact key 114 5 tb_v114 (by omega) (by omega)
  rcases Nat.lt_or_ge j 121 with h | h
  · exact key 119 2 tb_v119 (by omega) (by omega)
  rcases Nat.lt_or_ge j 122 with h | h
  · exact key 121 1 tb_v121 (by omega) (by omega)
  rcases Nat.lt_or_ge j 131 with h | h
  · exact key 122 9 tb_v122 (by omega) (by omega)
  rcases Nat.lt_or_ge j 138 with h | h
  · exact key 131 7 tb_v131 (by omega) (by omega)
  rcases Nat.lt_or_ge j 147 with h | h
  · exact key 138 9 tb_v138 (by omega) (by omega)
  rcases Nat.lt_or_ge j 153 with h | h
  · exact key 147 6 tb_v147 (by omega) (by omega)
  rcases Nat.lt_or_ge j 160 with h | h
  · exact key 153 7 tb_v153 (by omega) (by omega)
  rcases Nat.lt_or_ge j 165 with h | h
  · exact key 160 5 tb_v160 (by omega) (by omega)
  rcases Nat.lt_or_ge j 170 with h | h
  · exact key 165 5 tb_v165 (by omega) (by omega)
  rcases Nat.lt_or_ge j 172 with h | h
  · exact key 170 2 tb_v170 (by omega) (by omega)
  rcases Nat.lt_or_ge j 177 with h | h
  · exact key 172 5 tb_v172 (by omega) (by omega)
  rcases Nat.lt_or_ge j 180 with h | h
  · exact key 177 3 tb_v177 (by omega) (by omega)
  rcases Nat.lt_or_ge j 181 with h | h
  · exact key 180 1 tb_v180 (by omega) (by omega)
  rcases Nat.lt_or_ge j 182 with h | h
  · exact key 181 1 tb_v181 (by omega) (by omega)
  rcases Nat.lt_or_ge j 183 with h | h
  · exact key 182 1 tb_v182 (by omega) (by omega)
  rcases Nat.lt_or_ge j 184 with h | h
  · exact key 183 1 tb_v183 (by omega) (by omega)
  rcases Nat.lt_or_ge j 185 with h | h
  · exact key 184 1 tb_v184 (by omega) (by omega)
  rcases Nat.lt_or_ge j 190 with h | h
  · exact key 185 5 tb_v185 (by omega) (by omega)
  rcases Nat.lt_or_ge j 192 with h | h
  · exact key 190 2 tb_v190 (by omega) (by omega)
  rcases Nat.lt_or_ge j 193 with h | h
  · exact key 192 1 tb_v192 (by omega) (by omega)
  rcases Nat.lt_or_ge j 195 with h | h
  · exact key 193 2 tb_v193 (by omega) (by omega)
  rcases Nat.lt_or_ge j 196 with h | h
  · exact key 195 1 tb_v195 (by omega) (by omega)
  rcases Nat.lt_or_ge j 198 with h | h
  · exact key 196 2 tb_v196 (by omega) (by omega)
  rcases Nat.lt_or_ge j 199 with h | h
  · exact key 198 1 tb_v198 (by omega) (by omega)
  rcases Nat.lt_or_ge j 203 with h | h
  · exact key 199 4 tb_v199 (by omega) (by omega)
  rcases Nat.lt_or_ge j 204 with h | h
  · exact key 203 1 tb_v203 (by omega) (by omega)
  rcases Nat.lt_or_ge j 210 with h | h
  · exact key 204 6 tb_v204 (by omega) (by omega)
  rcases Nat.lt_or_ge j 214 with h | h
  · exact key 210 4 tb_v210 (by omega) (by omega)
  rcases Nat.lt_or_ge j 220 with h | h
  · exact key 214 6 tb_v214 (by omega) (by omega)
  rcases Nat.lt_or_ge j 224 with h | h
  · exact key 220 4 tb_v220 (by omega) (by omega)
  rcases Nat.lt_or_ge j 228 with h | h
  · exact key 224 4 tb_v224 (by omega) (by omega)
  rcases Nat.lt_or_ge j 229 with h | h
  · exact key 228 1 tb_v228 (by omega) (by omega)
  rcases Nat.lt_or_ge j 232 with h | h
  · exact key 229 3 tb_v229 (by omega) (by omega)
  rcases Nat.lt_or_ge j 233 with h | h
  · exact key 232 1 tb_v232 (by omega) (by omega)
  rcases Nat.lt_or_ge j 234 with h | h
  · exact key 233 1 tb_v233 (by omega) (by omega)
  rcases Nat.lt_or_ge j 235 with h | h
  · exact key 234 1 tb_v234 (by omega) (by omega)
  rcases Nat.lt_or_ge j 238 with h | h
  · exact key 235 3 tb_v235 (by omega) (by omega)
  rcases Nat.lt_or_ge j 239 with h | h
  · exact key 238 1 tb_v238 (by omega) (by omega)
  rcases Nat.lt_or_ge j 242 with h | h
  · exact key 239 3 tb_v239 (by omega) (by omega)
  rcases Nat.lt_or_ge j 243 with h | h
  · exact key 242 1 tb_v242 (by omega) (by omega)
  exact key 243 1 tb_v243 (by omega) (by omega)
theorem tt_at_lt {j pc : Nat} {q : tt_Op × Nat} (h : tt_at j pc = some q) : j < tt_NM := by
  rcases Nat.lt_or_ge j tt_NM with h1 | h1
  · exact h1
  · have h2 : tt_tab.getD j [] = [] := by
      rw [List.getD_eq_getElem?_getD, List.getElem?_eq_none]
      · rfl
      · exact Nat.le_trans (show tt_tab.length ≤ tt_NM by decide +kernel) h1
    unfold tt_at at h
    rw [h2] at h
    cases h
theorem tt_find_mem {pc : Nat} {q : tt_Op × Nat} : ∀ {l : List (Nat × tt_Op × Nat)}, tt_find pc l = some q → (pc, q) ∈ l
  | [], h => by cases h
  | x :: t, h => by
    unfold tt_find at h
    cases hb : Nat.beq x.1 pc with
    | true =>
      rw [hb] at h
      have e1 : x.1 = pc := Nat.eq_of_beq_eq_true hb
      have e2 : x.2 = q := Option.some.inj h
      have e3 : x = (pc, q) := by rw [← e1, ← e2]
      rw [e3]
      exact List.mem_cons_self
    | false =>
      rw [hb] at h
      exact List.mem_cons_of_mem _ (tt_find_mem h)
theorem tb_ok {j pc n : Nat} {o : tt_Op} (h : tt_at j pc = some (o, n)) : ∃ i, decode (tt_c j) pc = .ok (i, n) ∧ tb_i j pc o n i = true := by
  have h1 := tb_valid j (tt_at_lt h)
  rw [Bool.and_eq_true] at h1
  have h2 := List.all_eq_true.mp h1.2 _ (tt_find_mem h)
  unfold tb_q at h2
  cases hd : decode (tt_c j) pc with
  | error e => rw [hd] at h2; cases h2
  | ok x =>
    obtain ⟨i, m⟩ := x
    rw [hd] at h2
    simp only [Bool.and_eq_true, beq_iff_eq] at h2
    obtain ⟨rfl, h3⟩ := h2
    exact ⟨i, rfl, h3⟩
theorem tb_w_in {k : Nat} {w : Cond} (h : tb_w k w = true) : w ∈ tm_tbl := by
  unfold tb_w at h
  rw [Bool.and_eq_true, decide_eq_true_eq] at h
  exact tm_tbl_in (List.mem_of_getElem? h.1) h.2
