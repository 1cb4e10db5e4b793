/-! ===== reading, of the reference: rows, voices ===== -/
/-- has(s, x) -/
def th_hs (s x : Int32) : Int32 := if s >>> (x &&& 31) &&& 1 = 1 then 1 else 0
set_option maxRecDepth 100000 in
set_option maxHeartbeats 4000000 in
theorem th_has {d : Nat} {s x : Int32} {σ : tm_S} : WM d 166 [.ref 11, .int s, .int x] σ (th_is (.int (th_hs s x)) σ) := by
  show WP d 166 0 [(0, .ref 11), (1, .int s), (2, .int x)] [] σ _
  refine wp_ldi rfl tm_m1 ?_
  refine wp_ldi rfl tm_m2 ?_
  refine wq_ishr rfl ?_
  refine wq_con (x := 1) rfl (by decide) ?_
  refine wq_iand rfl ?_
  refine wq_con (x := 1) rfl (by decide) ?_
  refine wq_icne rfl (fun h6 => ?_) (fun h6 => ?_)
  · refine wq_con (x := 0) rfl (by decide) ?_
    exact wp_reti rfl (th_n0 rfl) ⟨by unfold th_hs; rw [if_neg h6], rfl⟩
  · refine wq_con (x := 1) rfl (by decide) ?_
    refine wp_go rfl ?_
    exact wp_reti rfl (th_n1 rfl) ⟨by unfold th_hs; rw [if_pos (Classical.not_not.mp h6)], rfl⟩
/-- how many of twelve -/
def th_pc (m : Nat) : Nat := m % 2 + (m / 2 % 2 + (m / 4 % 2 + (m / 8 % 2 + (m / 16 % 2 + (m / 32 % 2 + (m / 64 % 2 + (m / 128 % 2 + (m / 256 % 2 + (m / 512 % 2 + (m / 1024 % 2 + m / 2048 % 2))))))))))
theorem th_pc12 (m : Nat) : th_pc m ≤ 12 := by
  unfold th_pc
  omega
set_option maxRecDepth 100000 in
theorem th_setk : (List.range 4096).all (fun m => (List.range 12).all (fun w => decide (th_hs (nI m) (nI w) = 1) || (decide ((nI m ||| (1 <<< (nI w &&& 31))) = nI (m ||| 2 ^ w)) && Nat.blt (m ||| 2 ^ w) 4096 && Nat.beq (th_pc (m ||| 2 ^ w)) (th_pc m + 1)))) = true := by decide +kernel
theorem th_set1 {m w : Nat} (hm : m < 4096) (hw : w < 12) (h : ¬ th_hs (nI m) (nI w) = 1) : (nI m ||| (1 <<< (nI w &&& 31))) = nI (m ||| 2 ^ w) ∧ m ||| 2 ^ w < 4096 ∧ th_pc (m ||| 2 ^ w) = th_pc m + 1 := by
  have h1 := List.all_eq_true.mp (List.all_eq_true.mp th_setk m (List.mem_range.mpr hm)) w (List.mem_range.mpr hw)
  simp only [Bool.or_eq_true, Bool.and_eq_true, decide_eq_true_eq] at h1
  rcases h1 with h1 | ⟨⟨h2, h3⟩, h4⟩
  · exact absurd h1 h
  · exact ⟨h2, Nat.blt_eq.mp h3, tv_beq h4⟩
