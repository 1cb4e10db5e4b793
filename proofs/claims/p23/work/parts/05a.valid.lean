/-! ===== the tables are right: by the kernel ===== -/
theorem tb_spl {α : Type} {l : List α} {p : α → Bool} (k : Nat) (h1 : (l.take k).all p = true) (h2 : (l.drop k).all p = true) : l.all p = true := by
  rw [← List.take_append_drop k l, List.all_append, h1, h2]
  rfl
set_option maxRecDepth 100000 in
set_option maxHeartbeats 4000000 in
theorem tb_v0 : (List.range' 0 9).all (fun j => tb_m j && (tt_tab.getD j []).all (tb_q j)) = true := by decide +kernel
set_option maxRecDepth 100000 in
set_option maxHeartbeats 4000000 in
theorem tb_v9 : (List.range' 9 8).all (fun j => tb_m j && (tt_tab.getD j []).all (tb_q j)) = true := by decide +kernel
set_option maxRecDepth 100000 in
set_option maxHeartbeats 4000000 in
theorem tb_v17 : (List.range' 17 5).all (fun j => tb_m j && (tt_tab.getD j []).all (tb_q j)) = true := by decide +kernel
set_option maxRecDepth 100000 in
set_option maxHeartbeats 4000000 in
theorem tb_v22 : (List.range' 22 6).all (fun j => tb_m j && (tt_tab.getD j []).all (tb_q j)) = true := by decide +kernel
set_option maxRecDepth 100000 in
set_option maxHeartbeats 4000000 in
theorem tb_v28 : (List.range' 28 6).all (fun j => tb_m j && (tt_tab.getD j []).all (tb_q j)) = true := by decide +kernel
set_option maxRecDepth 100000 in
set_option maxHeartbeats 4000000 in
theorem tb_v34 : (List.range' 34 5).all (fun j => tb_m j && (tt_tab.getD j []).all (tb_q j)) = true := by decide +kernel
set_option maxRecDepth 100000 in
set_option maxHeartbeats 4000000 in
theorem tb_v39 : (List.range' 39 6).all (fun j => tb_m j && (tt_tab.getD j []).all (tb_q j)) = true := by decide +kernel
set_option maxRecDepth 100000 in
set_option maxHeartbeats 4000000 in
theorem tb_v45 : (List.range' 45 5).all (fun j => tb_m j && (tt_tab.getD j []).all (tb_q j)) = true := by decide +kernel
