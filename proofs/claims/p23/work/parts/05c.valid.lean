/-! ===== the tables are right: by the kernel ===== -/
set_option maxRecDepth 100000 in
set_option maxHeartbeats 4000000 in
theorem tb_v90 : (List.range' 90 8).all (fun j => tb_m j && (tt_tab.getD j []).all (tb_q j)) = true := by decide +kernel
set_option maxRecDepth 100000 in
set_option maxHeartbeats 4000000 in
theorem tb_v98 : (List.range' 98 2).all (fun j => tb_m j && (tt_tab.getD j []).all (tb_q j)) = true := by decide +kernel
set_option maxRecDepth 100000 in
set_option maxHeartbeats 4000000 in
theorem tb_v100 : (List.range' 100 6).all (fun j => tb_m j && (tt_tab.getD j []).all (tb_q j)) = true := by decide +kernel
set_option maxRecDepth 100000 in
set_option maxHeartbeats 4000000 in
theorem tb_v106 : (List.range' 106 8).all (fun j => tb_m j && (tt_tab.getD j []).all (tb_q j)) = true := by decide +kernel
set_option maxRecDepth 100000 in
set_option maxHeartbeats 4000000 in
theorem tb_v114 : (List.range' 114 5).all (fun j => tb_m j && (tt_tab.getD j []).all (tb_q j)) = true := by decide +kernel
set_option maxRecDepth 100000 in
set_option maxHeartbeats 4000000 in
theorem tb_v119 : (List.range' 119 2).all (fun j => tb_m j && (tt_tab.getD j []).all (tb_q j)) = true := by decide +kernel
set_option maxRecDepth 100000 in
set_option maxHeartbeats 4000000 in
theorem tb_c121_0 : (List.take 50 (tt_tab.getD 121 [])).all (tb_q 121) = true := by decide +kernel
set_option maxRecDepth 100000 in
set_option maxHeartbeats 4000000 in
theorem tb_c121_50 : (List.take 50 (List.drop 50 (tt_tab.getD 121 []))).all (tb_q 121) = true := by decide +kernel
set_option maxRecDepth 100000 in
set_option maxHeartbeats 4000000 in
theorem tb_c121_100 : (List.take 50 (List.drop 50 (List.drop 50 (tt_tab.getD 121 [])))).all (tb_q 121) = true := by decide +kernel
set_option maxRecDepth 100000 in
set_option maxHeartbeats 4000000 in
theorem tb_c121_150 : (List.drop 50 (List.drop 50 (List.drop 50 (tt_tab.getD 121 [])))).all (tb_q 121) = true := by decide +kernel
set_option maxRecDepth 100000 in
set_option maxHeartbeats 4000000 in
theorem tb_k121 : tb_m 121 = true := by decide +kernel
theorem tb_v121 : (List.range' 121 1).all (fun j => tb_m j && (tt_tab.getD j []).all (tb_q j)) = true := by
  have h : (tt_tab.getD 121 []).all (tb_q 121) = true := tb_spl 50 tb_c121_0 (tb_spl 50 tb_c121_50 (tb_spl 50 tb_c121_100 (tb_c121_150)))
  show ((tb_m 121 && (tt_tab.getD 121 []).all (tb_q 121)) && true) = true
  rw [tb_k121, h]
  rfl
set_option maxRecDepth 100000 in
set_option maxHeartbeats 4000000 in
theorem tb_v122 : (List.range' 122 9).all (fun j => tb_m j && (tt_tab.getD j []).all (tb_q j)) = true := by decide +kernel
set_option maxRecDepth 100000 in
set_option maxHeartbeats 4000000 in
theorem tb_v131 : (List.range' 131 7).all (fun j => tb_m j && (tt_tab.getD j []).all (tb_q j)) = true := by decide +kernel
