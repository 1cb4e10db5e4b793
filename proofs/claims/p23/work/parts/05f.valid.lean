/-! ===== the tables are right: by the kernel ===== -/
set_option maxRecDepth 100000 in
set_option maxHeartbeats 4000000 in
theorem tb_v199 : (List.range' 199 4).all (fun j => tb_m j && (tt_tab.getD j []).all (tb_q j)) = true := by decide +kernel
set_option maxRecDepth 100000 in
set_option maxHeartbeats 4000000 in
theorem tb_c203_0 : (List.take 50 (tt_tab.getD 203 [])).all (tb_q 203) = true := by decide +kernel
set_option maxRecDepth 100000 in
set_option maxHeartbeats 4000000 in
theorem tb_c203_50 : (List.take 50 (List.drop 50 (tt_tab.getD 203 []))).all (tb_q 203) = true := by decide +kernel
set_option maxRecDepth 100000 in
set_option maxHeartbeats 4000000 in
theorem tb_c203_100 : (List.take 50 (List.drop 50 (List.drop 50 (tt_tab.getD 203 [])))).all (tb_q 203) = true := by decide +kernel
set_option maxRecDepth 100000 in
set_option maxHeartbeats 4000000 in
theorem tb_c203_150 : (List.take 50 (List.drop 50 (List.drop 50 (List.drop 50 (tt_tab.getD 203 []))))).all (tb_q 203) = true := by decide +kernel
set_option maxRecDepth 100000 in
set_option maxHeartbeats 4000000 in
theorem tb_c203_200 : (List.drop 50 (List.drop 50 (List.drop 50 (List.drop 50 (tt_tab.getD 203 []))))).all (tb_q 203) = true := by decide +kernel
set_option maxRecDepth 100000 in
set_option maxHeartbeats 4000000 in
theorem tb_k203 : tb_m 203 = true := by decide +kernel
theorem tb_v203 : (List.range' 203 1).all (fun j => tb_m j && (tt_tab.getD j []).all (tb_q j)) = true := by
  have h : (tt_tab.getD 203 []).all (tb_q 203) = true := tb_spl 50 tb_c203_0 (tb_spl 50 tb_c203_50 (tb_spl 50 tb_c203_100 (tb_spl 50 tb_c203_150 (tb_c203_200))))
  show ((tb_m 203 && (tt_tab.getD 203 []).all (tb_q 203)) && true) = true
  rw [tb_k203, h]
  rfl
set_option maxRecDepth 100000 in
set_option maxHeartbeats 4000000 in
theorem tb_v204 : (List.range' 204 6).all (fun j => tb_m j && (tt_tab.getD j []).all (tb_q j)) = true := by decide +kernel
set_option maxRecDepth 100000 in
set_option maxHeartbeats 4000000 in
theorem tb_v210 : (List.range' 210 4).all (fun j => tb_m j && (tt_tab.getD j []).all (tb_q j)) = true := by decide +kernel
set_option maxRecDepth 100000 in
set_option maxHeartbeats 4000000 in
theorem tb_v214 : (List.range' 214 6).all (fun j => tb_m j && (tt_tab.getD j []).all (tb_q j)) = true := by decide +kernel
set_option maxRecDepth 100000 in
set_option maxHeartbeats 4000000 in
theorem tb_v220 : (List.range' 220 4).all (fun j => tb_m j && (tt_tab.getD j []).all (tb_q j)) = true := by decide +kernel
set_option maxRecDepth 100000 in
set_option maxHeartbeats 4000000 in
theorem tb_v224 : (List.range' 224 4).all (fun j => tb_m j && (tt_tab.getD j []).all (tb_q j)) = true := by decide +kernel
set_option maxRecDepth 100000 in
set_option maxHeartbeats 4000000 in
theorem tb_c228_0 : (List.take 50 (tt_tab.getD 228 [])).all (tb_q 228) = true := by decide +kernel
set_option maxRecDepth 100000 in
set_option maxHeartbeats 4000000 in
theorem tb_c228_50 : (List.take 50 (List.drop 50 (tt_tab.getD 228 []))).all (tb_q 228) = true := by decide +kernel
set_option maxRecDepth 100000 in
set_option maxHeartbeats 4000000 in
theorem tb_c228_100 : (List.take 50 (List.drop 50 (List.drop 50 (tt_tab.getD 228 [])))).all (tb_q 228) = true := by decide +kernel
set_option maxRecDepth 100000 in
set_option maxHeartbeats 4000000 in
theorem tb_c228_150 : (List.drop 50 (List.drop 50 (List.drop 50 (tt_tab.getD 228 [])))).all (tb_q 228) = true := by decide +kernel
set_option maxRecDepth 100000 in
set_option maxHeartbeats 4000000 in
theorem tb_k228 : tb_m 228 = true := by decide +kernel
theorem tb_v228 : (List.range' 228 1).all (fun j => tb_m j && (tt_tab.getD j []).all (tb_q j)) = true := by
  have h : (tt_tab.getD 228 []).all (tb_q 228) = true := tb_spl 50 tb_c228_0 (tb_spl 50 tb_c228_50 (tb_spl 50 tb_c228_100 (tb_c228_150)))
  show ((tb_m 228 && (tt_tab.getD 228 []).all (tb_q 228)) && true) = true
  rw [tb_k228, h]
  rfl
