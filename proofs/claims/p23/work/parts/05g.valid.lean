/-! ===== the tables are right: by the kernel ===== -/
set_option maxRecDepth 100000 in
set_option maxHeartbeats 4000000 in
theorem tb_v229 : (List.range' 229 3).all (fun j => tb_m j && (tt_tab.getD j []).all (tb_q j)) = true := by decide +kernel
set_option maxRecDepth 100000 in
set_option maxHeartbeats 4000000 in
theorem tb_c232_0 : (List.take 50 (tt_tab.getD 232 [])).all (tb_q 232) = true := by decide +kernel
set_option maxRecDepth 100000 in
set_option maxHeartbeats 4000000 in
theorem tb_c232_50 : (List.take 50 (List.drop 50 (tt_tab.getD 232 []))).all (tb_q 232) = true := by decide +kernel
set_option maxRecDepth 100000 in
set_option maxHeartbeats 4000000 in
theorem tb_c232_100 : (List.take 50 (List.drop 50 (List.drop 50 (tt_tab.getD 232 [])))).all (tb_q 232) = true := by decide +kernel
set_option maxRecDepth 100000 in
set_option maxHeartbeats 4000000 in
theorem tb_c232_150 : (List.drop 50 (List.drop 50 (List.drop 50 (tt_tab.getD 232 [])))).all (tb_q 232) = true := by decide +kernel
set_option maxRecDepth 100000 in
set_option maxHeartbeats 4000000 in
theorem tb_k232 : tb_m 232 = true := by decide +kernel
theorem tb_v232 : (List.range' 232 1).all (fun j => tb_m j && (tt_tab.getD j []).all (tb_q j)) = true := by
  have h : (tt_tab.getD 232 []).all (tb_q 232) = true := tb_spl 50 tb_c232_0 (tb_spl 50 tb_c232_50 (tb_spl 50 tb_c232_100 (tb_c232_150)))
  show ((tb_m 232 && (tt_tab.getD 232 []).all (tb_q 232)) && true) = true
  rw [tb_k232, h]
  rfl
set_option maxRecDepth 100000 in
set_option maxHeartbeats 4000000 in
theorem tb_v233 : (List.range' 233 1).all (fun j => tb_m j && (tt_tab.getD j []).all (tb_q j)) = true := by decide +kernel
set_option maxRecDepth 100000 in
set_option maxHeartbeats 4000000 in
theorem tb_c234_0 : (List.take 50 (tt_tab.getD 234 [])).all (tb_q 234) = true := by decide +kernel
set_option maxRecDepth 100000 in
set_option maxHeartbeats 4000000 in
theorem tb_c234_50 : (List.take 50 (List.drop 50 (tt_tab.getD 234 []))).all (tb_q 234) = true := by decide +kernel
set_option maxRecDepth 100000 in
set_option maxHeartbeats 4000000 in
theorem tb_c234_100 : (List.take 50 (List.drop 50 (List.drop 50 (tt_tab.getD 234 [])))).all (tb_q 234) = true := by decide +kernel
set_option maxRecDepth 100000 in
set_option maxHeartbeats 4000000 in
theorem tb_c234_150 : (List.take 50 (List.drop 50 (List.drop 50 (List.drop 50 (tt_tab.getD 234 []))))).all (tb_q 234) = true := by decide +kernel
set_option maxRecDepth 100000 in
set_option maxHeartbeats 4000000 in
theorem tb_c234_200 : (List.drop 50 (List.drop 50 (List.drop 50 (List.drop 50 (tt_tab.getD 234 []))))).all (tb_q 234) = true := by decide +kernel
set_option maxRecDepth 100000 in
set_option maxHeartbeats 4000000 in
theorem tb_k234 : tb_m 234 = true := by decide +kernel
theorem tb_v234 : (List.range' 234 1).all (fun j => tb_m j && (tt_tab.getD j []).all (tb_q j)) = true := by
  have h : (tt_tab.getD 234 []).all (tb_q 234) = true := tb_spl 50 tb_c234_0 (tb_spl 50 tb_c234_50 (tb_spl 50 tb_c234_100 (tb_spl 50 tb_c234_150 (tb_c234_200))))
  show ((tb_m 234 && (tt_tab.getD 234 []).all (tb_q 234)) && true) = true
  rw [tb_k234, h]
  rfl
set_option maxRecDepth 100000 in
set_option maxHeartbeats 4000000 in
theorem tb_v235 : (List.range' 235 3).all (fun j => tb_m j && (tt_tab.getD j []).all (tb_q j)) = true := by decide +kernel
set_option maxRecDepth 100000 in
set_option maxHeartbeats 4000000 in
theorem tb_c238_0 : (List.take 50 (tt_tab.getD 238 [])).all (tb_q 238) = true := by decide +kernel
set_option maxRecDepth 100000 in
set_option maxHeartbeats 4000000 in
theorem tb_c238_50 : (List.take 50 (List.drop 50 (tt_tab.getD 238 []))).all (tb_q 238) = true := by decide +kernel
set_option maxRecDepth 100000 in
set_option maxHeartbeats 4000000 in
theorem tb_c238_100 : (List.take 50 (List.drop 50 (List.drop 50 (tt_tab.getD 238 [])))).all (tb_q 238) = true := by decide +kernel
set_option maxRecDepth 100000 in
set_option maxHeartbeats 4000000 in
theorem tb_c238_150 : (List.drop 50 (List.drop 50 (List.drop 50 (tt_tab.getD 238 [])))).all (tb_q 238) = true := by decide +kernel
set_option maxRecDepth 100000 in
set_option maxHeartbeats 4000000 in
theorem tb_k238 : tb_m 238 = true := by decide +kernel
theorem tb_v238 : (List.range' 238 1).all (fun j => tb_m j && (tt_tab.getD j []).all (tb_q j)) = true := by
  have h : (tt_tab.getD 238 []).all (tb_q 238) = true := tb_spl 50 tb_c238_0 (tb_spl 50 tb_c238_50 (tb_spl 50 tb_c238_100 (tb_c238_150)))
  show ((tb_m 238 && (tt_tab.getD 238 []).all (tb_q 238)) && true) = true
  rw [tb_k238, h]
  rfl
set_option maxRecDepth 100000 in
set_option maxHeartbeats 4000000 in
theorem tb_v239 : (List.range' 239 3).all (fun j => tb_m j && (tt_tab.getD j []).all (tb_q j)) = true := by decide +kernel
set_option maxRecDepth 100000 in
set_option maxHeartbeats 4000000 in
theorem tb_c242_0 : (List.take 50 (tt_tab.getD 242 [])).all (tb_q 242) = true := by decide +kernel
set_option maxRecDepth 100000 in
set_option maxHeartbeats 4000000 in
theorem tb_c242_50 : (List.take 50 (List.drop 50 (tt_tab.getD 242 []))).all (tb_q 242) = true := by decide +kernel
set_option maxRecDepth 100000 in
set_option maxHeartbeats 4000000 in
theorem tb_c242_100 : (List.take 50 (List.drop 50 (List.drop 50 (tt_tab.getD 242 [])))).all (tb_q 242) = true := by decide +kernel
set_option maxRecDepth 100000 in
set_option maxHeartbeats 4000000 in
theorem tb_c242_150 : (List.take 50 (List.drop 50 (List.drop 50 (List.drop 50 (tt_tab.getD 242 []))))).all (tb_q 242) = true := by decide +kernel
set_option maxRecDepth 100000 in
set_option maxHeartbeats 4000000 in
theorem tb_c242_200 : (List.drop 50 (List.drop 50 (List.drop 50 (List.drop 50 (tt_tab.getD 242 []))))).all (tb_q 242) = true := by decide +kernel
set_option maxRecDepth 100000 in
set_option maxHeartbeats 4000000 in
theorem tb_k242 : tb_m 242 = true := by decide +kernel
theorem tb_v242 : (List.range' 242 1).all (fun j => tb_m j && (tt_tab.getD j []).all (tb_q j)) = true := by
  have h : (tt_tab.getD 242 []).all (tb_q 242) = true := tb_spl 50 tb_c242_0 (tb_spl 50 tb_c242_50 (tb_spl 50 tb_c242_100 (tb_spl 50 tb_c242_150 (tb_c242_200))))
  show ((tb_m 242 && (tt_tab.getD 242 []).all (tb_q 242)) && true) = true
  rw [tb_k242, h]
  rfl
set_option maxRecDepth 100000 in
set_option maxHeartbeats 4000000 in
theorem tb_v243 : (List.range' 243 1).all (fun j => tb_m j && (tt_tab.getD j []).all (tb_q j)) = true := by decide +kernel
