/-! ===== the tables are right: by the kernel ===== -/
set_option maxRecDepth 100000 in
set_option maxHeartbeats 4000000 in
theorem tb_v180 : (List.range' 180 1).all (fun j => tb_m j && (tt_tab.getD j []).all (tb_q j)) = true := by decide +kernel
set_option maxRecDepth 100000 in
set_option maxHeartbeats 4000000 in
theorem tb_c181_0 : (List.take 50 (tt_tab.getD 181 [])).all (tb_q 181) = true := by decide +kernel
set_option maxRecDepth 100000 in
set_option maxHeartbeats 4000000 in
theorem tb_c181_50 : (List.take 50 (List.drop 50 (tt_tab.getD 181 []))).all (tb_q 181) = true := by decide +kernel
set_option maxRecDepth 100000 in
set_option maxHeartbeats 4000000 in
theorem tb_c181_100 : (List.take 50 (List.drop 50 (List.drop 50 (tt_tab.getD 181 [])))).all (tb_q 181) = true := by decide +kernel
set_option maxRecDepth 100000 in
set_option maxHeartbeats 4000000 in
theorem tb_c181_150 : (List.drop 50 (List.drop 50 (List.drop 50 (tt_tab.getD 181 [])))).all (tb_q 181) = true := by decide +kernel
set_option maxRecDepth 100000 in
set_option maxHeartbeats 4000000 in
theorem tb_k181 : tb_m 181 = true := by decide +kernel
theorem tb_v181 : (List.range' 181 1).all (fun j => tb_m j && (tt_tab.getD j []).all (tb_q j)) = true := by
  have h : (tt_tab.getD 181 []).all (tb_q 181) = true := tb_spl 50 tb_c181_0 (tb_spl 50 tb_c181_50 (tb_spl 50 tb_c181_100 (tb_c181_150)))
  show ((tb_m 181 && (tt_tab.getD 181 []).all (tb_q 181)) && true) = true
  rw [tb_k181, h]
  rfl
set_option maxRecDepth 100000 in
set_option maxHeartbeats 4000000 in
theorem tb_c182_0 : (List.take 50 (tt_tab.getD 182 [])).all (tb_q 182) = true := by decide +kernel
set_option maxRecDepth 100000 in
set_option maxHeartbeats 4000000 in
theorem tb_c182_50 : (List.take 50 (List.drop 50 (tt_tab.getD 182 []))).all (tb_q 182) = true := by decide +kernel
set_option maxRecDepth 100000 in
set_option maxHeartbeats 4000000 in
theorem tb_c182_100 : (List.take 50 (List.drop 50 (List.drop 50 (tt_tab.getD 182 [])))).all (tb_q 182) = true := by decide +kernel
set_option maxRecDepth 100000 in
set_option maxHeartbeats 4000000 in
theorem tb_c182_150 : (List.drop 50 (List.drop 50 (List.drop 50 (tt_tab.getD 182 [])))).all (tb_q 182) = true := by decide +kernel
set_option maxRecDepth 100000 in
set_option maxHeartbeats 4000000 in
theorem tb_k182 : tb_m 182 = true := by decide +kernel
theorem tb_v182 : (List.range' 182 1).all (fun j => tb_m j && (tt_tab.getD j []).all (tb_q j)) = true := by
  have h : (tt_tab.getD 182 []).all (tb_q 182) = true := tb_spl 50 tb_c182_0 (tb_spl 50 tb_c182_50 (tb_spl 50 tb_c182_100 (tb_c182_150)))
  show ((tb_m 182 && (tt_tab.getD 182 []).all (tb_q 182)) && true) = true
  rw [tb_k182, h]
  rfl
set_option maxRecDepth 100000 in
set_option maxHeartbeats 4000000 in
theorem tb_v183 : (List.range' 183 1).all (fun j => tb_m j && (tt_tab.getD j []).all (tb_q j)) = true := by decide +kernel
set_option maxRecDepth 100000 in
set_option maxHeartbeats 4000000 in
theorem tb_c184_0 : (List.take 50 (tt_tab.getD 184 [])).all (tb_q 184) = true := by decide +kernel
set_option maxRecDepth 100000 in
set_option maxHeartbeats 4000000 in
theorem tb_c184_50 : (List.take 50 (List.drop 50 (tt_tab.getD 184 []))).all (tb_q 184) = true := by decide +kernel
set_option maxRecDepth 100000 in
set_option maxHeartbeats 4000000 in
theorem tb_c184_100 : (List.take 50 (List.drop 50 (List.drop 50 (tt_tab.getD 184 [])))).all (tb_q 184) = true := by decide +kernel
set_option maxRecDepth 100000 in
set_option maxHeartbeats 4000000 in
theorem tb_c184_150 : (List.take 50 (List.drop 50 (List.drop 50 (List.drop 50 (tt_tab.getD 184 []))))).all (tb_q 184) = true := by decide +kernel
set_option maxRecDepth 100000 in
set_option maxHeartbeats 4000000 in
theorem tb_c184_200 : (List.drop 50 (List.drop 50 (List.drop 50 (List.drop 50 (tt_tab.getD 184 []))))).all (tb_q 184) = true := by decide +kernel
set_option maxRecDepth 100000 in
set_option maxHeartbeats 4000000 in
theorem tb_k184 : tb_m 184 = true := by decide +kernel
theorem tb_v184 : (List.range' 184 1).all (fun j => tb_m j && (tt_tab.getD j []).all (tb_q j)) = true := by
  have h : (tt_tab.getD 184 []).all (tb_q 184) = true := tb_spl 50 tb_c184_0 (tb_spl 50 tb_c184_50 (tb_spl 50 tb_c184_100 (tb_spl 50 tb_c184_150 (tb_c184_200))))
  show ((tb_m 184 && (tt_tab.getD 184 []).all (tb_q 184)) && true) = true
  rw [tb_k184, h]
  rfl
set_option maxRecDepth 100000 in
set_option maxHeartbeats 4000000 in
theorem tb_v185 : (List.range' 185 5).all (fun j => tb_m j && (tt_tab.getD j []).all (tb_q j)) = true := by decide +kernel
set_option maxRecDepth 100000 in
set_option maxHeartbeats 4000000 in
theorem tb_v190 : (List.range' 190 2).all (fun j => tb_m j && (tt_tab.getD j []).all (tb_q j)) = true := by decide +kernel
set_option maxRecDepth 100000 in
set_option maxHeartbeats 4000000 in
theorem tb_c192_0 : (List.take 50 (tt_tab.getD 192 [])).all (tb_q 192) = true := by decide +kernel
set_option maxRecDepth 100000 in
set_option maxHeartbeats 4000000 in
theorem tb_c192_50 : (List.take 50 (List.drop 50 (tt_tab.getD 192 []))).all (tb_q 192) = true := by decide +kernel
set_option maxRecDepth 100000 in
set_option maxHeartbeats 4000000 in
theorem tb_c192_100 : (List.take 50 (List.drop 50 (List.drop 50 (tt_tab.getD 192 [])))).all (tb_q 192) = true := by decide +kernel
set_option maxRecDepth 100000 in
set_option maxHeartbeats 4000000 in
theorem tb_c192_150 : (List.drop 50 (List.drop 50 (List.drop 50 (tt_tab.getD 192 [])))).all (tb_q 192) = true := by decide +kernel
set_option maxRecDepth 100000 in
set_option maxHeartbeats 4000000 in
theorem tb_k192 : tb_m 192 = true := by decide +kernel
theorem tb_v192 : (List.range' 192 1).all (fun j => tb_m j && (tt_tab.getD j []).all (tb_q j)) = true := by
  have h : (tt_tab.getD 192 []).all (tb_q 192) = true := tb_spl 50 tb_c192_0 (tb_spl 50 tb_c192_50 (tb_spl 50 tb_c192_100 (tb_c192_150)))
  show ((tb_m 192 && (tt_tab.getD 192 []).all (tb_q 192)) && true) = true
  rw [tb_k192, h]
  rfl
set_option maxRecDepth 100000 in
set_option maxHeartbeats 4000000 in
theorem tb_v193 : (List.range' 193 2).all (fun j => tb_m j && (tt_tab.getD j []).all (tb_q j)) = true := by decide +kernel
set_option maxRecDepth 100000 in
set_option maxHeartbeats 4000000 in
theorem tb_v195 : (List.range' 195 1).all (fun j => tb_m j && (tt_tab.getD j []).all (tb_q j)) = true := by decide +kernel
set_option maxRecDepth 100000 in
set_option maxHeartbeats 4000000 in
theorem tb_v196 : (List.range' 196 2).all (fun j => tb_m j && (tt_tab.getD j []).all (tb_q j)) = true := by decide +kernel
set_option maxRecDepth 100000 in
set_option maxHeartbeats 4000000 in
theorem tb_c198_0 : (List.take 50 (tt_tab.getD 198 [])).all (tb_q 198) = true := by decide +kernel
set_option maxRecDepth 100000 in
set_option maxHeartbeats 4000000 in
theorem tb_c198_50 : (List.take 50 (List.drop 50 (tt_tab.getD 198 []))).all (tb_q 198) = true := by decide +kernel
set_option maxRecDepth 100000 in
set_option maxHeartbeats 4000000 in
theorem tb_c198_100 : (List.take 50 (List.drop 50 (List.drop 50 (tt_tab.getD 198 [])))).all (tb_q 198) = true := by decide +kernel
set_option maxRecDepth 100000 in
set_option maxHeartbeats 4000000 in
theorem tb_c198_150 : (List.take 50 (List.drop 50 (List.drop 50 (List.drop 50 (tt_tab.getD 198 []))))).all (tb_q 198) = true := by decide +kernel
set_option maxRecDepth 100000 in
set_option maxHeartbeats 4000000 in
theorem tb_c198_200 : (List.drop 50 (List.drop 50 (List.drop 50 (List.drop 50 (tt_tab.getD 198 []))))).all (tb_q 198) = true := by decide +kernel
set_option maxRecDepth 100000 in
set_option maxHeartbeats 4000000 in
theorem tb_k198 : tb_m 198 = true := by decide +kernel
theorem tb_v198 : (List.range' 198 1).all (fun j => tb_m j && (tt_tab.getD j []).all (tb_q j)) = true := by
  have h : (tt_tab.getD 198 []).all (tb_q 198) = true := tb_spl 50 tb_c198_0 (tb_spl 50 tb_c198_50 (tb_spl 50 tb_c198_100 (tb_spl 50 tb_c198_150 (tb_c198_200))))
  show ((tb_m 198 && (tt_tab.getD 198 []).all (tb_q 198)) && true) = true
  rw [tb_k198, h]
  rfl
