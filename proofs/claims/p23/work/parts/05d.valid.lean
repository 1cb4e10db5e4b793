/-! ===== the tables are right: by the kernel ===== -/
set_option maxRecDepth 100000 in
set_option maxHeartbeats 4000000 in
theorem tb_v138 : (List.range' 138 9).all (fun j => tb_m j && (tt_tab.getD j []).all (tb_q j)) = true := by decide +kernel
set_option maxRecDepth 100000 in
set_option maxHeartbeats 4000000 in
theorem tb_v147 : (List.range' 147 6).all (fun j => tb_m j && (tt_tab.getD j []).all (tb_q j)) = true := by decide +kernel
set_option maxRecDepth 100000 in
set_option maxHeartbeats 4000000 in
theorem tb_v153 : (List.range' 153 7).all (fun j => tb_m j && (tt_tab.getD j []).all (tb_q j)) = true := by decide +kernel
set_option maxRecDepth 100000 in
set_option maxHeartbeats 4000000 in
theorem tb_v160 : (List.range' 160 5).all (fun j => tb_m j && (tt_tab.getD j []).all (tb_q j)) = true := by decide +kernel
set_option maxRecDepth 100000 in
set_option maxHeartbeats 4000000 in
theorem tb_v165 : (List.range' 165 5).all (fun j => tb_m j && (tt_tab.getD j []).all (tb_q j)) = true := by decide +kernel
set_option maxRecDepth 100000 in
set_option maxHeartbeats 4000000 in
theorem tb_v170 : (List.range' 170 2).all (fun j => tb_m j && (tt_tab.getD j []).all (tb_q j)) = true := by decide +kernel
set_option maxRecDepth 100000 in
set_option maxHeartbeats 4000000 in
theorem tb_v172 : (List.range' 172 5).all (fun j => tb_m j && (tt_tab.getD j []).all (tb_q j)) = true := by decide +kernel
set_option maxRecDepth 100000 in
set_option maxHeartbeats 4000000 in
theorem tb_v177 : (List.range' 177 3).all (fun j => tb_m j && (tt_tab.getD j []).all (tb_q j)) = true := by decide +kernel
