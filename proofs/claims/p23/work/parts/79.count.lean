/-! ===== how many full rows ===== -/
set_option maxRecDepth 100000 in
set_option maxHeartbeats 4000000 in
theorem th_c3 : th_ff 3 2 0 1 0 ≤ 4000 := Nat.le_of_ble_eq_true (by decide +kernel : Nat.ble (th_ff 3 2 0 1 0) 4000 = true)
set_option maxRecDepth 100000 in
set_option maxHeartbeats 4000000 in
theorem th_c4 : th_ff 4 3 0 1 0 ≤ 4000 := Nat.le_of_ble_eq_true (by decide +kernel : Nat.ble (th_ff 4 3 0 1 0) 4000 = true)
set_option maxRecDepth 100000 in
set_option maxHeartbeats 4000000 in
theorem th_c5 : th_ff 5 4 0 1 0 ≤ 4000 := Nat.le_of_ble_eq_true (by decide +kernel : Nat.ble (th_ff 5 4 0 1 0) 4000 = true)
set_option maxRecDepth 100000 in
set_option maxHeartbeats 4000000 in
theorem th_c6 : th_ff 6 5 0 1 0 ≤ 4000 := Nat.le_of_ble_eq_true (by decide +kernel : Nat.ble (th_ff 6 5 0 1 0) 4000 = true)
set_option maxRecDepth 100000 in
set_option maxHeartbeats 4000000 in
theorem th_c7 : th_ff 7 6 0 1 0 ≤ 4000 := Nat.le_of_ble_eq_true (by decide +kernel : Nat.ble (th_ff 7 6 0 1 0) 4000 = true)
set_option maxRecDepth 100000 in
set_option maxHeartbeats 4000000 in
theorem th_c8 : th_ff 8 7 0 1 0 ≤ 4000 := Nat.le_of_ble_eq_true (by decide +kernel : Nat.ble (th_ff 8 7 0 1 0) 4000 = true)
set_option maxRecDepth 100000 in
set_option maxHeartbeats 4000000 in
theorem th_c9 : th_ff 9 8 0 1 0 ≤ 4000 := Nat.le_of_ble_eq_true (by decide +kernel : Nat.ble (th_ff 9 8 0 1 0) 4000 = true)
set_option maxRecDepth 100000 in
set_option maxHeartbeats 4000000 in
theorem th_c10 : th_ff 10 9 0 1 0 ≤ 4000 := Nat.le_of_ble_eq_true (by decide +kernel : Nat.ble (th_ff 10 9 0 1 0) 4000 = true)
set_option maxRecDepth 100000 in
set_option maxHeartbeats 4000000 in
theorem th_c11_1 : th_ff 11 9 1 3 2 = 0 := Nat.eq_of_beq_eq_true (by decide +kernel)
set_option maxRecDepth 100000 in
set_option maxHeartbeats 4000000 in
theorem th_c11_2 : th_ff 11 9 2 5 4 = 0 := Nat.eq_of_beq_eq_true (by decide +kernel)
set_option maxRecDepth 100000 in
set_option maxHeartbeats 4000000 in
theorem th_c11_3 : th_ff 11 9 3 9 8 = 0 := Nat.eq_of_beq_eq_true (by decide +kernel)
set_option maxRecDepth 100000 in
set_option maxHeartbeats 4000000 in
theorem th_c11_4 : th_ff 11 9 4 17 16 = 0 := Nat.eq_of_beq_eq_true (by decide +kernel)
set_option maxRecDepth 100000 in
set_option maxHeartbeats 4000000 in
theorem th_c11_5 : th_ff 11 9 5 33 32 = 0 := Nat.eq_of_beq_eq_true (by decide +kernel)
set_option maxRecDepth 100000 in
set_option maxHeartbeats 4000000 in
theorem th_c11_6 : th_ff 11 9 6 65 64 = 0 := Nat.eq_of_beq_eq_true (by decide +kernel)
set_option maxRecDepth 100000 in
set_option maxHeartbeats 4000000 in
theorem th_c11_7 : th_ff 11 9 7 129 128 = 0 := Nat.eq_of_beq_eq_true (by decide +kernel)
set_option maxRecDepth 100000 in
set_option maxHeartbeats 4000000 in
theorem th_c11_8 : th_ff 11 9 8 257 256 = 0 := Nat.eq_of_beq_eq_true (by decide +kernel)
set_option maxRecDepth 100000 in
set_option maxHeartbeats 4000000 in
theorem th_c11_9 : th_ff 11 9 9 513 512 = 0 := Nat.eq_of_beq_eq_true (by decide +kernel)
set_option maxRecDepth 100000 in
set_option maxHeartbeats 4000000 in
theorem th_c11_10 : th_ff 11 9 10 1025 1024 = 0 := Nat.eq_of_beq_eq_true (by decide +kernel)
set_option maxRecDepth 100000 in
set_option maxHeartbeats 4000000 in
theorem th_d11 (F : Nat → Nat → Nat → Nat) : th_r 11 F 0 1 0 (th_B 11 0 1 0) 11 = F 1 3 2 + (F 2 5 4 + (F 3 9 8 + (F 4 17 16 + (F 5 33 32 + (F 6 65 64 + (F 7 129 128 + (F 8 257 256 + (F 9 513 512 + (F 10 1025 1024 + (0)))))))))) := rfl
set_option maxRecDepth 100000 in
set_option maxHeartbeats 4000000 in
theorem th_c11 : th_ff 11 10 0 1 0 ≤ 4000 := by
  rw [th_ff_s 11 9, th_d11, th_c11_1, th_c11_2, th_c11_3, th_c11_4, th_c11_5, th_c11_6, th_c11_7, th_c11_8, th_c11_9, th_c11_10]
  decide
set_option maxRecDepth 100000 in
set_option maxHeartbeats 4000000 in
theorem th_c12_1 : th_ff 12 10 1 3 2 = 382 := Nat.eq_of_beq_eq_true (by decide +kernel)
set_option maxRecDepth 100000 in
set_option maxHeartbeats 4000000 in
theorem th_c12_2 : th_ff 12 10 2 5 4 = 356 := Nat.eq_of_beq_eq_true (by decide +kernel)
set_option maxRecDepth 100000 in
set_option maxHeartbeats 4000000 in
theorem th_c12_3 : th_ff 12 10 3 9 8 = 424 := Nat.eq_of_beq_eq_true (by decide +kernel)
set_option maxRecDepth 100000 in
set_option maxHeartbeats 4000000 in
theorem th_c12_4 : th_ff 12 10 4 17 16 = 384 := Nat.eq_of_beq_eq_true (by decide +kernel)
set_option maxRecDepth 100000 in
set_option maxHeartbeats 4000000 in
theorem th_c12_5 : th_ff 12 10 5 33 32 = 382 := Nat.eq_of_beq_eq_true (by decide +kernel)
set_option maxRecDepth 100000 in
set_option maxHeartbeats 4000000 in
theorem th_c12_6 : th_ff 12 10 6 65 64 = 0 := Nat.eq_of_beq_eq_true (by decide +kernel)
set_option maxRecDepth 100000 in
set_option maxHeartbeats 4000000 in
theorem th_c12_7 : th_ff 12 10 7 129 128 = 382 := Nat.eq_of_beq_eq_true (by decide +kernel)
set_option maxRecDepth 100000 in
set_option maxHeartbeats 4000000 in
theorem th_c12_8 : th_ff 12 10 8 257 256 = 384 := Nat.eq_of_beq_eq_true (by decide +kernel)
set_option maxRecDepth 100000 in
set_option maxHeartbeats 4000000 in
theorem th_c12_9 : th_ff 12 10 9 513 512 = 424 := Nat.eq_of_beq_eq_true (by decide +kernel)
set_option maxRecDepth 100000 in
set_option maxHeartbeats 4000000 in
theorem th_c12_10 : th_ff 12 10 10 1025 1024 = 356 := Nat.eq_of_beq_eq_true (by decide +kernel)
set_option maxRecDepth 100000 in
set_option maxHeartbeats 4000000 in
theorem th_c12_11 : th_ff 12 10 11 2049 2048 = 382 := Nat.eq_of_beq_eq_true (by decide +kernel)
set_option maxRecDepth 100000 in
set_option maxHeartbeats 4000000 in
theorem th_d12 (F : Nat → Nat → Nat → Nat) : th_r 12 F 0 1 0 (th_B 12 0 1 0) 12 = F 1 3 2 + (F 2 5 4 + (F 3 9 8 + (F 4 17 16 + (F 5 33 32 + (F 6 65 64 + (F 7 129 128 + (F 8 257 256 + (F 9 513 512 + (F 10 1025 1024 + (F 11 2049 2048 + (0))))))))))) := rfl
set_option maxRecDepth 100000 in
set_option maxHeartbeats 4000000 in
theorem th_c12 : th_ff 12 11 0 1 0 ≤ 4000 := by
  rw [th_ff_s 12 10, th_d12, th_c12_1, th_c12_2, th_c12_3, th_c12_4, th_c12_5, th_c12_6, th_c12_7, th_c12_8, th_c12_9, th_c12_10, th_c12_11]
  decide
theorem th_cnt {n : Nat} (h3 : 3 ≤ n) (hn : n ≤ 12) : th_ff n (n - 1) 0 1 0 ≤ 4000 := by
  rcases (by omega : n = 3 ∨ n = 4 ∨ n = 5 ∨ n = 6 ∨ n = 7 ∨ n = 8 ∨ n = 9 ∨ n = 10 ∨ n = 11 ∨ n = 12) with rfl | rfl | rfl | rfl | rfl | rfl | rfl | rfl | rfl | rfl
  · exact th_c3
  · exact th_c4
  · exact th_c5
  · exact th_c6
  · exact th_c7
  · exact th_c8
  · exact th_c9
  · exact th_c10
  · exact th_c11
  · exact th_c12
