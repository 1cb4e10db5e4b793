/-! ===== contexts by hand: words ===== -/
theorem tv_un_rf {σ : tm_S} {w : List (Nat × Nat)} : tv_un σ σ w := ⟨fun _ _ _ _ _ => rfl, fun _ _ _ _ => ⟨rfl, rfl⟩⟩
theorem tv_un_tr {a b c : tm_S} {w : List (Nat × Nat)} (h1 : tv_un a b w) (h2 : tv_un b c w) : tv_un a c w := ⟨fun k j kd h m => (h2.1 k j kd h m).trans (h1.1 k j kd h m), fun k q h m => ⟨(h2.2 k q h m).1.trans (h1.2 k q h m).1, (h2.2 k q h m).2.trans (h1.2 k q h m).2⟩⟩
theorem tv_un_ar {σ : tm_S} {p k : Nat} {x : Int32} {q : Nat × Nat} {w : List (Nat × Nat)} (h : tt_shp[p]? = some (.inr q)) (hm : tv_mem w p 64 = true) : tv_un σ (tm_sI σ p k x) w := ⟨fun a b kd h1 _ => tv_keepI h a b kd h1, fun k2 _ _ h2 => tm_sI_ar (fun e => by rw [e, hm] at h2; cases h2)⟩
theorem tv_un_aJ {σ : tm_S} {p k : Nat} {x : Int64} {q : Nat × Nat} {w : List (Nat × Nat)} (h : tt_shp[p]? = some (.inr q)) (hm : tv_mem w p 64 = true) : tv_un σ (tm_sJ σ p k x) w := ⟨fun a b kd h1 _ => tv_keepJ h a b kd h1, fun k2 _ _ h2 => tm_sJ_ar (fun e => by rw [e, hm] at h2; cases h2)⟩
def tv_isO (p : Nat) : Bool := match tt_shp[p]? with
  | some (.inl _) => true
  | _ => false
theorem tv_un_fI {σ : tm_S} {p k : Nat} {x : Int32} {w : List (Nat × Nat)} (hm : tv_mem w p k = true) (ho : tv_isO p = true := by rfl) : tv_un σ (tm_sI σ p k x) w := by
  refine ⟨fun a b kd _ h => tv_val_sI (fun e => by rw [e.1, e.2, hm] at h; cases h) kd, fun k2 q h1 h2 => tm_sI_ar ?_⟩
  rintro rfl
  unfold tv_isO at ho
  rw [h1] at ho
  cases ho
theorem tv_mem_mo {w w' : List (Nat × Nat)} {k j : Nat} (hw : ∀ q ∈ w, tv_mem w' q.1 q.2 = true) (h2 : tv_mem w' k j = false) : tv_mem w k j = false := by
  cases e : tv_mem w k j with
  | false => rfl
  | true =>
    unfold tv_mem at e
    obtain ⟨q, hq, e1⟩ := List.any_eq_true.mp e
    rw [Bool.and_eq_true] at e1
    have h3 := hw q hq
    rw [tv_beq e1.1, tv_beq e1.2, h2] at h3
    cases h3
theorem tv_un_mo {a b : tm_S} {w w' : List (Nat × Nat)} (h : tv_un a b w) (hw : ∀ q ∈ w, tv_mem w' q.1 q.2 = true) : tv_un a b w' := ⟨fun k j kd h1 h2 => h.1 k j kd h1 (tv_mem_mo hw h2), fun k q h1 h2 => h.2 k q h1 (tv_mem_mo hw h2)⟩
theorem tv_un_a {a b : tm_S} {w : List (Nat × Nat)} {k : Nat} {q : Nat × Nat} (h : tv_un a b w) (hk : tt_shp[k]? = some (.inr q)) (hm : tv_mem w k 64 = false) : b.1 k = a.1 k ∧ b.2.1 k = a.2.1 k := h.2 k q hk hm
theorem tv_Snd_up {T : tv_TT} {j r r' : Nat} {a : List tv_T} {h h' : List tv_H} {cs : List (tv_T × List (Nat × Int × Int))} {w : List (Nat × Nat)} (hs : tv_Snd T (j, a, h, cs, w, r)) (hr : r ≤ r') : tv_Snd T (j, a, h', cs, w, r') := fun As σ hva hT => WM.deep (hs As σ hva hT) hr
theorem tv_va1 {t : tv_T} {As : List Value} (h : tv_va [t] As) : ∃ x, As = [x] ∧ tv_vt t x := by
  match As, h with
  | [x], h => exact ⟨x, rfl, h.1⟩
theorem tv_va2 {t u : tv_T} {As : List Value} (h : tv_va [t, u] As) : ∃ x y, As = [x, y] ∧ tv_vt t x ∧ tv_vt u y := by
  match As, h with
  | [x, y], h => exact ⟨x, y, rfl, h.1, h.2.1⟩
theorem tv_va3 {t u v : tv_T} {As : List Value} (h : tv_va [t, u, v] As) : ∃ x y z, As = [x, y, z] ∧ tv_vt t x ∧ tv_vt u y ∧ tv_vt v z := by
  match As, h with
  | [x, y, z], h => exact ⟨x, y, z, rfl, h.1, h.2.1, h.2.2.1⟩
theorem tv_va4 {t u v w : tv_T} {As : List Value} (h : tv_va [t, u, v, w] As) : ∃ x y z z2, As = [x, y, z, z2] ∧ tv_vt t x ∧ tv_vt u y ∧ tv_vt v z ∧ tv_vt w z2 := by
  match As, h with
  | [x, y, z, z2], h => exact ⟨x, y, z, z2, rfl, h.1, h.2.1, h.2.2.1, h.2.2.2.1⟩
/-- one case, nothing said of the arguments -/
theorem tv_Qc1 {T : tv_TT} {j rk : Nat} {a : List tv_T} {h : List tv_H} {t : tv_T} {w : List (Nat × Nat)} {As : List Value} {σ σ' : tm_S} {r : Option Value} (h1 : tv_TY T σ') (h2 : tv_un σ σ' w) (h3 : tv_rv r t) : tv_Qc T (j, a, h, [(t, [])], w, rk) As σ r σ' := ⟨h1, h2, _, List.mem_cons_self, h3, fun w hw => nomatch hw⟩
theorem tv_rvi {z : Int32} {lo hi : Int} (h1 : lo ≤ z.toInt) (h2 : z.toInt ≤ hi) : tv_rv (some (.int z)) (1, lo, hi) := Or.inr ⟨_, rfl, z, rfl, h1, h2⟩
theorem tv_rva {z : Int32} : tv_rv (some (.int z)) (1, (-2147483648), 2147483647) := tv_rvi (tn_rng z).1 (tn_rng z).2
theorem tv_rvn {a b : Int} : tv_rv none (0, a, b) := Or.inl ⟨rfl, rfl⟩
theorem th_bit63 (x : Int32) : 0 ≤ (th_bit x).toInt ∧ (th_bit x).toInt ≤ 63 := by
  unfold th_bit
  obtain ⟨j, h1, h2⟩ := pk_andE (th_b4 (th_b3 (th_b2 (th_b1 (th_b0 x))))) (m := 63) 6 (by decide)
  rw [h2, nI_toInt (by omega)]
  omega
set_option maxRecDepth 100000 in
theorem th_bit12k : (List.range 4096).all (fun n => decide ((th_bit (nI n)).toInt ≤ 12) && (Nat.beq n 4095 || decide ((th_bit (nI n)).toInt ≤ 11))) = true := by decide +kernel
theorem th_bit12 {x : Int32} (h1 : 0 ≤ x.toInt) (h2 : x.toInt ≤ 4095) : (th_bit x).toInt ≤ 12 ∧ (x.toInt ≤ 4094 → (th_bit x).toInt ≤ 11) := by
  obtain ⟨j, hj, rfl⟩ := nI_of (x := x) (by rw [tn_ltI]; show ¬ x.toInt < 0; omega)
  rw [nI_toInt hj] at h2 ⊢
  have h := List.all_eq_true.mp th_bit12k j (List.mem_range.mpr (by omega))
  simp only [Bool.and_eq_true, Bool.or_eq_true, decide_eq_true_eq] at h
  refine ⟨h.1, fun h3 => ?_⟩
  rcases h.2 with e | e
  · have := tv_beq e
    omega
  · exact e
set_option maxRecDepth 100000 in
set_option maxHeartbeats 4000000 in
theorem ts_bit0 {v : Int}  : tv_Snd (tc_T v) (25, [(1, (-2147483648), 2147483647)], [], [((1, 0, 63), [])], [], 40) := by
  intro As σ hva hT
  obtain ⟨x0, rfl, h0⟩ := tv_va1 hva
  obtain ⟨a0, rfl, l0, u0⟩ := h0
  exact th_bitCount a0 (tv_Qc1 hT tv_un_rf (tv_rvi (th_bit63 a0).1 ((th_bit63 a0).2)))
set_option maxRecDepth 100000 in
set_option maxHeartbeats 4000000 in
theorem ts_bit1 {v : Int}  : tv_Snd (tc_T v) (25, [(1, 0, 4094)], [], [((1, 0, 11), [])], [], 40) := by
  intro As σ hva hT
  obtain ⟨x0, rfl, h0⟩ := tv_va1 hva
  obtain ⟨a0, rfl, l0, u0⟩ := h0
  exact th_bitCount a0 (tv_Qc1 hT tv_un_rf (tv_rvi (th_bit63 a0).1 ((th_bit12 l0 (by omega)).2 u0)))
set_option maxRecDepth 100000 in
set_option maxHeartbeats 4000000 in
theorem ts_bit2 {v : Int}  : tv_Snd (tc_T v) (25, [(1, 0, 4095)], [], [((1, 0, 12), [])], [], 40) := by
  intro As σ hva hT
  obtain ⟨x0, rfl, h0⟩ := tv_va1 hva
  obtain ⟨a0, rfl, l0, u0⟩ := h0
  exact th_bitCount a0 (tv_Qc1 hT tv_un_rf (tv_rvi (th_bit63 a0).1 ((th_bit12 l0 u0).1)))
set_option maxRecDepth 100000 in
set_option maxHeartbeats 4000000 in
theorem ts_len0 {v : Int}  : tv_Snd (tc_T v) (105, [(3, 86, 86)], [], [((1, 4, 4), [])], [], 40) := by
  intro As σ hva hT
  obtain ⟨x0, rfl, h0⟩ := tv_va1 hva
  obtain ⟨k0, rfl, l0, u0⟩ := h0
  obtain rfl : k0 = 86 := by omega
  refine WM.mono (th_len (q := 4) (by decide)) ?_
  rintro r σ1 ⟨rfl, rfl⟩
  exact tv_Qc1 hT tv_un_rf (tv_rvi (by decide) (by decide))
set_option maxRecDepth 100000 in
set_option maxHeartbeats 4000000 in
theorem ts_len1 {v : Int}  : tv_Snd (tc_T v) (105, [(3, 87, 87)], [], [((1, 3, 3), [])], [], 40) := by
  intro As σ hva hT
  obtain ⟨x0, rfl, h0⟩ := tv_va1 hva
  obtain ⟨k0, rfl, l0, u0⟩ := h0
  obtain rfl : k0 = 87 := by omega
  refine WM.mono (th_len (q := 5) (by decide)) ?_
  rintro r σ1 ⟨rfl, rfl⟩
  exact tv_Qc1 hT tv_un_rf (tv_rvi (by decide) (by decide))
set_option maxRecDepth 100000 in
set_option maxHeartbeats 4000000 in
theorem ts_len2 {v : Int}  : tv_Snd (tc_T v) (105, [(3, 88, 88)], [], [((1, 2, 2), [])], [], 40) := by
  intro As σ hva hT
  obtain ⟨x0, rfl, h0⟩ := tv_va1 hva
  obtain ⟨k0, rfl, l0, u0⟩ := h0
  obtain rfl : k0 = 88 := by omega
  refine WM.mono (th_len (q := 6) (by decide)) ?_
  rintro r σ1 ⟨rfl, rfl⟩
  exact tv_Qc1 hT tv_un_rf (tv_rvi (by decide) (by decide))
set_option maxRecDepth 100000 in
set_option maxHeartbeats 4000000 in
theorem ts_len3 {v : Int}  : tv_Snd (tc_T v) (105, [(3, 89, 89)], [], [((1, 6, 6), [])], [], 40) := by
  intro As σ hva hT
  obtain ⟨x0, rfl, h0⟩ := tv_va1 hva
  obtain ⟨k0, rfl, l0, u0⟩ := h0
  obtain rfl : k0 = 89 := by omega
  refine WM.mono (th_len (q := 7) (by decide)) ?_
  rintro r σ1 ⟨rfl, rfl⟩
  exact tv_Qc1 hT tv_un_rf (tv_rvi (by decide) (by decide))
set_option maxRecDepth 100000 in
set_option maxHeartbeats 4000000 in
theorem ts_len4 {v : Int}  : tv_Snd (tc_T v) (105, [(3, 90, 90)], [], [((1, 4, 4), [])], [], 40) := by
  intro As σ hva hT
  obtain ⟨x0, rfl, h0⟩ := tv_va1 hva
  obtain ⟨k0, rfl, l0, u0⟩ := h0
  obtain rfl : k0 = 90 := by omega
  refine WM.mono (th_len (q := 8) (by decide)) ?_
  rintro r σ1 ⟨rfl, rfl⟩
  exact tv_Qc1 hT tv_un_rf (tv_rvi (by decide) (by decide))
set_option maxRecDepth 100000 in
set_option maxHeartbeats 4000000 in
theorem ts_len5 {v : Int}  : tv_Snd (tc_T v) (105, [(3, 91, 91)], [], [((1, 3, 3), [])], [], 40) := by
  intro As σ hva hT
  obtain ⟨x0, rfl, h0⟩ := tv_va1 hva
  obtain ⟨k0, rfl, l0, u0⟩ := h0
  obtain rfl : k0 = 91 := by omega
  refine WM.mono (th_len (q := 9) (by decide)) ?_
  rintro r σ1 ⟨rfl, rfl⟩
  exact tv_Qc1 hT tv_un_rf (tv_rvi (by decide) (by decide))
theorem th_chr255 (q : Nat) (i : Int32) : 0 ≤ (th_chr q i).toInt ∧ (th_chr q i).toInt ≤ 255 := by
  unfold th_chr
  rw [sc_c2]
  obtain ⟨j, h1, h2⟩ := pk_andE ((tt_byt.getD q []).getD i.toNatClampNeg 0) (m := 255) 8 (by decide)
  rw [h2, nI_toInt (by omega)]
  omega
set_option maxRecDepth 100000 in
set_option maxHeartbeats 4000000 in
theorem ts_chr0 {v : Int}  : tv_Snd (tc_T v) (107, [(3, 85, 85), (1, 0, 3)], [], [((1, 0, 255), [])], [], 40) := by
  intro As σ hva hT
  obtain ⟨x0, x1, rfl, h0, h1⟩ := tv_va2 hva
  obtain ⟨k0, rfl, l0, u0⟩ := h0
  obtain rfl : k0 = 85 := by omega
  obtain ⟨a1, rfl, l1, u1⟩ := h1
  refine WM.mono (th_chA (q := 3) (by decide) (i := a1) (tn_in l1 (by show a1.toInt < (4 : Nat); omega))) ?_
  rintro r σ1 ⟨rfl, rfl⟩
  exact tv_Qc1 hT tv_un_rf (tv_rvi (th_chr255 _ _).1 (th_chr255 _ _).2)
set_option maxRecDepth 100000 in
set_option maxHeartbeats 4000000 in
theorem ts_chr1 {v : Int}  : tv_Snd (tc_T v) (107, [(3, 86, 86), (1, 0, 3)], [], [((1, 0, 255), [])], [], 40) := by
  intro As σ hva hT
  obtain ⟨x0, x1, rfl, h0, h1⟩ := tv_va2 hva
  obtain ⟨k0, rfl, l0, u0⟩ := h0
  obtain rfl : k0 = 86 := by omega
  obtain ⟨a1, rfl, l1, u1⟩ := h1
  refine WM.mono (th_chA (q := 4) (by decide) (i := a1) (tn_in l1 (by show a1.toInt < (4 : Nat); omega))) ?_
  rintro r σ1 ⟨rfl, rfl⟩
  exact tv_Qc1 hT tv_un_rf (tv_rvi (th_chr255 _ _).1 (th_chr255 _ _).2)
set_option maxRecDepth 100000 in
set_option maxHeartbeats 4000000 in
theorem ts_chr2 {v : Int}  : tv_Snd (tc_T v) (107, [(3, 87, 87), (1, 0, 2)], [], [((1, 0, 255), [])], [], 40) := by
  intro As σ hva hT
  obtain ⟨x0, x1, rfl, h0, h1⟩ := tv_va2 hva
  obtain ⟨k0, rfl, l0, u0⟩ := h0
  obtain rfl : k0 = 87 := by omega
  obtain ⟨a1, rfl, l1, u1⟩ := h1
  refine WM.mono (th_chA (q := 5) (by decide) (i := a1) (tn_in l1 (by show a1.toInt < (3 : Nat); omega))) ?_
  rintro r σ1 ⟨rfl, rfl⟩
  exact tv_Qc1 hT tv_un_rf (tv_rvi (th_chr255 _ _).1 (th_chr255 _ _).2)
set_option maxRecDepth 100000 in
set_option maxHeartbeats 4000000 in
theorem ts_chr3 {v : Int}  : tv_Snd (tc_T v) (107, [(3, 88, 88), (1, 0, 1)], [], [((1, 0, 255), [])], [], 40) := by
  intro As σ hva hT
  obtain ⟨x0, x1, rfl, h0, h1⟩ := tv_va2 hva
  obtain ⟨k0, rfl, l0, u0⟩ := h0
  obtain rfl : k0 = 88 := by omega
  obtain ⟨a1, rfl, l1, u1⟩ := h1
  refine WM.mono (th_chA (q := 6) (by decide) (i := a1) (tn_in l1 (by show a1.toInt < (2 : Nat); omega))) ?_
  rintro r σ1 ⟨rfl, rfl⟩
  exact tv_Qc1 hT tv_un_rf (tv_rvi (th_chr255 _ _).1 (th_chr255 _ _).2)
set_option maxRecDepth 100000 in
set_option maxHeartbeats 4000000 in
theorem ts_chr4 {v : Int}  : tv_Snd (tc_T v) (107, [(3, 89, 89), (1, 0, 5)], [], [((1, 0, 255), [])], [], 40) := by
  intro As σ hva hT
  obtain ⟨x0, x1, rfl, h0, h1⟩ := tv_va2 hva
  obtain ⟨k0, rfl, l0, u0⟩ := h0
  obtain rfl : k0 = 89 := by omega
  obtain ⟨a1, rfl, l1, u1⟩ := h1
  refine WM.mono (th_chA (q := 7) (by decide) (i := a1) (tn_in l1 (by show a1.toInt < (6 : Nat); omega))) ?_
  rintro r σ1 ⟨rfl, rfl⟩
  exact tv_Qc1 hT tv_un_rf (tv_rvi (th_chr255 _ _).1 (th_chr255 _ _).2)
set_option maxRecDepth 100000 in
set_option maxHeartbeats 4000000 in
theorem ts_chr5 {v : Int}  : tv_Snd (tc_T v) (107, [(3, 90, 90), (1, 0, 3)], [], [((1, 0, 255), [])], [], 40) := by
  intro As σ hva hT
  obtain ⟨x0, x1, rfl, h0, h1⟩ := tv_va2 hva
  obtain ⟨k0, rfl, l0, u0⟩ := h0
  obtain rfl : k0 = 90 := by omega
  obtain ⟨a1, rfl, l1, u1⟩ := h1
  refine WM.mono (th_chA (q := 8) (by decide) (i := a1) (tn_in l1 (by show a1.toInt < (4 : Nat); omega))) ?_
  rintro r σ1 ⟨rfl, rfl⟩
  exact tv_Qc1 hT tv_un_rf (tv_rvi (th_chr255 _ _).1 (th_chr255 _ _).2)
set_option maxRecDepth 100000 in
set_option maxHeartbeats 4000000 in
theorem ts_chr6 {v : Int}  : tv_Snd (tc_T v) (107, [(3, 91, 91), (1, 0, 2)], [], [((1, 0, 255), [])], [], 40) := by
  intro As σ hva hT
  obtain ⟨x0, x1, rfl, h0, h1⟩ := tv_va2 hva
  obtain ⟨k0, rfl, l0, u0⟩ := h0
  obtain rfl : k0 = 91 := by omega
  obtain ⟨a1, rfl, l1, u1⟩ := h1
  refine WM.mono (th_chA (q := 9) (by decide) (i := a1) (tn_in l1 (by show a1.toInt < (3 : Nat); omega))) ?_
  rintro r σ1 ⟨rfl, rfl⟩
  exact tv_Qc1 hT tv_un_rf (tv_rvi (th_chr255 _ _).1 (th_chr255 _ _).2)
set_option maxRecDepth 100000 in
set_option maxHeartbeats 4000000 in
theorem ts_ones {v : Int}  : tv_Snd (tc_T v) (174, [(3, 11, 11), (1, (-2147483648), 2147483647)], [], [((1, (-2147483648), 2147483647), [])], [], 40) := by
  intro As σ hva hT
  obtain ⟨x0, x1, rfl, h0, h1⟩ := tv_va2 hva
  obtain ⟨k0, rfl, l0, u0⟩ := h0
  obtain rfl : k0 = 11 := by omega
  obtain ⟨a1, rfl, l1, u1⟩ := h1
  refine WM.mono th_ones ?_
  rintro r σ1 ⟨⟨z, rfl⟩, rfl⟩
  exact tv_Qc1 hT tv_un_rf tv_rva
set_option maxRecDepth 100000 in
set_option maxHeartbeats 4000000 in
theorem ts_sink {v : Int}  : tv_Snd (tc_T v) (85, [(3, 5, 5), (1, 0, 6560), (1, 0, 6561)], [], [((0, 0, 0), [])], [(28, 64)], 40) := by
  intro As σ hva hT
  obtain ⟨x0, x1, x2, rfl, h0, h1, h2⟩ := tv_va3 hva
  obtain ⟨k0, rfl, l0, u0⟩ := h0
  obtain rfl : k0 = 5 := by omega
  obtain ⟨a1, rfl, l1, u1⟩ := h1
  obtain ⟨a2, rfl, l2, u2⟩ := h2
  refine WM.mono (th_sink (I := fun s => tv_TY (tc_T v) s ∧ tv_un σ s [(28, 64)]) (fun s k x h => ⟨tv_TY_row h.1 (ty := (tv_lo, tv_hi)) (fun _ => rfl) (tn_rng x).1 (tn_rng x).2, tv_un_tr h.2 (tv_un_ar rfl rfl)⟩) l1 u1 u2 ⟨hT, tv_un_rf⟩) ?_
  rintro r σ1 ⟨rfl, g1, g2⟩
  exact tv_Qc1 g1 g2 tv_rvn
def tz_acts : tv_C := (19, [(3, 1, 1), (1, (-2147483648), 2147483647), (1, (-2147483648), 2147483647), (1, (-2147483648), 2147483647)], [], [((1, (-2147483648), 2147483647), [])], [], 39)
theorem tq_acts {T : tv_TT} {a1 : Int32} {a2 : Int32} {a3 : Int32} {σ σ' : tm_S} {r : Option Value} (h : tv_Qc T tz_acts [.ref 1, .int a1, .int a2, .int a3] σ r σ') : tv_TY T σ' ∧ tv_un σ σ' [] ∧ ((∃ z : Int32, r = some (.int z) ∧ (-2147483648) ≤ z.toInt ∧ z.toInt ≤ 2147483647)) := by
  obtain ⟨h1, h2, q, hq, hr, hn⟩ := h
  refine ⟨h1, h2, ?_⟩
  change q ∈ [((1, (-2147483648), 2147483647), [])] at hq
  simp only [List.mem_cons, List.not_mem_nil, or_false] at hq
  rcases hq with rfl
  rcases hr with ⟨e, -⟩ | ⟨x, rfl, hx⟩
  · cases e
  · obtain ⟨z, rfl, g1, g2⟩ := hx
    exact ⟨z, rfl, g1, g2⟩
set_option maxRecDepth 100000 in
set_option maxHeartbeats 4000000 in
theorem ts_into {v : Int} (hacts : tv_Snd (tc_T v) tz_acts) : tv_Snd (tc_T v) (21, [(3, 1, 1), (1, (-2147483648), 2147483647), (1, (-2147483648), 2147483647), (1, (-2147483648), 2147483647)], [], [((1, (-2147483648), 2147483647), [])], [], 40) := by
  intro As σ hva hT
  obtain ⟨x0, x1, x2, x3, rfl, h0, h1, h2, h3⟩ := tv_va4 hva
  obtain ⟨k0, rfl, l0, u0⟩ := h0
  obtain rfl : k0 = 1 := by omega
  obtain ⟨a1, rfl, l1, u1⟩ := h1
  obtain ⟨a2, rfl, l2, u2⟩ := h2
  obtain ⟨a3, rfl, l3, u3⟩ := h3
  show WP 40 21 0 [(0, .ref 1), (1, .int a1), (2, .int a2), (3, .int a3)] [] σ _
  refine wp_lda rfl tm_m0 ?_
  refine wp_ldi rfl tm_m1 ?_
  refine wp_ldi rfl tm_m2 ?_
  refine wp_ldi rfl tm_m2 ?_
  refine wq_calv [.int a1, .int a2, .int a2] rfl rfl rfl rfl rfl rfl rfl rfl rfl (WM.deep (hacts [.ref 1, .int a1, .int a2, .int a2] σ ⟨⟨_, rfl, by decide, by decide⟩, ⟨_, rfl, (tn_rng _).1, (tn_rng _).2⟩, ⟨_, rfl, (tn_rng _).1, (tn_rng _).2⟩, ⟨_, rfl, (tn_rng _).1, (tn_rng _).2⟩, trivial⟩ hT) (by decide)) ?_
  rintro r1 σ1 hq1
  obtain ⟨hT1, hu1, z1, rfl, -⟩ := tq_acts hq1
  refine wq_sti [(4, .int z1), (0, .ref 1), (1, .int a1), (2, .int a2), (3, .int a3)] rfl rfl ?_
  refine wp_ldi rfl tm_m0 ?_
  refine wq_ifne rfl (fun h11 => ?_) (fun h11 => ?_)
  · refine wp_lda rfl tm_m1 ?_
    refine wp_ldi rfl tm_m2 ?_
    refine wp_ldi rfl tm_m3 ?_
    refine wp_ldi rfl tm_m4 ?_
    refine wq_calv [.int a1, .int a2, .int a3] rfl rfl rfl rfl rfl rfl rfl rfl rfl (WM.deep (hacts [.ref 1, .int a1, .int a2, .int a3] σ1 ⟨⟨_, rfl, by decide, by decide⟩, ⟨_, rfl, (tn_rng _).1, (tn_rng _).2⟩, ⟨_, rfl, (tn_rng _).1, (tn_rng _).2⟩, ⟨_, rfl, (tn_rng _).1, (tn_rng _).2⟩, trivial⟩ hT1) (by decide)) ?_
    rintro r2 σ2 hq2
    obtain ⟨hT2, hu2, z2, rfl, -⟩ := tq_acts hq2
    refine wp_ldi rfl tm_m0 ?_
    refine wp_div rfl (h11) ?_
    exact wp_reti rfl (th_nI rfl) (tv_Qc1 hT2 (tv_un_tr hu1 hu2) tv_rva)
  · refine wq_con (x := (-1)) rfl (by decide) ?_
    refine wp_go rfl ?_
    exact wp_reti rfl (th_nI rfl) (tv_Qc1 hT1 hu1 tv_rva)
