/-! ===== rounds: what every call keeps ===== -/
def th_Q4 (n : Nat) (r : Option Value) (s : tm_S) : Prop := (∃ z : Int32, r = some (.int z)) ∧ th_I4 n s
theorem th_Qu4 {n : Nat} {σ s : tm_S} {w : List (Nat × Nat)} {r : Option Value} (h : th_I4 n σ) (hr : ∃ z : Int32, r = some (.int z)) (hT : tv_TY (tc_T (n : Int)) s) (hu : tv_un σ s w) (hg : th_gd.all (fun q => !(tv_mem w q.1 q.2)) = true) (hc : tw_WC.all (fun q => !(tv_mem w q.1 q.2)) = true) (hr2 : tw_WR.all (fun q => !(tv_mem w q.1 q.2)) = true) : th_Q4 n r s := ⟨hr, ⟨h.1.1, h.1.2.1, hT, th_SLu h.1.2.2.1 h.1.2.2.2 hu hg⟩, tw_RCk h.2.1 hu hc, tw_RRk h.2.2 hu hr2⟩
theorem th_Qd4 {n : Nat} {σ s : tm_S} {w : List (Nat × Nat)} {r : Option Value} (h : th_I4 n σ) (hr : th_Qd n r s) (hu : tv_un σ s w) (hc : tw_WC.all (fun q => !(tv_mem w q.1 q.2)) = true) (hr2 : tw_WR.all (fun q => !(tv_mem w q.1 q.2)) = true) : th_Q4 n r s := ⟨hr.1, hr.2, tw_RCk h.2.1 hu hc, tw_RRk h.2.2 hu hr2⟩
def tc_pl4 : List (Nat × List tv_T) := [(5, [(3, 0, 0), (1, (-2147483648), 2147483647), (1, (-2147483648), 2147483647), (1, (-2147483648), 2147483647)]), (161, [(3, 11, 11), (1, (-2147483648), 2147483647), (1, (-2147483648), 2147483647), (1, (-2147483648), 2147483647)]), (12, [(3, 0, 0), (1, (-2147483648), 2147483647), (1, (-2147483648), 2147483647)]), (167, [(3, 11, 11), (1, (-2147483648), 2147483647), (1, (-2147483648), 2147483647)]), (18, [(3, 0, 0), (1, (-2147483648), 2147483647), (1, (-2147483648), 2147483647), (1, (-2147483648), 2147483647)]), (170, [(3, 11, 11), (1, (-2147483648), 2147483647), (1, (-2147483648), 2147483647), (1, (-2147483648), 2147483647)]), (22, [(3, 0, 0), (1, (-2147483648), 2147483647), (1, (-2147483648), 2147483647)]), (172, [(3, 11, 11), (1, (-2147483648), 2147483647), (1, (-2147483648), 2147483647)]), (26, [(3, 0, 0), (1, (-2147483648), 2147483647), (1, (-2147483648), 2147483647), (1, (-2147483648), 2147483647)]), (175, [(3, 11, 11), (1, (-2147483648), 2147483647), (1, (-2147483648), 2147483647), (1, (-2147483648), 2147483647)]), (28, [(3, 0, 0), (1, (-2147483648), 2147483647), (1, (-2147483648), 2147483647)]), (176, [(3, 11, 11), (1, (-2147483648), 2147483647), (1, (-2147483648), 2147483647)]), (30, [(3, 0, 0), (1, (-2147483648), 2147483647)]), (179, [(3, 11, 11), (1, (-2147483648), 2147483647)]), (33, [(3, 0, 0), (1, (-2147483648), 2147483647), (1, (-2147483648), 2147483647), (1, (-2147483648), 2147483647)]), (180, [(3, 11, 11), (1, (-2147483648), 2147483647), (1, (-2147483648), 2147483647), (1, (-2147483648), 2147483647)]), (34, [(3, 0, 0), (1, (-2147483648), 2147483647), (1, (-2147483648), 2147483647), (1, (-2147483648), 2147483647)]), (47, [(3, 0, 0), (1, (-2147483648), 2147483647), (1, (-2147483648), 2147483647)]), (185, [(3, 11, 11), (1, (-2147483648), 2147483647), (2, 0, 0)]), (57, [(3, 0, 0), (1, (-2147483648), 2147483647), (1, (-2147483648), 2147483647), (1, (-2147483648), 2147483647), (1, (-2147483648), 2147483647)]), (187, [(3, 11, 11), (1, (-2147483648), 2147483647), (1, (-2147483648), 2147483647), (1, (-2147483648), 2147483647), (1, (-2147483648), 2147483647)]), (192, [(3, 11, 11), (1, (-2147483648), 2147483647), (1, (-2147483648), 2147483647)]), (66, [(3, 0, 0), (1, (-2147483648), 2147483647), (1, (-2147483648), 2147483647)]), (195, [(3, 11, 11), (1, (-2147483648), 2147483647), (1, (-2147483648), 2147483647)]), (197, [(3, 11, 11)]), (199, [(3, 11, 11), (1, (-2147483648), 2147483647), (1, (-2147483648), 2147483647)]), (200, [(3, 11, 11), (1, (-2147483648), 2147483647)]), (89, [(3, 0, 0), (1, (-2147483648), 2147483647), (1, (-2147483648), 2147483647)]), (210, [(3, 11, 11), (1, (-2147483648), 2147483647), (1, (-2147483648), 2147483647)]), (90, [(3, 0, 0), (1, (-2147483648), 2147483647), (1, (-2147483648), 2147483647), (1, (-2147483648), 2147483647), (1, (-2147483648), 2147483647), (1, (-2147483648), 2147483647)]), (95, [(3, 0, 0), (1, (-2147483648), 2147483647)]), (225, [(3, 11, 11), (1, (-2147483648), 2147483647)]), (232, [(3, 11, 11)]), (131, [(3, 0, 0), (1, (-2147483648), 2147483647)]), (243, [(3, 11, 11), (1, (-2147483648), 2147483647)]), (134, [(3, 0, 0), (1, (-2147483648), 2147483647)]), (211, [(3, 11, 11), (1, (-2147483648), 2147483647)]), (140, [(3, 0, 0), (1, (-2147483648), 2147483647), (1, (-2147483648), 2147483647)]), (215, [(3, 11, 11), (1, (-2147483648), 2147483647), (1, (-2147483648), 2147483647)]), (146, [(3, 0, 0), (1, (-2147483648), 2147483647), (1, (-2147483648), 2147483647)]), (218, [(3, 11, 11), (1, (-2147483648), 2147483647), (1, (-2147483648), 2147483647)]), (147, [(3, 0, 0), (1, (-2147483648), 2147483647)]), (220, [(3, 11, 11), (1, (-2147483648), 2147483647)]), (148, [(3, 0, 0), (1, (-2147483648), 2147483647), (1, (-2147483648), 2147483647)]), (221, [(3, 11, 11), (1, (-2147483648), 2147483647), (1, (-2147483648), 2147483647)]), (222, [(3, 11, 11), (1, (-2147483648), 2147483647), (1, (-2147483648), 2147483647)]), (151, [(3, 0, 0)]), (157, [(3, 0, 0), (1, (-2147483648), 2147483647)]), (227, [(3, 11, 11), (1, (-2147483648), 2147483647)]), (158, [(3, 0, 0)]), (226, [(3, 11, 11)])]
def tc_pok4 (q : Nat × List tv_T) (c : tv_C) : Bool := tc_pok q c && (tw_WC.all (fun g => !(tv_mem c.2.2.2.2.1 g.1 g.2)) && tw_WR.all (fun g => !(tv_mem c.2.2.2.2.1 g.1 g.2)))
def tc_pb4 (cx : Nat → List tv_C) : Bool := tc_pl4.all (fun q => (cx q.1).any (tc_pok4 q))
set_option maxRecDepth 100000 in
set_option maxHeartbeats 4000000 in
theorem tc_sn4 {n : Nat} (h3 : 3 ≤ n) (hn : n ≤ 12) : ∃ cx : Nat → List tv_C, (∀ a, ∀ c ∈ cx a, tv_Snd (tc_T (n : Int)) c) ∧ tc_pb4 cx = true := by
  rcases (by omega : n = 3 ∨ n = 4 ∨ n = 5 ∨ n = 6 ∨ n = 7 ∨ n = 8 ∨ n = 9 ∨ n = 10 ∨ n = 11 ∨ n = 12) with rfl | rfl | rfl | rfl | rfl | rfl | rfl | rfl | rfl | rfl
  · exact ⟨tc_x3, tc_s3, by decide +kernel⟩
  · exact ⟨tc_x4, tc_s4, by decide +kernel⟩
  · exact ⟨tc_x5, tc_s5, by decide +kernel⟩
  · exact ⟨tc_x6, tc_s6, by decide +kernel⟩
  · exact ⟨tc_x7, tc_s7, by decide +kernel⟩
  · exact ⟨tc_x8, tc_s8, by decide +kernel⟩
  · exact ⟨tc_x9, tc_s9, by decide +kernel⟩
  · exact ⟨tc_x10, tc_s10, by decide +kernel⟩
  · exact ⟨tc_x11, tc_s11, by decide +kernel⟩
  · exact ⟨tc_x12, tc_s12, by decide +kernel⟩
theorem th_pub4 {n : Nat} {σ : tm_S} (h : th_I4 n σ) {j : Nat} {ts : List tv_T} {As : List Value} (hm : (j, ts) ∈ tc_pl4) (hva : tv_va ts As) : WM 90 j As σ (th_Q4 n) := by
  have ⟨⟨h3, hn, hT, hS⟩, hC, hR⟩ := h
  obtain ⟨cx, hs, hb⟩ := tc_sn4 h3 hn
  obtain ⟨c, hc, he⟩ := List.any_eq_true.mp (List.all_eq_true.mp hb (j, ts) hm)
  unfold tc_pok4 tc_pok at he
  simp only [Bool.and_eq_true, decide_eq_true_eq] at he
  obtain ⟨⟨⟨⟨⟨e1, e2⟩, e3⟩, e4⟩, e5⟩, e6, e7⟩ := he
  have e1 := tv_beq e1
  subst e1 e2
  refine WM.mono (WM.deep (hs _ c hc As σ hva hT) (Nat.le_of_ble_eq_true e5)) ?_
  rintro r s ⟨T1, u1, q, hq, hr, -⟩
  have k1 := tv_beq (List.all_eq_true.mp e3 q hq)
  refine th_Qu4 h ?_ T1 u1 e4 e6 e7
  rcases hr with ⟨e, -⟩ | ⟨x, rfl, hx⟩
  · rw [k1] at e
    cases e
  · obtain ⟨⟨k, lo, hi⟩, nr⟩ := q
    dsimp only at k1
    subst k1
    obtain ⟨z, rfl, -⟩ := hx
    exact ⟨z, rfl⟩
set_option maxRecDepth 100000 in
set_option maxHeartbeats 4000000 in
theorem tl4_x_image {n : Nat} {a1 : Int32} {a2 : Int32} {a3 : Int32} {σ : tm_S} (h : th_I4 n σ) : WM 90 5 [.ref 0, .int a1, .int a2, .int a3] σ (th_Q4 n) := by
  exact th_pub4 h (ts := [(3, 0, 0), (1, (-2147483648), 2147483647), (1, (-2147483648), 2147483647), (1, (-2147483648), 2147483647)]) (by decide) ⟨⟨_, rfl, by decide, by decide⟩, ⟨_, rfl, (tn_rng _).1, (tn_rng _).2⟩, ⟨_, rfl, (tn_rng _).1, (tn_rng _).2⟩, ⟨_, rfl, (tn_rng _).1, (tn_rng _).2⟩, trivial⟩
set_option maxRecDepth 100000 in
set_option maxHeartbeats 4000000 in
theorem tl4_m_image {n : Nat} {a1 : Int32} {a2 : Int32} {a3 : Int32} {σ : tm_S} (h : th_I4 n σ) : WM 90 161 [.ref 11, .int a1, .int a2, .int a3] σ (th_Q4 n) := by
  exact th_pub4 h (ts := [(3, 11, 11), (1, (-2147483648), 2147483647), (1, (-2147483648), 2147483647), (1, (-2147483648), 2147483647)]) (by decide) ⟨⟨_, rfl, by decide, by decide⟩, ⟨_, rfl, (tn_rng _).1, (tn_rng _).2⟩, ⟨_, rfl, (tn_rng _).1, (tn_rng _).2⟩, ⟨_, rfl, (tn_rng _).1, (tn_rng _).2⟩, trivial⟩
set_option maxRecDepth 100000 in
set_option maxHeartbeats 4000000 in
theorem tl4_x_name {n : Nat} {a1 : Int32} {a2 : Int32} {σ : tm_S} (h : th_I4 n σ) : WM 90 12 [.ref 0, .int a1, .int a2] σ (th_Q4 n) := by
  exact th_pub4 h (ts := [(3, 0, 0), (1, (-2147483648), 2147483647), (1, (-2147483648), 2147483647)]) (by decide) ⟨⟨_, rfl, by decide, by decide⟩, ⟨_, rfl, (tn_rng _).1, (tn_rng _).2⟩, ⟨_, rfl, (tn_rng _).1, (tn_rng _).2⟩, trivial⟩
set_option maxRecDepth 100000 in
set_option maxHeartbeats 4000000 in
theorem tl4_m_name {n : Nat} {a1 : Int32} {a2 : Int32} {σ : tm_S} (h : th_I4 n σ) : WM 90 167 [.ref 11, .int a1, .int a2] σ (th_Q4 n) := by
  exact th_pub4 h (ts := [(3, 11, 11), (1, (-2147483648), 2147483647), (1, (-2147483648), 2147483647)]) (by decide) ⟨⟨_, rfl, by decide, by decide⟩, ⟨_, rfl, (tn_rng _).1, (tn_rng _).2⟩, ⟨_, rfl, (tn_rng _).1, (tn_rng _).2⟩, trivial⟩
set_option maxRecDepth 100000 in
set_option maxHeartbeats 4000000 in
theorem tl4_x_own {n : Nat} {a1 : Int32} {a2 : Int32} {a3 : Int32} {σ : tm_S} (h : th_I4 n σ) : WM 90 18 [.ref 0, .int a1, .int a2, .int a3] σ (th_Q4 n) := by
  exact th_pub4 h (ts := [(3, 0, 0), (1, (-2147483648), 2147483647), (1, (-2147483648), 2147483647), (1, (-2147483648), 2147483647)]) (by decide) ⟨⟨_, rfl, by decide, by decide⟩, ⟨_, rfl, (tn_rng _).1, (tn_rng _).2⟩, ⟨_, rfl, (tn_rng _).1, (tn_rng _).2⟩, ⟨_, rfl, (tn_rng _).1, (tn_rng _).2⟩, trivial⟩
set_option maxRecDepth 100000 in
set_option maxHeartbeats 4000000 in
theorem tl4_m_own {n : Nat} {a1 : Int32} {a2 : Int32} {a3 : Int32} {σ : tm_S} (h : th_I4 n σ) : WM 90 170 [.ref 11, .int a1, .int a2, .int a3] σ (th_Q4 n) := by
  exact th_pub4 h (ts := [(3, 11, 11), (1, (-2147483648), 2147483647), (1, (-2147483648), 2147483647), (1, (-2147483648), 2147483647)]) (by decide) ⟨⟨_, rfl, by decide, by decide⟩, ⟨_, rfl, (tn_rng _).1, (tn_rng _).2⟩, ⟨_, rfl, (tn_rng _).1, (tn_rng _).2⟩, ⟨_, rfl, (tn_rng _).1, (tn_rng _).2⟩, trivial⟩
set_option maxRecDepth 100000 in
set_option maxHeartbeats 4000000 in
theorem tl4_x_classes {n : Nat} {a1 : Int32} {a2 : Int32} {σ : tm_S} (h : th_I4 n σ) : WM 90 22 [.ref 0, .int a1, .int a2] σ (th_Q4 n) := by
  exact th_pub4 h (ts := [(3, 0, 0), (1, (-2147483648), 2147483647), (1, (-2147483648), 2147483647)]) (by decide) ⟨⟨_, rfl, by decide, by decide⟩, ⟨_, rfl, (tn_rng _).1, (tn_rng _).2⟩, ⟨_, rfl, (tn_rng _).1, (tn_rng _).2⟩, trivial⟩
set_option maxRecDepth 100000 in
set_option maxHeartbeats 4000000 in
theorem tl4_m_classes {n : Nat} {a1 : Int32} {a2 : Int32} {σ : tm_S} (h : th_I4 n σ) : WM 90 172 [.ref 11, .int a1, .int a2] σ (th_Q4 n) := by
  exact th_pub4 h (ts := [(3, 11, 11), (1, (-2147483648), 2147483647), (1, (-2147483648), 2147483647)]) (by decide) ⟨⟨_, rfl, by decide, by decide⟩, ⟨_, rfl, (tn_rng _).1, (tn_rng _).2⟩, ⟨_, rfl, (tn_rng _).1, (tn_rng _).2⟩, trivial⟩
set_option maxRecDepth 100000 in
set_option maxHeartbeats 4000000 in
theorem tl4_x_nameOf {n : Nat} {a1 : Int32} {a2 : Int32} {a3 : Int32} {σ : tm_S} (h : th_I4 n σ) : WM 90 26 [.ref 0, .int a1, .int a2, .int a3] σ (th_Q4 n) := by
  exact th_pub4 h (ts := [(3, 0, 0), (1, (-2147483648), 2147483647), (1, (-2147483648), 2147483647), (1, (-2147483648), 2147483647)]) (by decide) ⟨⟨_, rfl, by decide, by decide⟩, ⟨_, rfl, (tn_rng _).1, (tn_rng _).2⟩, ⟨_, rfl, (tn_rng _).1, (tn_rng _).2⟩, ⟨_, rfl, (tn_rng _).1, (tn_rng _).2⟩, trivial⟩
set_option maxRecDepth 100000 in
set_option maxHeartbeats 4000000 in
theorem tl4_m_nameOf {n : Nat} {a1 : Int32} {a2 : Int32} {a3 : Int32} {σ : tm_S} (h : th_I4 n σ) : WM 90 175 [.ref 11, .int a1, .int a2, .int a3] σ (th_Q4 n) := by
  exact th_pub4 h (ts := [(3, 11, 11), (1, (-2147483648), 2147483647), (1, (-2147483648), 2147483647), (1, (-2147483648), 2147483647)]) (by decide) ⟨⟨_, rfl, by decide, by decide⟩, ⟨_, rfl, (tn_rng _).1, (tn_rng _).2⟩, ⟨_, rfl, (tn_rng _).1, (tn_rng _).2⟩, ⟨_, rfl, (tn_rng _).1, (tn_rng _).2⟩, trivial⟩
set_option maxRecDepth 100000 in
set_option maxHeartbeats 4000000 in
theorem tl4_x_interval {n : Nat} {a1 : Int32} {a2 : Int32} {σ : tm_S} (h : th_I4 n σ) : WM 90 28 [.ref 0, .int a1, .int a2] σ (th_Q4 n) := by
  exact th_pub4 h (ts := [(3, 0, 0), (1, (-2147483648), 2147483647), (1, (-2147483648), 2147483647)]) (by decide) ⟨⟨_, rfl, by decide, by decide⟩, ⟨_, rfl, (tn_rng _).1, (tn_rng _).2⟩, ⟨_, rfl, (tn_rng _).1, (tn_rng _).2⟩, trivial⟩
set_option maxRecDepth 100000 in
set_option maxHeartbeats 4000000 in
theorem tl4_m_interval {n : Nat} {a1 : Int32} {a2 : Int32} {σ : tm_S} (h : th_I4 n σ) : WM 90 176 [.ref 11, .int a1, .int a2] σ (th_Q4 n) := by
  exact th_pub4 h (ts := [(3, 11, 11), (1, (-2147483648), 2147483647), (1, (-2147483648), 2147483647)]) (by decide) ⟨⟨_, rfl, by decide, by decide⟩, ⟨_, rfl, (tn_rng _).1, (tn_rng _).2⟩, ⟨_, rfl, (tn_rng _).1, (tn_rng _).2⟩, trivial⟩
set_option maxRecDepth 100000 in
set_option maxHeartbeats 4000000 in
theorem tl4_x_twin {n : Nat} {a1 : Int32} {σ : tm_S} (h : th_I4 n σ) : WM 90 30 [.ref 0, .int a1] σ (th_Q4 n) := by
  exact th_pub4 h (ts := [(3, 0, 0), (1, (-2147483648), 2147483647)]) (by decide) ⟨⟨_, rfl, by decide, by decide⟩, ⟨_, rfl, (tn_rng _).1, (tn_rng _).2⟩, trivial⟩
set_option maxRecDepth 100000 in
set_option maxHeartbeats 4000000 in
theorem tl4_m_twin {n : Nat} {a1 : Int32} {σ : tm_S} (h : th_I4 n σ) : WM 90 179 [.ref 11, .int a1] σ (th_Q4 n) := by
  exact th_pub4 h (ts := [(3, 11, 11), (1, (-2147483648), 2147483647)]) (by decide) ⟨⟨_, rfl, by decide, by decide⟩, ⟨_, rfl, (tn_rng _).1, (tn_rng _).2⟩, trivial⟩
set_option maxRecDepth 100000 in
set_option maxHeartbeats 4000000 in
theorem tl4_x_within {n : Nat} {a1 : Int32} {a2 : Int32} {a3 : Int32} {σ : tm_S} (h : th_I4 n σ) : WM 90 33 [.ref 0, .int a1, .int a2, .int a3] σ (th_Q4 n) := by
  exact th_pub4 h (ts := [(3, 0, 0), (1, (-2147483648), 2147483647), (1, (-2147483648), 2147483647), (1, (-2147483648), 2147483647)]) (by decide) ⟨⟨_, rfl, by decide, by decide⟩, ⟨_, rfl, (tn_rng _).1, (tn_rng _).2⟩, ⟨_, rfl, (tn_rng _).1, (tn_rng _).2⟩, ⟨_, rfl, (tn_rng _).1, (tn_rng _).2⟩, trivial⟩
set_option maxRecDepth 100000 in
set_option maxHeartbeats 4000000 in
theorem tl4_m_within {n : Nat} {a1 : Int32} {a2 : Int32} {a3 : Int32} {σ : tm_S} (h : th_I4 n σ) : WM 90 180 [.ref 11, .int a1, .int a2, .int a3] σ (th_Q4 n) := by
  exact th_pub4 h (ts := [(3, 11, 11), (1, (-2147483648), 2147483647), (1, (-2147483648), 2147483647), (1, (-2147483648), 2147483647)]) (by decide) ⟨⟨_, rfl, by decide, by decide⟩, ⟨_, rfl, (tn_rng _).1, (tn_rng _).2⟩, ⟨_, rfl, (tn_rng _).1, (tn_rng _).2⟩, ⟨_, rfl, (tn_rng _).1, (tn_rng _).2⟩, trivial⟩
set_option maxRecDepth 100000 in
set_option maxHeartbeats 4000000 in
theorem tl4_x_lead {n : Nat} {a1 : Int32} {a2 : Int32} {a3 : Int32} {σ : tm_S} (h : th_I4 n σ) : WM 90 34 [.ref 0, .int a1, .int a2, .int a3] σ (th_Q4 n) := by
  exact th_pub4 h (ts := [(3, 0, 0), (1, (-2147483648), 2147483647), (1, (-2147483648), 2147483647), (1, (-2147483648), 2147483647)]) (by decide) ⟨⟨_, rfl, by decide, by decide⟩, ⟨_, rfl, (tn_rng _).1, (tn_rng _).2⟩, ⟨_, rfl, (tn_rng _).1, (tn_rng _).2⟩, ⟨_, rfl, (tn_rng _).1, (tn_rng _).2⟩, trivial⟩
set_option maxRecDepth 100000 in
set_option maxHeartbeats 4000000 in
theorem tl4_m_lead {n : Nat} {a1 : Int32} {a2 : Int32} {a3 : Int32} {σ : tm_S} (h : th_I4 n σ) : WM 90 181 [.ref 11, .int a1, .int a2, .int a3] σ (th_Q4 n) := by
  have ⟨⟨h3, hn, hT, hS⟩, hC, hR⟩ := h
  refine WM.mono (WM.deep (th_mlead hn h3 hT) (by decide)) ?_
  rintro q s ⟨hq, T1, u1⟩
  exact th_Qu4 h hq T1 u1 (by decide) (by decide) (by decide)
set_option maxRecDepth 100000 in
set_option maxHeartbeats 4000000 in
theorem tl4_x_road {n : Nat} {a1 : Int32} {a2 : Int32} {σ : tm_S} (h : th_I4 n σ) : WM 90 47 [.ref 0, .int a1, .int a2] σ (th_Q4 n) := by
  exact th_pub4 h (ts := [(3, 0, 0), (1, (-2147483648), 2147483647), (1, (-2147483648), 2147483647)]) (by decide) ⟨⟨_, rfl, by decide, by decide⟩, ⟨_, rfl, (tn_rng _).1, (tn_rng _).2⟩, ⟨_, rfl, (tn_rng _).1, (tn_rng _).2⟩, trivial⟩
set_option maxRecDepth 100000 in
set_option maxHeartbeats 4000000 in
theorem tl4_m_road {n : Nat} {a1 : Int32} {a2 : Int32} {σ : tm_S} (h : th_I4 n σ) : WM 90 184 [.ref 11, .int a1, .int a2] σ (th_Q4 n) := by
  have ⟨⟨h3, hn, hT, hS⟩, hC, hR⟩ := h
  refine WM.mono (WM.deep (th_mroad hn h3 (tc_z h3 hn (z := tz_nm) (by simp [tc_zp])) hT) (by decide)) ?_
  rintro q s ⟨hq, T1, u1⟩
  exact th_Qu4 h hq T1 u1 (by decide) (by decide) (by decide)
set_option maxRecDepth 100000 in
set_option maxHeartbeats 4000000 in
theorem tl4_x_row {n : Nat} {a1 : Int32} {a2 : Int64} {σ : tm_S} (h : th_I4 n σ) : WM 90 52 [.ref 0, .int a1, .long a2] σ (th_Q4 n) := by
  have ⟨⟨h3, hn, hT, hS⟩, hC, hR⟩ := h
  refine WM.mono (WM.deep (th_xrow (d := 0) hn hT) (by decide)) ?_
  rintro q s ⟨hq, rfl | ⟨k, r, hr, rfl⟩⟩
  · exact ⟨hq, h⟩
  · exact ⟨hq, ⟨h3, hn, ⟨hT.1, hT.2⟩, th_SLs hS hr⟩, tw_RCu hC rfl rfl rfl rfl rfl, tw_RRu hR rfl rfl rfl rfl⟩
set_option maxRecDepth 100000 in
set_option maxHeartbeats 4000000 in
theorem tl4_m_row {n : Nat} {a1 : Int32} {a2 : Int64} {σ : tm_S} (h : th_I4 n σ) : WM 90 185 [.ref 11, .int a1, .long a2] σ (th_Q4 n) := by
  exact th_pub4 h (ts := [(3, 11, 11), (1, (-2147483648), 2147483647), (2, 0, 0)]) (by decide) ⟨⟨_, rfl, by decide, by decide⟩, ⟨_, rfl, (tn_rng _).1, (tn_rng _).2⟩, ⟨_, rfl⟩, trivial⟩
set_option maxRecDepth 100000 in
set_option maxHeartbeats 4000000 in
theorem tl4_x_form {n : Nat} {a1 : Int32} {a2 : Int32} {a3 : Int32} {a4 : Int32} {σ : tm_S} (h : th_I4 n σ) : WM 90 57 [.ref 0, .int a1, .int a2, .int a3, .int a4] σ (th_Q4 n) := by
  exact th_pub4 h (ts := [(3, 0, 0), (1, (-2147483648), 2147483647), (1, (-2147483648), 2147483647), (1, (-2147483648), 2147483647), (1, (-2147483648), 2147483647)]) (by decide) ⟨⟨_, rfl, by decide, by decide⟩, ⟨_, rfl, (tn_rng _).1, (tn_rng _).2⟩, ⟨_, rfl, (tn_rng _).1, (tn_rng _).2⟩, ⟨_, rfl, (tn_rng _).1, (tn_rng _).2⟩, ⟨_, rfl, (tn_rng _).1, (tn_rng _).2⟩, trivial⟩
set_option maxRecDepth 100000 in
set_option maxHeartbeats 4000000 in
theorem tl4_m_form {n : Nat} {a1 : Int32} {a2 : Int32} {a3 : Int32} {a4 : Int32} {σ : tm_S} (h : th_I4 n σ) : WM 90 187 [.ref 11, .int a1, .int a2, .int a3, .int a4] σ (th_Q4 n) := by
  exact th_pub4 h (ts := [(3, 11, 11), (1, (-2147483648), 2147483647), (1, (-2147483648), 2147483647), (1, (-2147483648), 2147483647), (1, (-2147483648), 2147483647)]) (by decide) ⟨⟨_, rfl, by decide, by decide⟩, ⟨_, rfl, (tn_rng _).1, (tn_rng _).2⟩, ⟨_, rfl, (tn_rng _).1, (tn_rng _).2⟩, ⟨_, rfl, (tn_rng _).1, (tn_rng _).2⟩, ⟨_, rfl, (tn_rng _).1, (tn_rng _).2⟩, trivial⟩
set_option maxRecDepth 100000 in
set_option maxHeartbeats 4000000 in
theorem tl4_x_about {n : Nat} {a1 : Int32} {a2 : Int32} {σ : tm_S} (h : th_I4 n σ) : WM 90 61 [.ref 0, .int a1, .int a2] σ (th_Q4 n) := by
  have ⟨⟨h3, hn, hT, hS⟩, hC, hR⟩ := h
  refine WM.mono (WM.deep (th_xabout2 (tc_z h3 hn (z := tz_fli) (by simp [tc_zp])) (tc_z h3 hn (z := tz_ifl) (by simp [tc_zp])) h.1) (by decide)) ?_
  rintro q s ⟨hq, u1⟩
  exact th_Qd4 h hq u1 (by decide) (by decide)
set_option maxRecDepth 100000 in
set_option maxHeartbeats 4000000 in
theorem tl4_m_about {n : Nat} {a1 : Int32} {a2 : Int32} {σ : tm_S} (h : th_I4 n σ) : WM 90 192 [.ref 11, .int a1, .int a2] σ (th_Q4 n) := by
  exact th_pub4 h (ts := [(3, 11, 11), (1, (-2147483648), 2147483647), (1, (-2147483648), 2147483647)]) (by decide) ⟨⟨_, rfl, by decide, by decide⟩, ⟨_, rfl, (tn_rng _).1, (tn_rng _).2⟩, ⟨_, rfl, (tn_rng _).1, (tn_rng _).2⟩, trivial⟩
set_option maxRecDepth 100000 in
set_option maxHeartbeats 4000000 in
theorem tl4_x_partners {n : Nat} {a1 : Int32} {a2 : Int32} {σ : tm_S} (h : th_I4 n σ) : WM 90 66 [.ref 0, .int a1, .int a2] σ (th_Q4 n) := by
  exact th_pub4 h (ts := [(3, 0, 0), (1, (-2147483648), 2147483647), (1, (-2147483648), 2147483647)]) (by decide) ⟨⟨_, rfl, by decide, by decide⟩, ⟨_, rfl, (tn_rng _).1, (tn_rng _).2⟩, ⟨_, rfl, (tn_rng _).1, (tn_rng _).2⟩, trivial⟩
set_option maxRecDepth 100000 in
set_option maxHeartbeats 4000000 in
theorem tl4_m_partners {n : Nat} {a1 : Int32} {a2 : Int32} {σ : tm_S} (h : th_I4 n σ) : WM 90 195 [.ref 11, .int a1, .int a2] σ (th_Q4 n) := by
  exact th_pub4 h (ts := [(3, 11, 11), (1, (-2147483648), 2147483647), (1, (-2147483648), 2147483647)]) (by decide) ⟨⟨_, rfl, by decide, by decide⟩, ⟨_, rfl, (tn_rng _).1, (tn_rng _).2⟩, ⟨_, rfl, (tn_rng _).1, (tn_rng _).2⟩, trivial⟩
set_option maxRecDepth 100000 in
set_option maxHeartbeats 4000000 in
theorem tl4_x_split {n : Nat} {a1 : Int32} {a2 : Int32} {σ : tm_S} (h : th_I4 n σ) : WM 90 67 [.ref 0, .int a1, .int a2] σ (th_Q4 n) := by
  have ⟨⟨h3, hn, hT, hS⟩, hC, hR⟩ := h
  refine WM.mono (WM.deep (th_xsplit hn h3 (tc_z h3 hn (z := tz_li) (by simp [tc_zp])) hT hS) (by decide)) ?_
  rintro q s ⟨hq, T1, u1⟩
  exact th_Qu4 h hq T1 u1 (by decide) (by decide) (by decide)
set_option maxRecDepth 100000 in
set_option maxHeartbeats 4000000 in
theorem tl4_m_split {n : Nat} {a1 : Int32} {a2 : Int32} {σ : tm_S} (h : th_I4 n σ) : WM 90 196 [.ref 11, .int a1, .int a2] σ (th_Q4 n) := by
  have ⟨⟨h3, hn, hT, hS⟩, hC, hR⟩ := h
  refine WM.mono (WM.deep (th_msplit hn h3 (tc_z h3 hn (z := tz_nm) (by simp [tc_zp])) (tc_z h3 hn (z := tz_hrm) (by simp [tc_zp])) hT) (by decide)) ?_
  rintro q s ⟨hq, T1, u1⟩
  exact th_Qu4 h hq T1 u1 (by decide) (by decide) (by decide)
set_option maxRecDepth 100000 in
set_option maxHeartbeats 4000000 in
theorem tl4_x_full {n : Nat}  {σ : tm_S} (h : th_I4 n σ) : WM 90 68 [.ref 0] σ (th_Q4 n) := by
  have ⟨⟨h3, hn, hT, hS⟩, hC, hR⟩ := h
  refine WM.mono (WM.deep (th_xfull hn h3 hT hS) (by decide)) ?_
  rintro q s ⟨hq, F⟩
  exact ⟨hq, ⟨h3, hn, F.1, th_SLf hT hS F⟩, tw_RCk hC F.2.1 (by decide), tw_RRk hR F.2.1 (by decide)⟩
set_option maxRecDepth 100000 in
set_option maxHeartbeats 4000000 in
theorem tl4_m_full {n : Nat}  {σ : tm_S} (h : th_I4 n σ) : WM 90 197 [.ref 11] σ (th_Q4 n) := by
  exact th_pub4 h (ts := [(3, 11, 11)]) (by decide) ⟨⟨_, rfl, by decide, by decide⟩, trivial⟩
set_option maxRecDepth 100000 in
set_option maxHeartbeats 4000000 in
theorem tl4_x_pick {n : Nat} {a1 : Int32} {a2 : Int32} {σ : tm_S} (h : th_I4 n σ) : WM 90 73 [.ref 0, .int a1, .int a2] σ (th_Q4 n) := by
  have ⟨⟨h3, hn, hT, hS⟩, hC, hR⟩ := h
  refine WM.mono (WM.deep (th_xpick hn h3 hT hS) (by decide)) ?_
  rintro q s ⟨hq, t, F, rfl | ⟨k, r, hr, rfl⟩⟩
  · exact ⟨hq, ⟨h3, hn, F.1, th_SLf hT hS F⟩, tw_RCk hC F.2.1 (by decide), tw_RRk hR F.2.1 (by decide)⟩
  · exact ⟨hq, ⟨h3, hn, ⟨F.1.1, F.1.2⟩, th_SLs (th_SLf hT hS F) hr⟩, tw_RCu (tw_RCk hC F.2.1 (by decide)) rfl rfl rfl rfl rfl, tw_RRu (tw_RRk hR F.2.1 (by decide)) rfl rfl rfl rfl⟩
set_option maxRecDepth 100000 in
set_option maxHeartbeats 4000000 in
theorem tl4_m_pick {n : Nat} {a1 : Int32} {a2 : Int32} {σ : tm_S} (h : th_I4 n σ) : WM 90 199 [.ref 11, .int a1, .int a2] σ (th_Q4 n) := by
  exact th_pub4 h (ts := [(3, 11, 11), (1, (-2147483648), 2147483647), (1, (-2147483648), 2147483647)]) (by decide) ⟨⟨_, rfl, by decide, by decide⟩, ⟨_, rfl, (tn_rng _).1, (tn_rng _).2⟩, ⟨_, rfl, (tn_rng _).1, (tn_rng _).2⟩, trivial⟩
set_option maxRecDepth 100000 in
set_option maxHeartbeats 4000000 in
theorem tl4_x_rank {n : Nat} {a1 : Int32} {σ : tm_S} (h : th_I4 n σ) : WM 90 75 [.ref 0, .int a1] σ (th_Q4 n) := by
  have ⟨⟨h3, hn, hT, hS⟩, hC, hR⟩ := h
  refine WM.mono (WM.deep (th_xrank hn h3 hT hS) (by decide)) ?_
  rintro q s ⟨hq, F⟩
  exact ⟨hq, ⟨h3, hn, F.1, th_SLf hT hS F⟩, tw_RCk hC F.2.1 (by decide), tw_RRk hR F.2.1 (by decide)⟩
set_option maxRecDepth 100000 in
set_option maxHeartbeats 4000000 in
theorem tl4_m_rank {n : Nat} {a1 : Int32} {σ : tm_S} (h : th_I4 n σ) : WM 90 200 [.ref 11, .int a1] σ (th_Q4 n) := by
  exact th_pub4 h (ts := [(3, 11, 11), (1, (-2147483648), 2147483647)]) (by decide) ⟨⟨_, rfl, by decide, by decide⟩, ⟨_, rfl, (tn_rng _).1, (tn_rng _).2⟩, trivial⟩
set_option maxRecDepth 100000 in
set_option maxHeartbeats 4000000 in
theorem tl4_x_fills {n : Nat} {a1 : Int32} {a2 : Int32} {σ : tm_S} (h : th_I4 n σ) : WM 90 77 [.ref 0, .int a1, .int a2] σ (th_Q4 n) := by
  refine WM.mono (tf4_x_fills h) ?_
  rintro r s ⟨z, hz, -, hI⟩
  exact ⟨⟨z, hz⟩, hI⟩
set_option maxRecDepth 100000 in
set_option maxHeartbeats 4000000 in
theorem tl4_m_fills {n : Nat} {a1 : Int32} {a2 : Int32} {σ : tm_S} (h : th_I4 n σ) : WM 90 201 [.ref 11, .int a1, .int a2] σ (th_Q4 n) := by
  refine WM.mono (tf4_m_fills h) ?_
  rintro r s ⟨z, hz, -, hI⟩
  exact ⟨⟨z, hz⟩, hI⟩
set_option maxRecDepth 100000 in
set_option maxHeartbeats 4000000 in
theorem tl4_x_fill {n : Nat} {a1 : Int32} {a2 : Int32} {a3 : Int32} {σ : tm_S} (h : th_I4 n σ) : WM 90 82 [.ref 0, .int a1, .int a2, .int a3] σ (th_Q4 n) := by
  refine WM.mono (tf4_x_fill h) ?_
  rintro r s ⟨z, hz, -, hI⟩
  exact ⟨⟨z, hz⟩, hI⟩
set_option maxRecDepth 100000 in
set_option maxHeartbeats 4000000 in
theorem tl4_m_fill {n : Nat} {a1 : Int32} {a2 : Int32} {a3 : Int32} {σ : tm_S} (h : th_I4 n σ) : WM 90 207 [.ref 11, .int a1, .int a2, .int a3] σ (th_Q4 n) := by
  refine WM.mono (tf4_m_fill h) ?_
  rintro r s ⟨z, hz, -, hI⟩
  exact ⟨⟨z, hz⟩, hI⟩
set_option maxRecDepth 100000 in
set_option maxHeartbeats 4000000 in
theorem tl4_x_pure {n : Nat} {a1 : Int32} {a2 : Int32} {σ : tm_S} (h : th_I4 n σ) : WM 90 86 [.ref 0, .int a1, .int a2] σ (th_Q4 n) := by
  refine WM.mono (tf4_x_pure h) ?_
  rintro r s ⟨z, hz, -, hI⟩
  exact ⟨⟨z, hz⟩, hI⟩
set_option maxRecDepth 100000 in
set_option maxHeartbeats 4000000 in
theorem tl4_m_pure {n : Nat} {a1 : Int32} {a2 : Int32} {σ : tm_S} (h : th_I4 n σ) : WM 90 208 [.ref 11, .int a1, .int a2] σ (th_Q4 n) := by
  refine WM.mono (tf4_m_pure h) ?_
  rintro r s ⟨z, hz, -, hI⟩
  exact ⟨⟨z, hz⟩, hI⟩
set_option maxRecDepth 100000 in
set_option maxHeartbeats 4000000 in
theorem tl4_x_period {n : Nat} {a1 : Int32} {a2 : Int32} {σ : tm_S} (h : th_I4 n σ) : WM 90 89 [.ref 0, .int a1, .int a2] σ (th_Q4 n) := by
  exact th_pub4 h (ts := [(3, 0, 0), (1, (-2147483648), 2147483647), (1, (-2147483648), 2147483647)]) (by decide) ⟨⟨_, rfl, by decide, by decide⟩, ⟨_, rfl, (tn_rng _).1, (tn_rng _).2⟩, ⟨_, rfl, (tn_rng _).1, (tn_rng _).2⟩, trivial⟩
set_option maxRecDepth 100000 in
set_option maxHeartbeats 4000000 in
theorem tl4_m_period {n : Nat} {a1 : Int32} {a2 : Int32} {σ : tm_S} (h : th_I4 n σ) : WM 90 210 [.ref 11, .int a1, .int a2] σ (th_Q4 n) := by
  exact th_pub4 h (ts := [(3, 11, 11), (1, (-2147483648), 2147483647), (1, (-2147483648), 2147483647)]) (by decide) ⟨⟨_, rfl, by decide, by decide⟩, ⟨_, rfl, (tn_rng _).1, (tn_rng _).2⟩, ⟨_, rfl, (tn_rng _).1, (tn_rng _).2⟩, trivial⟩
set_option maxRecDepth 100000 in
set_option maxHeartbeats 4000000 in
theorem tl4_x_feed {n : Nat} {a1 : Int32} {a2 : Int32} {a3 : Int32} {a4 : Int32} {a5 : Int32} {σ : tm_S} (h : th_I4 n σ) : WM 90 90 [.ref 0, .int a1, .int a2, .int a3, .int a4, .int a5] σ (th_Q4 n) := by
  exact th_pub4 h (ts := [(3, 0, 0), (1, (-2147483648), 2147483647), (1, (-2147483648), 2147483647), (1, (-2147483648), 2147483647), (1, (-2147483648), 2147483647), (1, (-2147483648), 2147483647)]) (by decide) ⟨⟨_, rfl, by decide, by decide⟩, ⟨_, rfl, (tn_rng _).1, (tn_rng _).2⟩, ⟨_, rfl, (tn_rng _).1, (tn_rng _).2⟩, ⟨_, rfl, (tn_rng _).1, (tn_rng _).2⟩, ⟨_, rfl, (tn_rng _).1, (tn_rng _).2⟩, ⟨_, rfl, (tn_rng _).1, (tn_rng _).2⟩, trivial⟩
set_option maxRecDepth 100000 in
set_option maxHeartbeats 4000000 in
theorem tl4_m_feed {n : Nat} {a1 : Int32} {a2 : Int32} {a3 : Int32} {a4 : Int32} {a5 : Int32} {σ : tm_S} (h : th_I4 n σ) : WM 90 223 [.ref 11, .int a1, .int a2, .int a3, .int a4, .int a5] σ (th_Q4 n) := by
  have ⟨⟨h3, hn, hT, hS⟩, hC, hR⟩ := h
  refine WM.mono (WM.deep (th_feed2 (d := 0) hT) (by decide)) ?_
  rintro q s ⟨hq, T1, u1⟩
  exact th_Qu4 h hq T1 u1 (by decide) (by decide) (by decide)
set_option maxRecDepth 100000 in
set_option maxHeartbeats 4000000 in
theorem tl4_x_end {n : Nat} {a1 : Int32} {σ : tm_S} (h : th_I4 n σ) : WM 90 95 [.ref 0, .int a1] σ (th_Q4 n) := by
  exact th_pub4 h (ts := [(3, 0, 0), (1, (-2147483648), 2147483647)]) (by decide) ⟨⟨_, rfl, by decide, by decide⟩, ⟨_, rfl, (tn_rng _).1, (tn_rng _).2⟩, trivial⟩
set_option maxRecDepth 100000 in
set_option maxHeartbeats 4000000 in
theorem tl4_m_end {n : Nat} {a1 : Int32} {σ : tm_S} (h : th_I4 n σ) : WM 90 225 [.ref 11, .int a1] σ (th_Q4 n) := by
  exact th_pub4 h (ts := [(3, 11, 11), (1, (-2147483648), 2147483647)]) (by decide) ⟨⟨_, rfl, by decide, by decide⟩, ⟨_, rfl, (tn_rng _).1, (tn_rng _).2⟩, trivial⟩
set_option maxRecDepth 100000 in
set_option maxHeartbeats 4000000 in
theorem tl4_x_load {n : Nat}  {σ : tm_S} (h : th_I4 n σ) : WM 90 97 [.ref 0] σ (th_Q4 n) := by
  have ⟨⟨h3, hn, hT, hS⟩, hC, hR⟩ := h
  refine WM.mono (WM.deep (th_xload2 (tc_z h3 hn (z := tz_adv) (by simp [tc_zp])) h.1) (by decide)) ?_
  rintro q s ⟨hq, u1⟩
  exact th_Qd4 h hq u1 (by decide) (by decide)
set_option maxRecDepth 100000 in
set_option maxHeartbeats 4000000 in
theorem tl4_m_load {n : Nat}  {σ : tm_S} (h : th_I4 n σ) : WM 90 232 [.ref 11] σ (th_Q4 n) := by
  exact th_pub4 h (ts := [(3, 11, 11)]) (by decide) ⟨⟨_, rfl, by decide, by decide⟩, trivial⟩
set_option maxRecDepth 100000 in
set_option maxHeartbeats 4000000 in
theorem tl4_x_fault {n : Nat} {a1 : Int32} {σ : tm_S} (h : th_I4 n σ) : WM 90 131 [.ref 0, .int a1] σ (th_Q4 n) := by
  exact th_pub4 h (ts := [(3, 0, 0), (1, (-2147483648), 2147483647)]) (by decide) ⟨⟨_, rfl, by decide, by decide⟩, ⟨_, rfl, (tn_rng _).1, (tn_rng _).2⟩, trivial⟩
set_option maxRecDepth 100000 in
set_option maxHeartbeats 4000000 in
theorem tl4_m_fault {n : Nat} {a1 : Int32} {σ : tm_S} (h : th_I4 n σ) : WM 90 243 [.ref 11, .int a1] σ (th_Q4 n) := by
  exact th_pub4 h (ts := [(3, 11, 11), (1, (-2147483648), 2147483647)]) (by decide) ⟨⟨_, rfl, by decide, by decide⟩, ⟨_, rfl, (tn_rng _).1, (tn_rng _).2⟩, trivial⟩
set_option maxRecDepth 100000 in
set_option maxHeartbeats 4000000 in
theorem tl4_x_score {n : Nat} {a1 : Int32} {σ : tm_S} (h : th_I4 n σ) : WM 90 134 [.ref 0, .int a1] σ (th_Q4 n) := by
  exact th_pub4 h (ts := [(3, 0, 0), (1, (-2147483648), 2147483647)]) (by decide) ⟨⟨_, rfl, by decide, by decide⟩, ⟨_, rfl, (tn_rng _).1, (tn_rng _).2⟩, trivial⟩
set_option maxRecDepth 100000 in
set_option maxHeartbeats 4000000 in
theorem tl4_m_score {n : Nat} {a1 : Int32} {σ : tm_S} (h : th_I4 n σ) : WM 90 211 [.ref 11, .int a1] σ (th_Q4 n) := by
  exact th_pub4 h (ts := [(3, 11, 11), (1, (-2147483648), 2147483647)]) (by decide) ⟨⟨_, rfl, by decide, by decide⟩, ⟨_, rfl, (tn_rng _).1, (tn_rng _).2⟩, trivial⟩
set_option maxRecDepth 100000 in
set_option maxHeartbeats 4000000 in
theorem tl4_x_voice {n : Nat} {a1 : Int32} {a2 : Int32} {σ : tm_S} (h : th_I4 n σ) : WM 90 140 [.ref 0, .int a1, .int a2] σ (th_Q4 n) := by
  exact th_pub4 h (ts := [(3, 0, 0), (1, (-2147483648), 2147483647), (1, (-2147483648), 2147483647)]) (by decide) ⟨⟨_, rfl, by decide, by decide⟩, ⟨_, rfl, (tn_rng _).1, (tn_rng _).2⟩, ⟨_, rfl, (tn_rng _).1, (tn_rng _).2⟩, trivial⟩
set_option maxRecDepth 100000 in
set_option maxHeartbeats 4000000 in
theorem tl4_m_voice {n : Nat} {a1 : Int32} {a2 : Int32} {σ : tm_S} (h : th_I4 n σ) : WM 90 215 [.ref 11, .int a1, .int a2] σ (th_Q4 n) := by
  exact th_pub4 h (ts := [(3, 11, 11), (1, (-2147483648), 2147483647), (1, (-2147483648), 2147483647)]) (by decide) ⟨⟨_, rfl, by decide, by decide⟩, ⟨_, rfl, (tn_rng _).1, (tn_rng _).2⟩, ⟨_, rfl, (tn_rng _).1, (tn_rng _).2⟩, trivial⟩
set_option maxRecDepth 100000 in
set_option maxHeartbeats 4000000 in
theorem tl4_x_sings {n : Nat} {a1 : Int32} {a2 : Int32} {σ : tm_S} (h : th_I4 n σ) : WM 90 146 [.ref 0, .int a1, .int a2] σ (th_Q4 n) := by
  exact th_pub4 h (ts := [(3, 0, 0), (1, (-2147483648), 2147483647), (1, (-2147483648), 2147483647)]) (by decide) ⟨⟨_, rfl, by decide, by decide⟩, ⟨_, rfl, (tn_rng _).1, (tn_rng _).2⟩, ⟨_, rfl, (tn_rng _).1, (tn_rng _).2⟩, trivial⟩
set_option maxRecDepth 100000 in
set_option maxHeartbeats 4000000 in
theorem tl4_m_sings {n : Nat} {a1 : Int32} {a2 : Int32} {σ : tm_S} (h : th_I4 n σ) : WM 90 218 [.ref 11, .int a1, .int a2] σ (th_Q4 n) := by
  exact th_pub4 h (ts := [(3, 11, 11), (1, (-2147483648), 2147483647), (1, (-2147483648), 2147483647)]) (by decide) ⟨⟨_, rfl, by decide, by decide⟩, ⟨_, rfl, (tn_rng _).1, (tn_rng _).2⟩, ⟨_, rfl, (tn_rng _).1, (tn_rng _).2⟩, trivial⟩
set_option maxRecDepth 100000 in
set_option maxHeartbeats 4000000 in
theorem tl4_x_chord {n : Nat} {a1 : Int32} {σ : tm_S} (h : th_I4 n σ) : WM 90 147 [.ref 0, .int a1] σ (th_Q4 n) := by
  exact th_pub4 h (ts := [(3, 0, 0), (1, (-2147483648), 2147483647)]) (by decide) ⟨⟨_, rfl, by decide, by decide⟩, ⟨_, rfl, (tn_rng _).1, (tn_rng _).2⟩, trivial⟩
set_option maxRecDepth 100000 in
set_option maxHeartbeats 4000000 in
theorem tl4_m_chord {n : Nat} {a1 : Int32} {σ : tm_S} (h : th_I4 n σ) : WM 90 220 [.ref 11, .int a1] σ (th_Q4 n) := by
  exact th_pub4 h (ts := [(3, 11, 11), (1, (-2147483648), 2147483647)]) (by decide) ⟨⟨_, rfl, by decide, by decide⟩, ⟨_, rfl, (tn_rng _).1, (tn_rng _).2⟩, trivial⟩
set_option maxRecDepth 100000 in
set_option maxHeartbeats 4000000 in
theorem tl4_x_fit {n : Nat} {a1 : Int32} {a2 : Int32} {σ : tm_S} (h : th_I4 n σ) : WM 90 148 [.ref 0, .int a1, .int a2] σ (th_Q4 n) := by
  exact th_pub4 h (ts := [(3, 0, 0), (1, (-2147483648), 2147483647), (1, (-2147483648), 2147483647)]) (by decide) ⟨⟨_, rfl, by decide, by decide⟩, ⟨_, rfl, (tn_rng _).1, (tn_rng _).2⟩, ⟨_, rfl, (tn_rng _).1, (tn_rng _).2⟩, trivial⟩
set_option maxRecDepth 100000 in
set_option maxHeartbeats 4000000 in
theorem tl4_m_fit {n : Nat} {a1 : Int32} {a2 : Int32} {σ : tm_S} (h : th_I4 n σ) : WM 90 221 [.ref 11, .int a1, .int a2] σ (th_Q4 n) := by
  exact th_pub4 h (ts := [(3, 11, 11), (1, (-2147483648), 2147483647), (1, (-2147483648), 2147483647)]) (by decide) ⟨⟨_, rfl, by decide, by decide⟩, ⟨_, rfl, (tn_rng _).1, (tn_rng _).2⟩, ⟨_, rfl, (tn_rng _).1, (tn_rng _).2⟩, trivial⟩
set_option maxRecDepth 100000 in
set_option maxHeartbeats 4000000 in
theorem tl4_x_keep {n : Nat} {a1 : Int32} {a2 : Int32} {σ : tm_S} (h : th_I4 n σ) : WM 90 150 [.ref 0, .int a1, .int a2] σ (th_Q4 n) := by
  have ⟨⟨h3, hn, hT, hS⟩, hC, hR⟩ := h
  refine WM.mono (WM.deep (th_xkeep (d := 0) hn h3 hT hS) (by decide)) ?_
  rintro q s ⟨hq, rfl | ⟨k, r, hr, rfl⟩⟩
  · exact ⟨hq, h⟩
  · exact ⟨hq, ⟨h3, hn, ⟨hT.1, hT.2⟩, th_SLs hS hr⟩, tw_RCu hC rfl rfl rfl rfl rfl, tw_RRu hR rfl rfl rfl rfl⟩
set_option maxRecDepth 100000 in
set_option maxHeartbeats 4000000 in
theorem tl4_m_keep {n : Nat} {a1 : Int32} {a2 : Int32} {σ : tm_S} (h : th_I4 n σ) : WM 90 222 [.ref 11, .int a1, .int a2] σ (th_Q4 n) := by
  exact th_pub4 h (ts := [(3, 11, 11), (1, (-2147483648), 2147483647), (1, (-2147483648), 2147483647)]) (by decide) ⟨⟨_, rfl, by decide, by decide⟩, ⟨_, rfl, (tn_rng _).1, (tn_rng _).2⟩, ⟨_, rfl, (tn_rng _).1, (tn_rng _).2⟩, trivial⟩
set_option maxRecDepth 100000 in
set_option maxHeartbeats 4000000 in
theorem tl4_x_write {n : Nat}  {σ : tm_S} (h : th_I4 n σ) : WM 90 151 [.ref 0] σ (th_Q4 n) := by
  exact th_pub4 h (ts := [(3, 0, 0)]) (by decide) ⟨⟨_, rfl, by decide, by decide⟩, trivial⟩
set_option maxRecDepth 100000 in
set_option maxHeartbeats 4000000 in
theorem tl4_m_write {n : Nat}  {σ : tm_S} (h : th_I4 n σ) : WM 90 228 [.ref 11] σ (th_Q4 n) := by
  have ⟨⟨h3, hn, hT, hS⟩, hC, hR⟩ := h
  refine WM.mono (WM.deep (th_write2 (d := 0) (by omega) (by omega) hT) (by decide)) ?_
  rintro q s ⟨hq, T1, u1⟩
  exact th_Qu4 h hq T1 u1 (by decide) (by decide) (by decide)
set_option maxRecDepth 100000 in
set_option maxHeartbeats 4000000 in
theorem tl4_x_out {n : Nat} {a1 : Int32} {σ : tm_S} (h : th_I4 n σ) : WM 90 157 [.ref 0, .int a1] σ (th_Q4 n) := by
  exact th_pub4 h (ts := [(3, 0, 0), (1, (-2147483648), 2147483647)]) (by decide) ⟨⟨_, rfl, by decide, by decide⟩, ⟨_, rfl, (tn_rng _).1, (tn_rng _).2⟩, trivial⟩
set_option maxRecDepth 100000 in
set_option maxHeartbeats 4000000 in
theorem tl4_m_out {n : Nat} {a1 : Int32} {σ : tm_S} (h : th_I4 n σ) : WM 90 227 [.ref 11, .int a1] σ (th_Q4 n) := by
  exact th_pub4 h (ts := [(3, 11, 11), (1, (-2147483648), 2147483647)]) (by decide) ⟨⟨_, rfl, by decide, by decide⟩, ⟨_, rfl, (tn_rng _).1, (tn_rng _).2⟩, trivial⟩
set_option maxRecDepth 100000 in
set_option maxHeartbeats 4000000 in
theorem tl4_x_take {n : Nat}  {σ : tm_S} (h : th_I4 n σ) : WM 90 158 [.ref 0] σ (th_Q4 n) := by
  exact th_pub4 h (ts := [(3, 0, 0)]) (by decide) ⟨⟨_, rfl, by decide, by decide⟩, trivial⟩
set_option maxRecDepth 100000 in
set_option maxHeartbeats 4000000 in
theorem tl4_m_take {n : Nat}  {σ : tm_S} (h : th_I4 n σ) : WM 90 226 [.ref 11] σ (th_Q4 n) := by
  exact th_pub4 h (ts := [(3, 11, 11)]) (by decide) ⟨⟨_, rfl, by decide, by decide⟩, trivial⟩
theorem tw_both {n : Nat} {k : Int32} {σ σ1 σ2 : tm_S} (h : th_I4 n σ) (h1 : ((σ1 = σ ∧ (3 ≤ k.toInt → k.toInt ≤ 12 → σ.1 1 0 = k)) ∨ (3 ≤ k.toInt ∧ k.toInt ≤ 12 ∧ th_octS (σ.2.2 0 8) k σ σ1))) (h2 : σ2 = tm_sI σ1 11 0 0 ∧ ¬ (3 ≤ k.toInt ∧ k.toInt ≤ 12) ∨ (3 ≤ k.toInt ∧ k.toInt ≤ 12 ∧ ∃ τ, th_row0 50 (tm_sI (tm_sI σ1 11 0 0) 11 1 k) τ ∧ σ2 = tm_sI (tm_sI (tm_sI τ 11 23 0) 11 26 0) 11 11 0)) : ∃ m : Nat, th_I4 m σ2 := by
  obtain ⟨m, hI⟩ := th_both h.1 h1 h2
  have hc := th_cur h.1.2.2.1
  have fr : ∀ a : Nat, ¬ a = 11 → ¬ a = 50 → σ2.1 a = σ1.1 a := fun a a1 a2 => by
    rcases h2 with ⟨rfl, -⟩ | ⟨-, -, τ, hτ, rfl⟩
    · exact (tm_sI_ar a1).1
    · rw [(tm_sI_ar a1).1, (tm_sI_ar a1).1, (tm_sI_ar a1).1]
      funext i
      rw [hτ.1 a i a2, (tm_sI_ar a1).1, (tm_sI_ar a1).1]
  have fs : ∀ a j : Nat, ¬ a = 17 → ¬ a = 1 → ¬ a = 9 → ¬ a = 10 → σ1.1 a j = σ.1 a j := fun a j b1 b2 b3 b4 => by
    rcases h1 with ⟨rfl, -⟩ | ⟨-, -, q⟩
    · rfl
    · exact q.1 a j b1 (fun e => b2 e.1) (fun e => by
        rcases hc with hc | hc
        · exact b3 (e.1.trans hc)
        · exact b4 (e.1.trans hc))
  have fa : ∀ a : Nat, ¬ a = 17 → ¬ a = 1 → ¬ a = 9 → ¬ a = 10 → ¬ a = 11 → ¬ a = 50 → σ2.1 a = σ.1 a := fun a b1 b2 b3 b4 b5 b6 => by
    rw [fr a b5 b6]
    funext j
    exact fs a j b1 b2 b3 b4
  have fm : ∀ q : Nat, q = 15 ∨ q = 16 ∨ q = 17 → σ2.1 11 q = σ.1 11 q := fun q hq => by
    rw [← fs 11 q (by decide) (by decide) (by decide) (by decide)]
    rcases h2 with ⟨rfl, -⟩ | ⟨-, -, τ, hτ, rfl⟩
    · rw [tm_gI, if_neg (fun z => absurd z.2 (by omega))]
    · rw [tm_gI, if_neg (fun z => absurd z.2 (by omega)), tm_gI, if_neg (fun z => absurd z.2 (by omega)), tm_gI, if_neg (fun z => absurd z.2 (by omega)), hτ.1 11 q (by decide), tm_gI, if_neg (fun z => absurd z.2 (by omega)), tm_gI, if_neg (fun z => absurd z.2 (by omega))]
  have f5 := fa 5 (by decide) (by decide) (by decide) (by decide) (by decide) (by decide)
  exact ⟨m, hI, tw_RCu h.2.1 (by rw [f5]) (by rw [f5]) (by rw [f5]) (by rw [f5]) (fa 28 (by decide) (by decide) (by decide) (by decide) (by decide) (by decide)), tw_RRu h.2.2 (fm 15 (by decide)) (fm 16 (by decide)) (fm 17 (by decide)) (fa 54 (by decide) (by decide) (by decide) (by decide) (by decide) (by decide))⟩
theorem tw_start0 {s : tm_S} (h1 : s.1 5 3 = 0) (h2 : s.1 11 15 = 0) : tw_RC s ∧ tw_RR s := by
  have no : ∀ c : Nat, (0 : Int32) = nI c → 2 ≤ c → c ≤ 24 → False := fun c e a b => by
    have := (nI_eq (a := 0) (b := c) (by decide) (by omega)).mp e
    omega
  exact ⟨fun c S a1 a2 a3 a4 => absurd (h1.symm.trans a1) (fun e => no c e a3 a4), fun c S a1 a2 a3 a4 => absurd (h2.symm.trans a1) (fun e => no c e a3 a4)⟩
