/-! ===== the contexts hold; every call of the law ===== -/
def tc_eqc (z c : tv_C) : Bool := Nat.beq c.1 z.1 && decide (c.2.1 = z.2.1) && decide (c.2.2.2.1 = z.2.2.2.1) && decide (c.2.2.2.2.1 = z.2.2.2.2.1) && Nat.ble c.2.2.2.2.2 z.2.2.2.2.2
theorem tc_get {T : tv_TT} {c z : tv_C} (hs : tv_Snd T c) (h : tc_eqc z c = true) : tv_Snd T z := by
  unfold tc_eqc at h
  simp only [Bool.and_eq_true, decide_eq_true_eq] at h
  obtain ⟨⟨⟨⟨h1, h2⟩, h3⟩, h4⟩, h5⟩ := h
  obtain ⟨j, a, hh, cs, w, r⟩ := c
  obtain ⟨j2, a2, hh2, cs2, w2, r2⟩ := z
  dsimp only at h1 h2 h3 h4 h5
  have h1 := tv_beq h1
  subst h1 h2 h3 h4
  exact tv_Snd_up hs (Nat.le_of_ble_eq_true h5)
theorem tc_any {T : tv_TT} {cx : Nat → List tv_C} {z : tv_C} {R : Nat} (HC : ∀ a, ∀ c2 ∈ cx a, c2.2.2.2.2.2 < R → tv_Snd T c2 ∧ ∀ q ∈ c2.2.2.2.1, tv_tok q.1 = true) (hz : (cx z.1).any (tc_eqc z) = true) (hR : z.2.2.2.2.2 < R) : tv_Snd T z := by
  obtain ⟨c, hc, he⟩ := List.any_eq_true.mp hz
  have h5 : c.2.2.2.2.2 ≤ z.2.2.2.2.2 := by
    unfold tc_eqc at he
    rw [Bool.and_eq_true] at he
    exact Nat.le_of_ble_eq_true he.2
  exact tc_get (HC z.1 c hc (by omega)).1 he
def tz_noteN (v : Int) : tv_C := (214, [(3, 11, 11), (1, 0, 7), (1, 0, v - 1)], [], [((1, 1 - v, v - 1), [])], [], 39)
theorem tc_note {v : Int} (h : tv_Snd (tc_T v) (tz_noteN v)) : tv_Snd (tc_T v) (tz_note v) := by
  intro As σ hva hT
  refine WM.mono (h As σ hva hT) ?_
  rintro r s ⟨h1, h2, q, hq, hr, -⟩
  change q ∈ [((1, 1 - v, v - 1), [])] at hq
  rw [List.mem_singleton] at hq
  subst hq
  rcases hr with ⟨e, -⟩ | ⟨x, rfl, hx⟩
  · cases e
  · obtain ⟨z, rfl, -⟩ := hx
    exact tv_Qc1 h1 h2 tv_rva
def tc_zh (v : Int) : List tv_C := [tz_acts, tz_noteN v, tz_blank, tz_letter, tz_digit, tz_word, tz_rn, tz_sg, tz_fl]
def tc_zp : List tv_C := [tz_li, tz_fli, tz_ifl, tz_nm, tz_hrm, tz_pdo, tz_adv]
set_option maxRecDepth 100000 in
set_option maxHeartbeats 4000000 in
theorem tc_hand {n : Nat} (h3 : 3 ≤ n) (hn : n ≤ 12) {cx : Nat → List tv_C} (Z : (tc_zh (n : Int)).all (fun z => (cx z.1).any (tc_eqc z)) = true) {a : Nat} {c : tv_C} (hc : c ∈ tc_h a) (HC : ∀ a, ∀ c2 ∈ cx a, c2.2.2.2.2.2 < c.2.2.2.2.2 → tv_Snd (tc_T (n : Int)) c2 ∧ ∀ q ∈ c2.2.2.2.1, tv_tok q.1 = true) : tv_Snd (tc_T (n : Int)) c ∧ ∀ q ∈ c.2.2.2.1, tv_tok q.1 = true := by
  have Zz : ∀ z : tv_C, z ∈ tc_zh (n : Int) → (cx z.1).any (tc_eqc z) = true := fun z hz => List.all_eq_true.mp Z z hz
  unfold tc_h at hc
  split at hc <;> simp only [List.mem_cons, List.not_mem_nil, or_false] at hc
  · subst hc
    exact ⟨ts_into (tc_any HC (Zz tz_acts (by simp [tc_zh])) (by decide)), by decide⟩
  · rcases hc with rfl | rfl | rfl
    · exact ⟨ts_bit1, by decide⟩
    · exact ⟨ts_bit2, by decide⟩
    · exact ⟨ts_bit0, by decide⟩
  · subst hc
    exact ⟨ts_sink, by decide⟩
  · subst hc
    exact ⟨ts_adv (tc_any HC (Zz tz_blank (by simp [tc_zh])) (by decide)) (tc_any HC (Zz tz_letter (by simp [tc_zh])) (by decide)) (tc_any HC (Zz tz_digit (by simp [tc_zh])) (by decide)) (tc_any HC (Zz tz_word (by simp [tc_zh])) (by decide)), by decide⟩
  · rcases hc with rfl | rfl | rfl
    · exact ⟨ts_spl0, by decide⟩
    · exact ⟨ts_spl1, by decide⟩
    · exact ⟨ts_spl2, by decide⟩
  · rcases hc with rfl | rfl | rfl | rfl | rfl | rfl
    · exact ⟨ts_len0, by decide⟩
    · exact ⟨ts_len1, by decide⟩
    · exact ⟨ts_len2, by decide⟩
    · exact ⟨ts_len3, by decide⟩
    · exact ⟨ts_len4, by decide⟩
    · exact ⟨ts_len5, by decide⟩
  · rcases hc with rfl | rfl | rfl | rfl | rfl | rfl | rfl
    · exact ⟨ts_chr3, by decide⟩
    · exact ⟨ts_chr2, by decide⟩
    · exact ⟨ts_chr6, by decide⟩
    · exact ⟨ts_chr0, by decide⟩
    · exact ⟨ts_chr1, by decide⟩
    · exact ⟨ts_chr5, by decide⟩
    · exact ⟨ts_chr4, by decide⟩
  · subst hc
    exact ⟨ts_io0, by decide⟩
  · subst hc
    exact ⟨ts_copy, by decide⟩
  · subst hc
    exact ⟨ts_ones, by decide⟩
  · subst hc
    exact ⟨ts_ffs h3 hn (th_cnt h3 hn), by decide⟩
  · subst hc
    exact ⟨ts_sung (tc_note (tc_any HC (Zz (tz_noteN n) (by simp [tc_zh])) (show (39 : Nat) < 40 by decide))), by decide⟩
  · subst hc
    exact ⟨ts_rdg (tc_any HC (Zz tz_fl (by simp [tc_zh])) (by decide)) (tc_any HC (Zz tz_rn (by simp [tc_zh])) (by decide)) (tc_any HC (Zz tz_sg (by simp [tc_zh])) (by decide)) (by omega), by decide⟩
set_option maxRecDepth 100000 in
set_option maxHeartbeats 4000000 in
theorem tc_s3 : ∀ a, ∀ c ∈ tc_x3 a, tv_Snd (tc_T ((3 : Nat) : Int)) c := tc_sys (fun a c hc => by
  rcases List.mem_append.mp hc with h | h
  · exact Or.inl ⟨400, tc_ok_mem tc_c3 h⟩
  · exact Or.inr (fun HC => tc_hand (n := 3) (by decide) (by decide) (by decide +kernel) h HC))
set_option maxRecDepth 100000 in
set_option maxHeartbeats 4000000 in
theorem tc_s4 : ∀ a, ∀ c ∈ tc_x4 a, tv_Snd (tc_T ((4 : Nat) : Int)) c := tc_sys (fun a c hc => by
  rcases List.mem_append.mp hc with h | h
  · exact Or.inl ⟨400, tc_ok_mem tc_c4 h⟩
  · exact Or.inr (fun HC => tc_hand (n := 4) (by decide) (by decide) (by decide +kernel) h HC))
set_option maxRecDepth 100000 in
set_option maxHeartbeats 4000000 in
theorem tc_s5 : ∀ a, ∀ c ∈ tc_x5 a, tv_Snd (tc_T ((5 : Nat) : Int)) c := tc_sys (fun a c hc => by
  rcases List.mem_append.mp hc with h | h
  · exact Or.inl ⟨400, tc_ok_mem tc_c5 h⟩
  · exact Or.inr (fun HC => tc_hand (n := 5) (by decide) (by decide) (by decide +kernel) h HC))
set_option maxRecDepth 100000 in
set_option maxHeartbeats 4000000 in
theorem tc_s6 : ∀ a, ∀ c ∈ tc_x6 a, tv_Snd (tc_T ((6 : Nat) : Int)) c := tc_sys (fun a c hc => by
  rcases List.mem_append.mp hc with h | h
  · exact Or.inl ⟨400, tc_ok_mem tc_c6 h⟩
  · exact Or.inr (fun HC => tc_hand (n := 6) (by decide) (by decide) (by decide +kernel) h HC))
set_option maxRecDepth 100000 in
set_option maxHeartbeats 4000000 in
theorem tc_s7 : ∀ a, ∀ c ∈ tc_x7 a, tv_Snd (tc_T ((7 : Nat) : Int)) c := tc_sys (fun a c hc => by
  rcases List.mem_append.mp hc with h | h
  · exact Or.inl ⟨400, tc_ok_mem tc_c7 h⟩
  · exact Or.inr (fun HC => tc_hand (n := 7) (by decide) (by decide) (by decide +kernel) h HC))
set_option maxRecDepth 100000 in
set_option maxHeartbeats 4000000 in
theorem tc_s8 : ∀ a, ∀ c ∈ tc_x8 a, tv_Snd (tc_T ((8 : Nat) : Int)) c := tc_sys (fun a c hc => by
  rcases List.mem_append.mp hc with h | h
  · exact Or.inl ⟨400, tc_ok_mem tc_c8 h⟩
  · exact Or.inr (fun HC => tc_hand (n := 8) (by decide) (by decide) (by decide +kernel) h HC))
set_option maxRecDepth 100000 in
set_option maxHeartbeats 4000000 in
theorem tc_s9 : ∀ a, ∀ c ∈ tc_x9 a, tv_Snd (tc_T ((9 : Nat) : Int)) c := tc_sys (fun a c hc => by
  rcases List.mem_append.mp hc with h | h
  · exact Or.inl ⟨400, tc_ok_mem tc_c9 h⟩
  · exact Or.inr (fun HC => tc_hand (n := 9) (by decide) (by decide) (by decide +kernel) h HC))
set_option maxRecDepth 100000 in
set_option maxHeartbeats 4000000 in
theorem tc_s10 : ∀ a, ∀ c ∈ tc_x10 a, tv_Snd (tc_T ((10 : Nat) : Int)) c := tc_sys (fun a c hc => by
  rcases List.mem_append.mp hc with h | h
  · exact Or.inl ⟨400, tc_ok_mem tc_c10 h⟩
  · exact Or.inr (fun HC => tc_hand (n := 10) (by decide) (by decide) (by decide +kernel) h HC))
set_option maxRecDepth 100000 in
set_option maxHeartbeats 4000000 in
theorem tc_s11 : ∀ a, ∀ c ∈ tc_x11 a, tv_Snd (tc_T ((11 : Nat) : Int)) c := tc_sys (fun a c hc => by
  rcases List.mem_append.mp hc with h | h
  · exact Or.inl ⟨400, tc_ok_mem tc_c11 h⟩
  · exact Or.inr (fun HC => tc_hand (n := 11) (by decide) (by decide) (by decide +kernel) h HC))
set_option maxRecDepth 100000 in
set_option maxHeartbeats 4000000 in
theorem tc_s12 : ∀ a, ∀ c ∈ tc_x12 a, tv_Snd (tc_T ((12 : Nat) : Int)) c := tc_sys (fun a c hc => by
  rcases List.mem_append.mp hc with h | h
  · exact Or.inl ⟨400, tc_ok_mem tc_c12 h⟩
  · exact Or.inr (fun HC => tc_hand (n := 12) (by decide) (by decide) (by decide +kernel) h HC))
def tc_pl : List (Nat × List tv_T) := [(5, [(3, 0, 0), (1, (-2147483648), 2147483647), (1, (-2147483648), 2147483647), (1, (-2147483648), 2147483647)]), (161, [(3, 11, 11), (1, (-2147483648), 2147483647), (1, (-2147483648), 2147483647), (1, (-2147483648), 2147483647)]), (12, [(3, 0, 0), (1, (-2147483648), 2147483647), (1, (-2147483648), 2147483647)]), (167, [(3, 11, 11), (1, (-2147483648), 2147483647), (1, (-2147483648), 2147483647)]), (18, [(3, 0, 0), (1, (-2147483648), 2147483647), (1, (-2147483648), 2147483647), (1, (-2147483648), 2147483647)]), (170, [(3, 11, 11), (1, (-2147483648), 2147483647), (1, (-2147483648), 2147483647), (1, (-2147483648), 2147483647)]), (22, [(3, 0, 0), (1, (-2147483648), 2147483647), (1, (-2147483648), 2147483647)]), (172, [(3, 11, 11), (1, (-2147483648), 2147483647), (1, (-2147483648), 2147483647)]), (26, [(3, 0, 0), (1, (-2147483648), 2147483647), (1, (-2147483648), 2147483647), (1, (-2147483648), 2147483647)]), (175, [(3, 11, 11), (1, (-2147483648), 2147483647), (1, (-2147483648), 2147483647), (1, (-2147483648), 2147483647)]), (28, [(3, 0, 0), (1, (-2147483648), 2147483647), (1, (-2147483648), 2147483647)]), (176, [(3, 11, 11), (1, (-2147483648), 2147483647), (1, (-2147483648), 2147483647)]), (30, [(3, 0, 0), (1, (-2147483648), 2147483647)]), (179, [(3, 11, 11), (1, (-2147483648), 2147483647)]), (33, [(3, 0, 0), (1, (-2147483648), 2147483647), (1, (-2147483648), 2147483647), (1, (-2147483648), 2147483647)]), (180, [(3, 11, 11), (1, (-2147483648), 2147483647), (1, (-2147483648), 2147483647), (1, (-2147483648), 2147483647)]), (34, [(3, 0, 0), (1, (-2147483648), 2147483647), (1, (-2147483648), 2147483647), (1, (-2147483648), 2147483647)]), (47, [(3, 0, 0), (1, (-2147483648), 2147483647), (1, (-2147483648), 2147483647)]), (185, [(3, 11, 11), (1, (-2147483648), 2147483647), (2, 0, 0)]), (57, [(3, 0, 0), (1, (-2147483648), 2147483647), (1, (-2147483648), 2147483647), (1, (-2147483648), 2147483647), (1, (-2147483648), 2147483647)]), (187, [(3, 11, 11), (1, (-2147483648), 2147483647), (1, (-2147483648), 2147483647), (1, (-2147483648), 2147483647), (1, (-2147483648), 2147483647)]), (192, [(3, 11, 11), (1, (-2147483648), 2147483647), (1, (-2147483648), 2147483647)]), (66, [(3, 0, 0), (1, (-2147483648), 2147483647), (1, (-2147483648), 2147483647)]), (195, [(3, 11, 11), (1, (-2147483648), 2147483647), (1, (-2147483648), 2147483647)]), (197, [(3, 11, 11)]), (199, [(3, 11, 11), (1, (-2147483648), 2147483647), (1, (-2147483648), 2147483647)]), (200, [(3, 11, 11), (1, (-2147483648), 2147483647)]), (77, [(3, 0, 0), (1, (-2147483648), 2147483647), (1, (-2147483648), 2147483647)]), (82, [(3, 0, 0), (1, (-2147483648), 2147483647), (1, (-2147483648), 2147483647), (1, (-2147483648), 2147483647)]), (86, [(3, 0, 0), (1, (-2147483648), 2147483647), (1, (-2147483648), 2147483647)]), (89, [(3, 0, 0), (1, (-2147483648), 2147483647), (1, (-2147483648), 2147483647)]), (210, [(3, 11, 11), (1, (-2147483648), 2147483647), (1, (-2147483648), 2147483647)]), (90, [(3, 0, 0), (1, (-2147483648), 2147483647), (1, (-2147483648), 2147483647), (1, (-2147483648), 2147483647), (1, (-2147483648), 2147483647), (1, (-2147483648), 2147483647)]), (95, [(3, 0, 0), (1, (-2147483648), 2147483647)]), (225, [(3, 11, 11), (1, (-2147483648), 2147483647)]), (232, [(3, 11, 11)]), (131, [(3, 0, 0), (1, (-2147483648), 2147483647)]), (243, [(3, 11, 11), (1, (-2147483648), 2147483647)]), (134, [(3, 0, 0), (1, (-2147483648), 2147483647)]), (211, [(3, 11, 11), (1, (-2147483648), 2147483647)]), (140, [(3, 0, 0), (1, (-2147483648), 2147483647), (1, (-2147483648), 2147483647)]), (215, [(3, 11, 11), (1, (-2147483648), 2147483647), (1, (-2147483648), 2147483647)]), (146, [(3, 0, 0), (1, (-2147483648), 2147483647), (1, (-2147483648), 2147483647)]), (218, [(3, 11, 11), (1, (-2147483648), 2147483647), (1, (-2147483648), 2147483647)]), (147, [(3, 0, 0), (1, (-2147483648), 2147483647)]), (220, [(3, 11, 11), (1, (-2147483648), 2147483647)]), (148, [(3, 0, 0), (1, (-2147483648), 2147483647), (1, (-2147483648), 2147483647)]), (221, [(3, 11, 11), (1, (-2147483648), 2147483647), (1, (-2147483648), 2147483647)]), (222, [(3, 11, 11), (1, (-2147483648), 2147483647), (1, (-2147483648), 2147483647)]), (151, [(3, 0, 0)]), (157, [(3, 0, 0), (1, (-2147483648), 2147483647)]), (227, [(3, 11, 11), (1, (-2147483648), 2147483647)]), (158, [(3, 0, 0)]), (226, [(3, 11, 11)])]
def tc_pok (q : Nat × List tv_T) (c : tv_C) : Bool := Nat.beq c.1 q.1 && decide (c.2.1 = q.2) && c.2.2.2.1.all (fun r => Nat.beq r.1.1 1) && th_gd.all (fun g => !(tv_mem c.2.2.2.2.1 g.1 g.2)) && Nat.ble c.2.2.2.2.2 90
def tc_pb (cx : Nat → List tv_C) : Bool := tc_pl.all (fun q => (cx q.1).any (tc_pok q))
def tc_zb (cx : Nat → List tv_C) : Bool := tc_zp.all (fun z => (cx z.1).any (tc_eqc z))
set_option maxRecDepth 100000 in
set_option maxHeartbeats 4000000 in
theorem tc_sn {n : Nat} (h3 : 3 ≤ n) (hn : n ≤ 12) : ∃ cx : Nat → List tv_C, (∀ a, ∀ c ∈ cx a, tv_Snd (tc_T (n : Int)) c) ∧ tc_pb cx = true ∧ tc_zb cx = true := by
  rcases (by omega : n = 3 ∨ n = 4 ∨ n = 5 ∨ n = 6 ∨ n = 7 ∨ n = 8 ∨ n = 9 ∨ n = 10 ∨ n = 11 ∨ n = 12) with rfl | rfl | rfl | rfl | rfl | rfl | rfl | rfl | rfl | rfl
  · exact ⟨tc_x3, tc_s3, by decide +kernel, by decide +kernel⟩
  · exact ⟨tc_x4, tc_s4, by decide +kernel, by decide +kernel⟩
  · exact ⟨tc_x5, tc_s5, by decide +kernel, by decide +kernel⟩
  · exact ⟨tc_x6, tc_s6, by decide +kernel, by decide +kernel⟩
  · exact ⟨tc_x7, tc_s7, by decide +kernel, by decide +kernel⟩
  · exact ⟨tc_x8, tc_s8, by decide +kernel, by decide +kernel⟩
  · exact ⟨tc_x9, tc_s9, by decide +kernel, by decide +kernel⟩
  · exact ⟨tc_x10, tc_s10, by decide +kernel, by decide +kernel⟩
  · exact ⟨tc_x11, tc_s11, by decide +kernel, by decide +kernel⟩
  · exact ⟨tc_x12, tc_s12, by decide +kernel, by decide +kernel⟩
theorem tc_z {n : Nat} (h3 : 3 ≤ n) (hn : n ≤ 12) {z : tv_C} (hz : z ∈ tc_zp) : tv_Snd (tc_T (n : Int)) z := by
  obtain ⟨cx, hs, -, hb⟩ := tc_sn h3 hn
  obtain ⟨c, hc, he⟩ := List.any_eq_true.mp (List.all_eq_true.mp hb z hz)
  exact tc_get (hs z.1 c hc) he
/-- a method by its context -/
theorem th_pub {n : Nat} {σ : tm_S} (h : th_IV n σ) {j : Nat} {ts : List tv_T} {As : List Value} (hm : (j, ts) ∈ tc_pl) (hva : tv_va ts As) : WM 90 j As σ (th_Qd n) := by
  obtain ⟨h3, hn, hT, hS⟩ := h
  obtain ⟨cx, hs, hb, -⟩ := tc_sn h3 hn
  obtain ⟨c, hc, he⟩ := List.any_eq_true.mp (List.all_eq_true.mp hb (j, ts) hm)
  unfold tc_pok at he
  simp only [Bool.and_eq_true, decide_eq_true_eq] at he
  obtain ⟨⟨⟨⟨e1, e2⟩, e3⟩, e4⟩, e5⟩ := he
  have e1 := tv_beq e1
  subst e1 e2
  refine WM.mono (WM.deep (hs _ c hc As σ hva hT) (Nat.le_of_ble_eq_true e5)) ?_
  rintro r s ⟨T1, u1, q, hq, hr, -⟩
  have k1 := tv_beq (List.all_eq_true.mp e3 q hq)
  refine ⟨?_, h3, hn, T1, th_SLu hT hS u1 e4⟩
  rcases hr with ⟨e, -⟩ | ⟨x, rfl, hx⟩
  · rw [k1] at e
    cases e
  · obtain ⟨⟨k, lo, hi⟩, nr⟩ := q
    dsimp only at k1
    subst k1
    obtain ⟨z, rfl, -⟩ := hx
    exact ⟨z, rfl⟩
theorem th_Qu {n : Nat} {σ s : tm_S} {w : List (Nat × Nat)} {r : Option Value} (h : th_IV n σ) (hr : ∃ z : Int32, r = some (.int z)) (hT : tv_TY (tc_T (n : Int)) s) (hu : tv_un σ s w) (hg : th_gd.all (fun q => !(tv_mem w q.1 q.2)) = true) : th_Qd n r s := ⟨hr, h.1, h.2.1, hT, th_SLu h.2.2.1 h.2.2.2 hu hg⟩
set_option maxRecDepth 100000 in
set_option maxHeartbeats 4000000 in
theorem tl_x_image {n : Nat} {a1 : Int32} {a2 : Int32} {a3 : Int32} {σ : tm_S} (h : th_IV n σ) : WM 90 5 [.ref 0, .int a1, .int a2, .int a3] σ (th_Qd n) := by
  exact th_pub h (ts := [(3, 0, 0), (1, (-2147483648), 2147483647), (1, (-2147483648), 2147483647), (1, (-2147483648), 2147483647)]) (by decide) ⟨⟨_, rfl, by decide, by decide⟩, ⟨_, rfl, (tn_rng _).1, (tn_rng _).2⟩, ⟨_, rfl, (tn_rng _).1, (tn_rng _).2⟩, ⟨_, rfl, (tn_rng _).1, (tn_rng _).2⟩, trivial⟩
set_option maxRecDepth 100000 in
set_option maxHeartbeats 4000000 in
theorem tl_m_image {n : Nat} {a1 : Int32} {a2 : Int32} {a3 : Int32} {σ : tm_S} (h : th_IV n σ) : WM 90 161 [.ref 11, .int a1, .int a2, .int a3] σ (th_Qd n) := by
  exact th_pub h (ts := [(3, 11, 11), (1, (-2147483648), 2147483647), (1, (-2147483648), 2147483647), (1, (-2147483648), 2147483647)]) (by decide) ⟨⟨_, rfl, by decide, by decide⟩, ⟨_, rfl, (tn_rng _).1, (tn_rng _).2⟩, ⟨_, rfl, (tn_rng _).1, (tn_rng _).2⟩, ⟨_, rfl, (tn_rng _).1, (tn_rng _).2⟩, trivial⟩
set_option maxRecDepth 100000 in
set_option maxHeartbeats 4000000 in
theorem tl_x_name {n : Nat} {a1 : Int32} {a2 : Int32} {σ : tm_S} (h : th_IV n σ) : WM 90 12 [.ref 0, .int a1, .int a2] σ (th_Qd n) := by
  exact th_pub h (ts := [(3, 0, 0), (1, (-2147483648), 2147483647), (1, (-2147483648), 2147483647)]) (by decide) ⟨⟨_, rfl, by decide, by decide⟩, ⟨_, rfl, (tn_rng _).1, (tn_rng _).2⟩, ⟨_, rfl, (tn_rng _).1, (tn_rng _).2⟩, trivial⟩
set_option maxRecDepth 100000 in
set_option maxHeartbeats 4000000 in
theorem tl_m_name {n : Nat} {a1 : Int32} {a2 : Int32} {σ : tm_S} (h : th_IV n σ) : WM 90 167 [.ref 11, .int a1, .int a2] σ (th_Qd n) := by
  exact th_pub h (ts := [(3, 11, 11), (1, (-2147483648), 2147483647), (1, (-2147483648), 2147483647)]) (by decide) ⟨⟨_, rfl, by decide, by decide⟩, ⟨_, rfl, (tn_rng _).1, (tn_rng _).2⟩, ⟨_, rfl, (tn_rng _).1, (tn_rng _).2⟩, trivial⟩
set_option maxRecDepth 100000 in
set_option maxHeartbeats 4000000 in
theorem tl_x_own {n : Nat} {a1 : Int32} {a2 : Int32} {a3 : Int32} {σ : tm_S} (h : th_IV n σ) : WM 90 18 [.ref 0, .int a1, .int a2, .int a3] σ (th_Qd n) := by
  exact th_pub h (ts := [(3, 0, 0), (1, (-2147483648), 2147483647), (1, (-2147483648), 2147483647), (1, (-2147483648), 2147483647)]) (by decide) ⟨⟨_, rfl, by decide, by decide⟩, ⟨_, rfl, (tn_rng _).1, (tn_rng _).2⟩, ⟨_, rfl, (tn_rng _).1, (tn_rng _).2⟩, ⟨_, rfl, (tn_rng _).1, (tn_rng _).2⟩, trivial⟩
set_option maxRecDepth 100000 in
set_option maxHeartbeats 4000000 in
theorem tl_m_own {n : Nat} {a1 : Int32} {a2 : Int32} {a3 : Int32} {σ : tm_S} (h : th_IV n σ) : WM 90 170 [.ref 11, .int a1, .int a2, .int a3] σ (th_Qd n) := by
  exact th_pub h (ts := [(3, 11, 11), (1, (-2147483648), 2147483647), (1, (-2147483648), 2147483647), (1, (-2147483648), 2147483647)]) (by decide) ⟨⟨_, rfl, by decide, by decide⟩, ⟨_, rfl, (tn_rng _).1, (tn_rng _).2⟩, ⟨_, rfl, (tn_rng _).1, (tn_rng _).2⟩, ⟨_, rfl, (tn_rng _).1, (tn_rng _).2⟩, trivial⟩
set_option maxRecDepth 100000 in
set_option maxHeartbeats 4000000 in
theorem tl_x_classes {n : Nat} {a1 : Int32} {a2 : Int32} {σ : tm_S} (h : th_IV n σ) : WM 90 22 [.ref 0, .int a1, .int a2] σ (th_Qd n) := by
  exact th_pub h (ts := [(3, 0, 0), (1, (-2147483648), 2147483647), (1, (-2147483648), 2147483647)]) (by decide) ⟨⟨_, rfl, by decide, by decide⟩, ⟨_, rfl, (tn_rng _).1, (tn_rng _).2⟩, ⟨_, rfl, (tn_rng _).1, (tn_rng _).2⟩, trivial⟩
set_option maxRecDepth 100000 in
set_option maxHeartbeats 4000000 in
theorem tl_m_classes {n : Nat} {a1 : Int32} {a2 : Int32} {σ : tm_S} (h : th_IV n σ) : WM 90 172 [.ref 11, .int a1, .int a2] σ (th_Qd n) := by
  exact th_pub h (ts := [(3, 11, 11), (1, (-2147483648), 2147483647), (1, (-2147483648), 2147483647)]) (by decide) ⟨⟨_, rfl, by decide, by decide⟩, ⟨_, rfl, (tn_rng _).1, (tn_rng _).2⟩, ⟨_, rfl, (tn_rng _).1, (tn_rng _).2⟩, trivial⟩
set_option maxRecDepth 100000 in
set_option maxHeartbeats 4000000 in
theorem tl_x_nameOf {n : Nat} {a1 : Int32} {a2 : Int32} {a3 : Int32} {σ : tm_S} (h : th_IV n σ) : WM 90 26 [.ref 0, .int a1, .int a2, .int a3] σ (th_Qd n) := by
  exact th_pub h (ts := [(3, 0, 0), (1, (-2147483648), 2147483647), (1, (-2147483648), 2147483647), (1, (-2147483648), 2147483647)]) (by decide) ⟨⟨_, rfl, by decide, by decide⟩, ⟨_, rfl, (tn_rng _).1, (tn_rng _).2⟩, ⟨_, rfl, (tn_rng _).1, (tn_rng _).2⟩, ⟨_, rfl, (tn_rng _).1, (tn_rng _).2⟩, trivial⟩
set_option maxRecDepth 100000 in
set_option maxHeartbeats 4000000 in
theorem tl_m_nameOf {n : Nat} {a1 : Int32} {a2 : Int32} {a3 : Int32} {σ : tm_S} (h : th_IV n σ) : WM 90 175 [.ref 11, .int a1, .int a2, .int a3] σ (th_Qd n) := by
  exact th_pub h (ts := [(3, 11, 11), (1, (-2147483648), 2147483647), (1, (-2147483648), 2147483647), (1, (-2147483648), 2147483647)]) (by decide) ⟨⟨_, rfl, by decide, by decide⟩, ⟨_, rfl, (tn_rng _).1, (tn_rng _).2⟩, ⟨_, rfl, (tn_rng _).1, (tn_rng _).2⟩, ⟨_, rfl, (tn_rng _).1, (tn_rng _).2⟩, trivial⟩
set_option maxRecDepth 100000 in
set_option maxHeartbeats 4000000 in
theorem tl_x_interval {n : Nat} {a1 : Int32} {a2 : Int32} {σ : tm_S} (h : th_IV n σ) : WM 90 28 [.ref 0, .int a1, .int a2] σ (th_Qd n) := by
  exact th_pub h (ts := [(3, 0, 0), (1, (-2147483648), 2147483647), (1, (-2147483648), 2147483647)]) (by decide) ⟨⟨_, rfl, by decide, by decide⟩, ⟨_, rfl, (tn_rng _).1, (tn_rng _).2⟩, ⟨_, rfl, (tn_rng _).1, (tn_rng _).2⟩, trivial⟩
set_option maxRecDepth 100000 in
set_option maxHeartbeats 4000000 in
theorem tl_m_interval {n : Nat} {a1 : Int32} {a2 : Int32} {σ : tm_S} (h : th_IV n σ) : WM 90 176 [.ref 11, .int a1, .int a2] σ (th_Qd n) := by
  exact th_pub h (ts := [(3, 11, 11), (1, (-2147483648), 2147483647), (1, (-2147483648), 2147483647)]) (by decide) ⟨⟨_, rfl, by decide, by decide⟩, ⟨_, rfl, (tn_rng _).1, (tn_rng _).2⟩, ⟨_, rfl, (tn_rng _).1, (tn_rng _).2⟩, trivial⟩
set_option maxRecDepth 100000 in
set_option maxHeartbeats 4000000 in
theorem tl_x_twin {n : Nat} {a1 : Int32} {σ : tm_S} (h : th_IV n σ) : WM 90 30 [.ref 0, .int a1] σ (th_Qd n) := by
  exact th_pub h (ts := [(3, 0, 0), (1, (-2147483648), 2147483647)]) (by decide) ⟨⟨_, rfl, by decide, by decide⟩, ⟨_, rfl, (tn_rng _).1, (tn_rng _).2⟩, trivial⟩
set_option maxRecDepth 100000 in
set_option maxHeartbeats 4000000 in
theorem tl_m_twin {n : Nat} {a1 : Int32} {σ : tm_S} (h : th_IV n σ) : WM 90 179 [.ref 11, .int a1] σ (th_Qd n) := by
  exact th_pub h (ts := [(3, 11, 11), (1, (-2147483648), 2147483647)]) (by decide) ⟨⟨_, rfl, by decide, by decide⟩, ⟨_, rfl, (tn_rng _).1, (tn_rng _).2⟩, trivial⟩
set_option maxRecDepth 100000 in
set_option maxHeartbeats 4000000 in
theorem tl_x_within {n : Nat} {a1 : Int32} {a2 : Int32} {a3 : Int32} {σ : tm_S} (h : th_IV n σ) : WM 90 33 [.ref 0, .int a1, .int a2, .int a3] σ (th_Qd n) := by
  exact th_pub h (ts := [(3, 0, 0), (1, (-2147483648), 2147483647), (1, (-2147483648), 2147483647), (1, (-2147483648), 2147483647)]) (by decide) ⟨⟨_, rfl, by decide, by decide⟩, ⟨_, rfl, (tn_rng _).1, (tn_rng _).2⟩, ⟨_, rfl, (tn_rng _).1, (tn_rng _).2⟩, ⟨_, rfl, (tn_rng _).1, (tn_rng _).2⟩, trivial⟩
set_option maxRecDepth 100000 in
set_option maxHeartbeats 4000000 in
theorem tl_m_within {n : Nat} {a1 : Int32} {a2 : Int32} {a3 : Int32} {σ : tm_S} (h : th_IV n σ) : WM 90 180 [.ref 11, .int a1, .int a2, .int a3] σ (th_Qd n) := by
  exact th_pub h (ts := [(3, 11, 11), (1, (-2147483648), 2147483647), (1, (-2147483648), 2147483647), (1, (-2147483648), 2147483647)]) (by decide) ⟨⟨_, rfl, by decide, by decide⟩, ⟨_, rfl, (tn_rng _).1, (tn_rng _).2⟩, ⟨_, rfl, (tn_rng _).1, (tn_rng _).2⟩, ⟨_, rfl, (tn_rng _).1, (tn_rng _).2⟩, trivial⟩
set_option maxRecDepth 100000 in
set_option maxHeartbeats 4000000 in
theorem tl_x_lead {n : Nat} {a1 : Int32} {a2 : Int32} {a3 : Int32} {σ : tm_S} (h : th_IV n σ) : WM 90 34 [.ref 0, .int a1, .int a2, .int a3] σ (th_Qd n) := by
  exact th_pub h (ts := [(3, 0, 0), (1, (-2147483648), 2147483647), (1, (-2147483648), 2147483647), (1, (-2147483648), 2147483647)]) (by decide) ⟨⟨_, rfl, by decide, by decide⟩, ⟨_, rfl, (tn_rng _).1, (tn_rng _).2⟩, ⟨_, rfl, (tn_rng _).1, (tn_rng _).2⟩, ⟨_, rfl, (tn_rng _).1, (tn_rng _).2⟩, trivial⟩
set_option maxRecDepth 100000 in
set_option maxHeartbeats 4000000 in
theorem tl_m_lead {n : Nat} {a1 : Int32} {a2 : Int32} {a3 : Int32} {σ : tm_S} (h : th_IV n σ) : WM 90 181 [.ref 11, .int a1, .int a2, .int a3] σ (th_Qd n) := by
  have ⟨h3, hn, hT, hS⟩ := h
  refine WM.mono (WM.deep (th_mlead hn h3 hT) (by decide)) ?_
  rintro q s ⟨hq, T1, u1⟩
  exact th_Qu h hq T1 u1 (by decide)
set_option maxRecDepth 100000 in
set_option maxHeartbeats 4000000 in
theorem tl_x_road {n : Nat} {a1 : Int32} {a2 : Int32} {σ : tm_S} (h : th_IV n σ) : WM 90 47 [.ref 0, .int a1, .int a2] σ (th_Qd n) := by
  exact th_pub h (ts := [(3, 0, 0), (1, (-2147483648), 2147483647), (1, (-2147483648), 2147483647)]) (by decide) ⟨⟨_, rfl, by decide, by decide⟩, ⟨_, rfl, (tn_rng _).1, (tn_rng _).2⟩, ⟨_, rfl, (tn_rng _).1, (tn_rng _).2⟩, trivial⟩
set_option maxRecDepth 100000 in
set_option maxHeartbeats 4000000 in
theorem tl_m_road {n : Nat} {a1 : Int32} {a2 : Int32} {σ : tm_S} (h : th_IV n σ) : WM 90 184 [.ref 11, .int a1, .int a2] σ (th_Qd n) := by
  have ⟨h3, hn, hT, hS⟩ := h
  refine WM.mono (WM.deep (th_mroad hn h3 (tc_z h3 hn (z := tz_nm) (by simp [tc_zp])) hT) (by decide)) ?_
  rintro q s ⟨hq, T1, u1⟩
  exact th_Qu h hq T1 u1 (by decide)
set_option maxRecDepth 100000 in
set_option maxHeartbeats 4000000 in
theorem tl_x_row {n : Nat} {a1 : Int32} {a2 : Int64} {σ : tm_S} (h : th_IV n σ) : WM 90 52 [.ref 0, .int a1, .long a2] σ (th_Qd n) := by
  have ⟨h3, hn, hT, hS⟩ := h
  refine WM.mono (WM.deep (th_xrow (d := 0) hn hT) (by decide)) ?_
  rintro q s ⟨hq, rfl | ⟨k, r, hr, rfl⟩⟩
  · exact ⟨hq, h⟩
  · exact ⟨hq, h3, hn, ⟨hT.1, hT.2⟩, th_SLs hS hr⟩
set_option maxRecDepth 100000 in
set_option maxHeartbeats 4000000 in
theorem tl_m_row {n : Nat} {a1 : Int32} {a2 : Int64} {σ : tm_S} (h : th_IV n σ) : WM 90 185 [.ref 11, .int a1, .long a2] σ (th_Qd n) := by
  exact th_pub h (ts := [(3, 11, 11), (1, (-2147483648), 2147483647), (2, 0, 0)]) (by decide) ⟨⟨_, rfl, by decide, by decide⟩, ⟨_, rfl, (tn_rng _).1, (tn_rng _).2⟩, ⟨_, rfl⟩, trivial⟩
set_option maxRecDepth 100000 in
set_option maxHeartbeats 4000000 in
theorem tl_x_form {n : Nat} {a1 : Int32} {a2 : Int32} {a3 : Int32} {a4 : Int32} {σ : tm_S} (h : th_IV n σ) : WM 90 57 [.ref 0, .int a1, .int a2, .int a3, .int a4] σ (th_Qd n) := by
  exact th_pub h (ts := [(3, 0, 0), (1, (-2147483648), 2147483647), (1, (-2147483648), 2147483647), (1, (-2147483648), 2147483647), (1, (-2147483648), 2147483647)]) (by decide) ⟨⟨_, rfl, by decide, by decide⟩, ⟨_, rfl, (tn_rng _).1, (tn_rng _).2⟩, ⟨_, rfl, (tn_rng _).1, (tn_rng _).2⟩, ⟨_, rfl, (tn_rng _).1, (tn_rng _).2⟩, ⟨_, rfl, (tn_rng _).1, (tn_rng _).2⟩, trivial⟩
set_option maxRecDepth 100000 in
set_option maxHeartbeats 4000000 in
theorem tl_m_form {n : Nat} {a1 : Int32} {a2 : Int32} {a3 : Int32} {a4 : Int32} {σ : tm_S} (h : th_IV n σ) : WM 90 187 [.ref 11, .int a1, .int a2, .int a3, .int a4] σ (th_Qd n) := by
  exact th_pub h (ts := [(3, 11, 11), (1, (-2147483648), 2147483647), (1, (-2147483648), 2147483647), (1, (-2147483648), 2147483647), (1, (-2147483648), 2147483647)]) (by decide) ⟨⟨_, rfl, by decide, by decide⟩, ⟨_, rfl, (tn_rng _).1, (tn_rng _).2⟩, ⟨_, rfl, (tn_rng _).1, (tn_rng _).2⟩, ⟨_, rfl, (tn_rng _).1, (tn_rng _).2⟩, ⟨_, rfl, (tn_rng _).1, (tn_rng _).2⟩, trivial⟩
set_option maxRecDepth 100000 in
set_option maxHeartbeats 4000000 in
theorem tl_x_about {n : Nat} {a1 : Int32} {a2 : Int32} {σ : tm_S} (h : th_IV n σ) : WM 90 61 [.ref 0, .int a1, .int a2] σ (th_Qd n) := by
  have ⟨h3, hn, hT, hS⟩ := h
  exact WM.deep (th_xabout (tc_z h3 hn (z := tz_fli) (by simp [tc_zp])) (tc_z h3 hn (z := tz_ifl) (by simp [tc_zp])) h) (by decide)
set_option maxRecDepth 100000 in
set_option maxHeartbeats 4000000 in
theorem tl_m_about {n : Nat} {a1 : Int32} {a2 : Int32} {σ : tm_S} (h : th_IV n σ) : WM 90 192 [.ref 11, .int a1, .int a2] σ (th_Qd n) := by
  exact th_pub h (ts := [(3, 11, 11), (1, (-2147483648), 2147483647), (1, (-2147483648), 2147483647)]) (by decide) ⟨⟨_, rfl, by decide, by decide⟩, ⟨_, rfl, (tn_rng _).1, (tn_rng _).2⟩, ⟨_, rfl, (tn_rng _).1, (tn_rng _).2⟩, trivial⟩
set_option maxRecDepth 100000 in
set_option maxHeartbeats 4000000 in
theorem tl_x_partners {n : Nat} {a1 : Int32} {a2 : Int32} {σ : tm_S} (h : th_IV n σ) : WM 90 66 [.ref 0, .int a1, .int a2] σ (th_Qd n) := by
  exact th_pub h (ts := [(3, 0, 0), (1, (-2147483648), 2147483647), (1, (-2147483648), 2147483647)]) (by decide) ⟨⟨_, rfl, by decide, by decide⟩, ⟨_, rfl, (tn_rng _).1, (tn_rng _).2⟩, ⟨_, rfl, (tn_rng _).1, (tn_rng _).2⟩, trivial⟩
set_option maxRecDepth 100000 in
set_option maxHeartbeats 4000000 in
theorem tl_m_partners {n : Nat} {a1 : Int32} {a2 : Int32} {σ : tm_S} (h : th_IV n σ) : WM 90 195 [.ref 11, .int a1, .int a2] σ (th_Qd n) := by
  exact th_pub h (ts := [(3, 11, 11), (1, (-2147483648), 2147483647), (1, (-2147483648), 2147483647)]) (by decide) ⟨⟨_, rfl, by decide, by decide⟩, ⟨_, rfl, (tn_rng _).1, (tn_rng _).2⟩, ⟨_, rfl, (tn_rng _).1, (tn_rng _).2⟩, trivial⟩
set_option maxRecDepth 100000 in
set_option maxHeartbeats 4000000 in
theorem tl_x_split {n : Nat} {a1 : Int32} {a2 : Int32} {σ : tm_S} (h : th_IV n σ) : WM 90 67 [.ref 0, .int a1, .int a2] σ (th_Qd n) := by
  have ⟨h3, hn, hT, hS⟩ := h
  refine WM.mono (WM.deep (th_xsplit hn h3 (tc_z h3 hn (z := tz_li) (by simp [tc_zp])) hT hS) (by decide)) ?_
  rintro q s ⟨hq, T1, u1⟩
  exact th_Qu h hq T1 u1 (by decide)
set_option maxRecDepth 100000 in
set_option maxHeartbeats 4000000 in
theorem tl_m_split {n : Nat} {a1 : Int32} {a2 : Int32} {σ : tm_S} (h : th_IV n σ) : WM 90 196 [.ref 11, .int a1, .int a2] σ (th_Qd n) := by
  have ⟨h3, hn, hT, hS⟩ := h
  refine WM.mono (WM.deep (th_msplit hn h3 (tc_z h3 hn (z := tz_nm) (by simp [tc_zp])) (tc_z h3 hn (z := tz_hrm) (by simp [tc_zp])) hT) (by decide)) ?_
  rintro q s ⟨hq, T1, u1⟩
  exact th_Qu h hq T1 u1 (by decide)
set_option maxRecDepth 100000 in
set_option maxHeartbeats 4000000 in
theorem tl_x_full {n : Nat}  {σ : tm_S} (h : th_IV n σ) : WM 90 68 [.ref 0] σ (th_Qd n) := by
  have ⟨h3, hn, hT, hS⟩ := h
  refine WM.mono (WM.deep (th_xfull hn h3 hT hS) (by decide)) ?_
  rintro q s ⟨hq, F⟩
  exact ⟨hq, h3, hn, F.1, th_SLf hT hS F⟩
set_option maxRecDepth 100000 in
set_option maxHeartbeats 4000000 in
theorem tl_m_full {n : Nat}  {σ : tm_S} (h : th_IV n σ) : WM 90 197 [.ref 11] σ (th_Qd n) := by
  exact th_pub h (ts := [(3, 11, 11)]) (by decide) ⟨⟨_, rfl, by decide, by decide⟩, trivial⟩
set_option maxRecDepth 100000 in
set_option maxHeartbeats 4000000 in
theorem tl_x_pick {n : Nat} {a1 : Int32} {a2 : Int32} {σ : tm_S} (h : th_IV n σ) : WM 90 73 [.ref 0, .int a1, .int a2] σ (th_Qd n) := by
  have ⟨h3, hn, hT, hS⟩ := h
  refine WM.mono (WM.deep (th_xpick hn h3 hT hS) (by decide)) ?_
  rintro q s ⟨hq, t, F, rfl | ⟨k, r, hr, rfl⟩⟩
  · exact ⟨hq, h3, hn, F.1, th_SLf hT hS F⟩
  · exact ⟨hq, h3, hn, ⟨F.1.1, F.1.2⟩, th_SLs (th_SLf hT hS F) hr⟩
set_option maxRecDepth 100000 in
set_option maxHeartbeats 4000000 in
theorem tl_m_pick {n : Nat} {a1 : Int32} {a2 : Int32} {σ : tm_S} (h : th_IV n σ) : WM 90 199 [.ref 11, .int a1, .int a2] σ (th_Qd n) := by
  exact th_pub h (ts := [(3, 11, 11), (1, (-2147483648), 2147483647), (1, (-2147483648), 2147483647)]) (by decide) ⟨⟨_, rfl, by decide, by decide⟩, ⟨_, rfl, (tn_rng _).1, (tn_rng _).2⟩, ⟨_, rfl, (tn_rng _).1, (tn_rng _).2⟩, trivial⟩
set_option maxRecDepth 100000 in
set_option maxHeartbeats 4000000 in
theorem tl_x_rank {n : Nat} {a1 : Int32} {σ : tm_S} (h : th_IV n σ) : WM 90 75 [.ref 0, .int a1] σ (th_Qd n) := by
  have ⟨h3, hn, hT, hS⟩ := h
  refine WM.mono (WM.deep (th_xrank hn h3 hT hS) (by decide)) ?_
  rintro q s ⟨hq, F⟩
  exact ⟨hq, h3, hn, F.1, th_SLf hT hS F⟩
set_option maxRecDepth 100000 in
set_option maxHeartbeats 4000000 in
theorem tl_m_rank {n : Nat} {a1 : Int32} {σ : tm_S} (h : th_IV n σ) : WM 90 200 [.ref 11, .int a1] σ (th_Qd n) := by
  exact th_pub h (ts := [(3, 11, 11), (1, (-2147483648), 2147483647)]) (by decide) ⟨⟨_, rfl, by decide, by decide⟩, ⟨_, rfl, (tn_rng _).1, (tn_rng _).2⟩, trivial⟩
set_option maxRecDepth 100000 in
set_option maxHeartbeats 4000000 in
theorem tl_x_fills {n : Nat} {a1 : Int32} {a2 : Int32} {σ : tm_S} (h : th_IV n σ) : WM 90 77 [.ref 0, .int a1, .int a2] σ (th_Qd n) := by
  exact th_pub h (ts := [(3, 0, 0), (1, (-2147483648), 2147483647), (1, (-2147483648), 2147483647)]) (by decide) ⟨⟨_, rfl, by decide, by decide⟩, ⟨_, rfl, (tn_rng _).1, (tn_rng _).2⟩, ⟨_, rfl, (tn_rng _).1, (tn_rng _).2⟩, trivial⟩
set_option maxRecDepth 100000 in
set_option maxHeartbeats 4000000 in
theorem tl_m_fills {n : Nat} {a1 : Int32} {a2 : Int32} {σ : tm_S} (h : th_IV n σ) : WM 90 201 [.ref 11, .int a1, .int a2] σ (th_Qd n) := by
  have ⟨h3, hn, hT, hS⟩ := h
  refine WM.mono (WM.deep (th_mfills hT) (by decide)) ?_
  rintro q s ⟨hq, F⟩
  exact th_Qu h hq F.1 F.2 (by decide)
set_option maxRecDepth 100000 in
set_option maxHeartbeats 4000000 in
theorem tl_x_fill {n : Nat} {a1 : Int32} {a2 : Int32} {a3 : Int32} {σ : tm_S} (h : th_IV n σ) : WM 90 82 [.ref 0, .int a1, .int a2, .int a3] σ (th_Qd n) := by
  exact th_pub h (ts := [(3, 0, 0), (1, (-2147483648), 2147483647), (1, (-2147483648), 2147483647), (1, (-2147483648), 2147483647)]) (by decide) ⟨⟨_, rfl, by decide, by decide⟩, ⟨_, rfl, (tn_rng _).1, (tn_rng _).2⟩, ⟨_, rfl, (tn_rng _).1, (tn_rng _).2⟩, ⟨_, rfl, (tn_rng _).1, (tn_rng _).2⟩, trivial⟩
set_option maxRecDepth 100000 in
set_option maxHeartbeats 4000000 in
theorem tl_m_fill {n : Nat} {a1 : Int32} {a2 : Int32} {a3 : Int32} {σ : tm_S} (h : th_IV n σ) : WM 90 207 [.ref 11, .int a1, .int a2, .int a3] σ (th_Qd n) := by
  have ⟨h3, hn, hT, hS⟩ := h
  refine WM.mono (WM.deep (th_mfill hT) (by decide)) ?_
  rintro q s ⟨hq, F⟩
  exact th_Qu h hq F.1 F.2 (by decide)
set_option maxRecDepth 100000 in
set_option maxHeartbeats 4000000 in
theorem tl_x_pure {n : Nat} {a1 : Int32} {a2 : Int32} {σ : tm_S} (h : th_IV n σ) : WM 90 86 [.ref 0, .int a1, .int a2] σ (th_Qd n) := by
  exact th_pub h (ts := [(3, 0, 0), (1, (-2147483648), 2147483647), (1, (-2147483648), 2147483647)]) (by decide) ⟨⟨_, rfl, by decide, by decide⟩, ⟨_, rfl, (tn_rng _).1, (tn_rng _).2⟩, ⟨_, rfl, (tn_rng _).1, (tn_rng _).2⟩, trivial⟩
set_option maxRecDepth 100000 in
set_option maxHeartbeats 4000000 in
theorem tl_m_pure {n : Nat} {a1 : Int32} {a2 : Int32} {σ : tm_S} (h : th_IV n σ) : WM 90 208 [.ref 11, .int a1, .int a2] σ (th_Qd n) := by
  have ⟨h3, hn, hT, hS⟩ := h
  refine WM.mono (WM.deep (th_mpure (tc_z h3 hn (z := tz_pdo) (by simp [tc_zp])) hT) (by decide)) ?_
  rintro q s ⟨hq, F⟩
  exact th_Qu h hq F.1 F.2 (by decide)
set_option maxRecDepth 100000 in
set_option maxHeartbeats 4000000 in
theorem tl_x_period {n : Nat} {a1 : Int32} {a2 : Int32} {σ : tm_S} (h : th_IV n σ) : WM 90 89 [.ref 0, .int a1, .int a2] σ (th_Qd n) := by
  exact th_pub h (ts := [(3, 0, 0), (1, (-2147483648), 2147483647), (1, (-2147483648), 2147483647)]) (by decide) ⟨⟨_, rfl, by decide, by decide⟩, ⟨_, rfl, (tn_rng _).1, (tn_rng _).2⟩, ⟨_, rfl, (tn_rng _).1, (tn_rng _).2⟩, trivial⟩
set_option maxRecDepth 100000 in
set_option maxHeartbeats 4000000 in
theorem tl_m_period {n : Nat} {a1 : Int32} {a2 : Int32} {σ : tm_S} (h : th_IV n σ) : WM 90 210 [.ref 11, .int a1, .int a2] σ (th_Qd n) := by
  exact th_pub h (ts := [(3, 11, 11), (1, (-2147483648), 2147483647), (1, (-2147483648), 2147483647)]) (by decide) ⟨⟨_, rfl, by decide, by decide⟩, ⟨_, rfl, (tn_rng _).1, (tn_rng _).2⟩, ⟨_, rfl, (tn_rng _).1, (tn_rng _).2⟩, trivial⟩
set_option maxRecDepth 100000 in
set_option maxHeartbeats 4000000 in
theorem tl_x_feed {n : Nat} {a1 : Int32} {a2 : Int32} {a3 : Int32} {a4 : Int32} {a5 : Int32} {σ : tm_S} (h : th_IV n σ) : WM 90 90 [.ref 0, .int a1, .int a2, .int a3, .int a4, .int a5] σ (th_Qd n) := by
  exact th_pub h (ts := [(3, 0, 0), (1, (-2147483648), 2147483647), (1, (-2147483648), 2147483647), (1, (-2147483648), 2147483647), (1, (-2147483648), 2147483647), (1, (-2147483648), 2147483647)]) (by decide) ⟨⟨_, rfl, by decide, by decide⟩, ⟨_, rfl, (tn_rng _).1, (tn_rng _).2⟩, ⟨_, rfl, (tn_rng _).1, (tn_rng _).2⟩, ⟨_, rfl, (tn_rng _).1, (tn_rng _).2⟩, ⟨_, rfl, (tn_rng _).1, (tn_rng _).2⟩, ⟨_, rfl, (tn_rng _).1, (tn_rng _).2⟩, trivial⟩
set_option maxRecDepth 100000 in
set_option maxHeartbeats 4000000 in
theorem tl_m_feed {n : Nat} {a1 : Int32} {a2 : Int32} {a3 : Int32} {a4 : Int32} {a5 : Int32} {σ : tm_S} (h : th_IV n σ) : WM 90 223 [.ref 11, .int a1, .int a2, .int a3, .int a4, .int a5] σ (th_Qd n) := by
  have ⟨h3, hn, hT, hS⟩ := h
  refine WM.mono (WM.deep (th_feed2 (d := 0) hT) (by decide)) ?_
  rintro q s ⟨hq, T1, u1⟩
  exact th_Qu h hq T1 u1 (by decide)
set_option maxRecDepth 100000 in
set_option maxHeartbeats 4000000 in
theorem tl_x_end {n : Nat} {a1 : Int32} {σ : tm_S} (h : th_IV n σ) : WM 90 95 [.ref 0, .int a1] σ (th_Qd n) := by
  exact th_pub h (ts := [(3, 0, 0), (1, (-2147483648), 2147483647)]) (by decide) ⟨⟨_, rfl, by decide, by decide⟩, ⟨_, rfl, (tn_rng _).1, (tn_rng _).2⟩, trivial⟩
set_option maxRecDepth 100000 in
set_option maxHeartbeats 4000000 in
theorem tl_m_end {n : Nat} {a1 : Int32} {σ : tm_S} (h : th_IV n σ) : WM 90 225 [.ref 11, .int a1] σ (th_Qd n) := by
  exact th_pub h (ts := [(3, 11, 11), (1, (-2147483648), 2147483647)]) (by decide) ⟨⟨_, rfl, by decide, by decide⟩, ⟨_, rfl, (tn_rng _).1, (tn_rng _).2⟩, trivial⟩
set_option maxRecDepth 100000 in
set_option maxHeartbeats 4000000 in
theorem tl_x_load {n : Nat}  {σ : tm_S} (h : th_IV n σ) : WM 90 97 [.ref 0] σ (th_Qd n) := by
  have ⟨h3, hn, hT, hS⟩ := h
  exact WM.deep (th_xload (tc_z h3 hn (z := tz_adv) (by simp [tc_zp])) h) (by decide)
set_option maxRecDepth 100000 in
set_option maxHeartbeats 4000000 in
theorem tl_m_load {n : Nat}  {σ : tm_S} (h : th_IV n σ) : WM 90 232 [.ref 11] σ (th_Qd n) := by
  exact th_pub h (ts := [(3, 11, 11)]) (by decide) ⟨⟨_, rfl, by decide, by decide⟩, trivial⟩
set_option maxRecDepth 100000 in
set_option maxHeartbeats 4000000 in
theorem tl_x_fault {n : Nat} {a1 : Int32} {σ : tm_S} (h : th_IV n σ) : WM 90 131 [.ref 0, .int a1] σ (th_Qd n) := by
  exact th_pub h (ts := [(3, 0, 0), (1, (-2147483648), 2147483647)]) (by decide) ⟨⟨_, rfl, by decide, by decide⟩, ⟨_, rfl, (tn_rng _).1, (tn_rng _).2⟩, trivial⟩
set_option maxRecDepth 100000 in
set_option maxHeartbeats 4000000 in
theorem tl_m_fault {n : Nat} {a1 : Int32} {σ : tm_S} (h : th_IV n σ) : WM 90 243 [.ref 11, .int a1] σ (th_Qd n) := by
  exact th_pub h (ts := [(3, 11, 11), (1, (-2147483648), 2147483647)]) (by decide) ⟨⟨_, rfl, by decide, by decide⟩, ⟨_, rfl, (tn_rng _).1, (tn_rng _).2⟩, trivial⟩
set_option maxRecDepth 100000 in
set_option maxHeartbeats 4000000 in
theorem tl_x_score {n : Nat} {a1 : Int32} {σ : tm_S} (h : th_IV n σ) : WM 90 134 [.ref 0, .int a1] σ (th_Qd n) := by
  exact th_pub h (ts := [(3, 0, 0), (1, (-2147483648), 2147483647)]) (by decide) ⟨⟨_, rfl, by decide, by decide⟩, ⟨_, rfl, (tn_rng _).1, (tn_rng _).2⟩, trivial⟩
set_option maxRecDepth 100000 in
set_option maxHeartbeats 4000000 in
theorem tl_m_score {n : Nat} {a1 : Int32} {σ : tm_S} (h : th_IV n σ) : WM 90 211 [.ref 11, .int a1] σ (th_Qd n) := by
  exact th_pub h (ts := [(3, 11, 11), (1, (-2147483648), 2147483647)]) (by decide) ⟨⟨_, rfl, by decide, by decide⟩, ⟨_, rfl, (tn_rng _).1, (tn_rng _).2⟩, trivial⟩
set_option maxRecDepth 100000 in
set_option maxHeartbeats 4000000 in
theorem tl_x_voice {n : Nat} {a1 : Int32} {a2 : Int32} {σ : tm_S} (h : th_IV n σ) : WM 90 140 [.ref 0, .int a1, .int a2] σ (th_Qd n) := by
  exact th_pub h (ts := [(3, 0, 0), (1, (-2147483648), 2147483647), (1, (-2147483648), 2147483647)]) (by decide) ⟨⟨_, rfl, by decide, by decide⟩, ⟨_, rfl, (tn_rng _).1, (tn_rng _).2⟩, ⟨_, rfl, (tn_rng _).1, (tn_rng _).2⟩, trivial⟩
set_option maxRecDepth 100000 in
set_option maxHeartbeats 4000000 in
theorem tl_m_voice {n : Nat} {a1 : Int32} {a2 : Int32} {σ : tm_S} (h : th_IV n σ) : WM 90 215 [.ref 11, .int a1, .int a2] σ (th_Qd n) := by
  exact th_pub h (ts := [(3, 11, 11), (1, (-2147483648), 2147483647), (1, (-2147483648), 2147483647)]) (by decide) ⟨⟨_, rfl, by decide, by decide⟩, ⟨_, rfl, (tn_rng _).1, (tn_rng _).2⟩, ⟨_, rfl, (tn_rng _).1, (tn_rng _).2⟩, trivial⟩
set_option maxRecDepth 100000 in
set_option maxHeartbeats 4000000 in
theorem tl_x_sings {n : Nat} {a1 : Int32} {a2 : Int32} {σ : tm_S} (h : th_IV n σ) : WM 90 146 [.ref 0, .int a1, .int a2] σ (th_Qd n) := by
  exact th_pub h (ts := [(3, 0, 0), (1, (-2147483648), 2147483647), (1, (-2147483648), 2147483647)]) (by decide) ⟨⟨_, rfl, by decide, by decide⟩, ⟨_, rfl, (tn_rng _).1, (tn_rng _).2⟩, ⟨_, rfl, (tn_rng _).1, (tn_rng _).2⟩, trivial⟩
set_option maxRecDepth 100000 in
set_option maxHeartbeats 4000000 in
theorem tl_m_sings {n : Nat} {a1 : Int32} {a2 : Int32} {σ : tm_S} (h : th_IV n σ) : WM 90 218 [.ref 11, .int a1, .int a2] σ (th_Qd n) := by
  exact th_pub h (ts := [(3, 11, 11), (1, (-2147483648), 2147483647), (1, (-2147483648), 2147483647)]) (by decide) ⟨⟨_, rfl, by decide, by decide⟩, ⟨_, rfl, (tn_rng _).1, (tn_rng _).2⟩, ⟨_, rfl, (tn_rng _).1, (tn_rng _).2⟩, trivial⟩
set_option maxRecDepth 100000 in
set_option maxHeartbeats 4000000 in
theorem tl_x_chord {n : Nat} {a1 : Int32} {σ : tm_S} (h : th_IV n σ) : WM 90 147 [.ref 0, .int a1] σ (th_Qd n) := by
  exact th_pub h (ts := [(3, 0, 0), (1, (-2147483648), 2147483647)]) (by decide) ⟨⟨_, rfl, by decide, by decide⟩, ⟨_, rfl, (tn_rng _).1, (tn_rng _).2⟩, trivial⟩
set_option maxRecDepth 100000 in
set_option maxHeartbeats 4000000 in
theorem tl_m_chord {n : Nat} {a1 : Int32} {σ : tm_S} (h : th_IV n σ) : WM 90 220 [.ref 11, .int a1] σ (th_Qd n) := by
  exact th_pub h (ts := [(3, 11, 11), (1, (-2147483648), 2147483647)]) (by decide) ⟨⟨_, rfl, by decide, by decide⟩, ⟨_, rfl, (tn_rng _).1, (tn_rng _).2⟩, trivial⟩
set_option maxRecDepth 100000 in
set_option maxHeartbeats 4000000 in
theorem tl_x_fit {n : Nat} {a1 : Int32} {a2 : Int32} {σ : tm_S} (h : th_IV n σ) : WM 90 148 [.ref 0, .int a1, .int a2] σ (th_Qd n) := by
  exact th_pub h (ts := [(3, 0, 0), (1, (-2147483648), 2147483647), (1, (-2147483648), 2147483647)]) (by decide) ⟨⟨_, rfl, by decide, by decide⟩, ⟨_, rfl, (tn_rng _).1, (tn_rng _).2⟩, ⟨_, rfl, (tn_rng _).1, (tn_rng _).2⟩, trivial⟩
set_option maxRecDepth 100000 in
set_option maxHeartbeats 4000000 in
theorem tl_m_fit {n : Nat} {a1 : Int32} {a2 : Int32} {σ : tm_S} (h : th_IV n σ) : WM 90 221 [.ref 11, .int a1, .int a2] σ (th_Qd n) := by
  exact th_pub h (ts := [(3, 11, 11), (1, (-2147483648), 2147483647), (1, (-2147483648), 2147483647)]) (by decide) ⟨⟨_, rfl, by decide, by decide⟩, ⟨_, rfl, (tn_rng _).1, (tn_rng _).2⟩, ⟨_, rfl, (tn_rng _).1, (tn_rng _).2⟩, trivial⟩
set_option maxRecDepth 100000 in
set_option maxHeartbeats 4000000 in
theorem tl_x_keep {n : Nat} {a1 : Int32} {a2 : Int32} {σ : tm_S} (h : th_IV n σ) : WM 90 150 [.ref 0, .int a1, .int a2] σ (th_Qd n) := by
  have ⟨h3, hn, hT, hS⟩ := h
  refine WM.mono (WM.deep (th_xkeep (d := 0) hn h3 hT hS) (by decide)) ?_
  rintro q s ⟨hq, rfl | ⟨k, r, hr, rfl⟩⟩
  · exact ⟨hq, h⟩
  · exact ⟨hq, h3, hn, ⟨hT.1, hT.2⟩, th_SLs hS hr⟩
set_option maxRecDepth 100000 in
set_option maxHeartbeats 4000000 in
theorem tl_m_keep {n : Nat} {a1 : Int32} {a2 : Int32} {σ : tm_S} (h : th_IV n σ) : WM 90 222 [.ref 11, .int a1, .int a2] σ (th_Qd n) := by
  exact th_pub h (ts := [(3, 11, 11), (1, (-2147483648), 2147483647), (1, (-2147483648), 2147483647)]) (by decide) ⟨⟨_, rfl, by decide, by decide⟩, ⟨_, rfl, (tn_rng _).1, (tn_rng _).2⟩, ⟨_, rfl, (tn_rng _).1, (tn_rng _).2⟩, trivial⟩
set_option maxRecDepth 100000 in
set_option maxHeartbeats 4000000 in
theorem tl_x_write {n : Nat}  {σ : tm_S} (h : th_IV n σ) : WM 90 151 [.ref 0] σ (th_Qd n) := by
  exact th_pub h (ts := [(3, 0, 0)]) (by decide) ⟨⟨_, rfl, by decide, by decide⟩, trivial⟩
set_option maxRecDepth 100000 in
set_option maxHeartbeats 4000000 in
theorem tl_m_write {n : Nat}  {σ : tm_S} (h : th_IV n σ) : WM 90 228 [.ref 11] σ (th_Qd n) := by
  have ⟨h3, hn, hT, hS⟩ := h
  refine WM.mono (WM.deep (th_write2 (d := 0) (by omega) (by omega) hT) (by decide)) ?_
  rintro q s ⟨hq, T1, u1⟩
  exact th_Qu h hq T1 u1 (by decide)
set_option maxRecDepth 100000 in
set_option maxHeartbeats 4000000 in
theorem tl_x_out {n : Nat} {a1 : Int32} {σ : tm_S} (h : th_IV n σ) : WM 90 157 [.ref 0, .int a1] σ (th_Qd n) := by
  exact th_pub h (ts := [(3, 0, 0), (1, (-2147483648), 2147483647)]) (by decide) ⟨⟨_, rfl, by decide, by decide⟩, ⟨_, rfl, (tn_rng _).1, (tn_rng _).2⟩, trivial⟩
set_option maxRecDepth 100000 in
set_option maxHeartbeats 4000000 in
theorem tl_m_out {n : Nat} {a1 : Int32} {σ : tm_S} (h : th_IV n σ) : WM 90 227 [.ref 11, .int a1] σ (th_Qd n) := by
  exact th_pub h (ts := [(3, 11, 11), (1, (-2147483648), 2147483647)]) (by decide) ⟨⟨_, rfl, by decide, by decide⟩, ⟨_, rfl, (tn_rng _).1, (tn_rng _).2⟩, trivial⟩
set_option maxRecDepth 100000 in
set_option maxHeartbeats 4000000 in
theorem tl_x_take {n : Nat}  {σ : tm_S} (h : th_IV n σ) : WM 90 158 [.ref 0] σ (th_Qd n) := by
  exact th_pub h (ts := [(3, 0, 0)]) (by decide) ⟨⟨_, rfl, by decide, by decide⟩, trivial⟩
set_option maxRecDepth 100000 in
set_option maxHeartbeats 4000000 in
theorem tl_m_take {n : Nat}  {σ : tm_S} (h : th_IV n σ) : WM 90 226 [.ref 11] σ (th_Qd n) := by
  exact th_pub h (ts := [(3, 11, 11)]) (by decide) ⟨⟨_, rfl, by decide, by decide⟩, trivial⟩
