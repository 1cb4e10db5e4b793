/-! ===== names: what every call keeps ===== -/
def th_WN : List (Nat × Nat) := [(14, 64), (15, 64), (16, 64), (17, 64)]
theorem tk_wn {w : List (Nat × Nat)} {a b : Nat} (hg : th_WN.all (fun q => !(tv_mem w q.1 q.2)) = true) (hm : (a, b) ∈ th_WN) : tv_mem w a b = false := by
  have h := List.all_eq_true.mp hg (a, b) hm
  simpa using h
theorem tk_keep {n : Nat} {σ s : tm_S} {w : List (Nat × Nat)} (h : tk_NM n σ) (hu : tv_un σ s w) (hg : th_WN.all (fun q => !(tv_mem w q.1 q.2)) = true) : tk_NM n s :=
  tk_NMu h (tv_un_a hu (k := 14) rfl (tk_wn hg (by decide))).1 (tv_un_a hu (k := 15) rfl (tk_wn hg (by decide))).1 (tv_un_a hu (k := 16) rfl (tk_wn hg (by decide))).1 (tv_un_a hu (k := 17) rfl (tk_wn hg (by decide))).1
def th_Q2 (n : Nat) (r : Option Value) (s : tm_S) : Prop := (∃ z : Int32, r = some (.int z)) ∧ th_I2 n s
theorem th_Qu2 {n : Nat} {σ s : tm_S} {w : List (Nat × Nat)} {r : Option Value} (h : th_I2 n σ) (hr : ∃ z : Int32, r = some (.int z)) (hT : tv_TY (tc_T (n : Int)) s) (hu : tv_un σ s w) (hg : th_gd.all (fun q => !(tv_mem w q.1 q.2)) = true) (hw : th_WN.all (fun q => !(tv_mem w q.1 q.2)) = true) : th_Q2 n r s := ⟨hr, ⟨h.1.1, h.1.2.1, hT, th_SLu h.1.2.2.1 h.1.2.2.2 hu hg⟩, tk_keep h.2 hu hw⟩
theorem th_Qd2 {n : Nat} {σ s : tm_S} {w : List (Nat × Nat)} {r : Option Value} (h : th_I2 n σ) (hr : th_Qd n r s) (hu : tv_un σ s w) (hw : th_WN.all (fun q => !(tv_mem w q.1 q.2)) = true) : th_Q2 n r s := ⟨hr.1, hr.2, tk_keep h.2 hu hw⟩
set_option maxRecDepth 100000 in
set_option maxHeartbeats 4000000 in
theorem tk_li1w {d n S : Nat} {σ s : tm_S} (hn : n ≤ 12) (h3 : 3 ≤ n) (hS : S < 2 ^ 12) (F : tk_F n σ s) (hM : tk_NM n s) : WM (d + 4) 14 [.ref 1, .int (nI 1), .int (nI S)] s (fun r t => (∃ z : Int32, r = some (.int z)) ∧ tk_F n σ t ∧ tk_NM n t) := by
  show WP (d + 4) 14 0 [(0, .ref 1), (1, .int (nI 1)), (2, .int (nI S))] [] s _
  refine wp_lda rfl tm_m0 ?_
  refine wp_ldi rfl tm_m1 ?_
  refine wq_calv [.int (nI 1)] rfl rfl rfl rfl rfl rfl rfl rfl rfl (tk_all1 hn h3 F hM) ?_
  rintro _ t ⟨rfl, Ft, Mt, Vt⟩
  refine wp_lda rfl tm_m0 ?_
  refine wq_getr (p := 13) rfl rfl (f := 1) rfl rfl ?_
  refine wp_ldi rfl tm_m1 ?_
  refine wp_aald rfl rfl (nI_in (by decide) (by decide)) ?_
  rw [show (nI 1).toNatClampNeg = 1 from rfl]
  refine wp_ldi rfl tm_m2 ?_
  refine wp_iald rfl rfl (nI_in (by omega) (by decide)) ?_
  exact wp_reti rfl (th_nI rfl) ⟨⟨_, rfl⟩, Ft, Mt⟩
set_option maxRecDepth 100000 in
set_option maxHeartbeats 4000000 in
theorem th_xsplit2 {n : Nat} {s dd : Int32} {σ : tm_S} (hn : n ≤ 12) (h3 : 3 ≤ n) (hT : tv_TY (tc_T (n : Int)) σ) (h : th_SL n σ) (hM : tk_NM n σ) : WM 40 67 [.ref 0, .int s, .int dd] σ (fun q σ' => (∃ z : Int32, q = some (.int z)) ∧ tv_TY (tc_T (n : Int)) σ' ∧ tv_un σ σ' [(14, 64), (15, 64), (16, 64), (17, 64)] ∧ tk_NM n σ') := by
  have hN0 := th_N0 hT hn
  have k53 : ∀ (e : Nat) (fi : Int32), 1 ≤ e → e ≤ n → n % e = 0 → 0 ≤ s.toInt → s.toInt < 6 → ¬ σ.2.1 12 s.toNatClampNeg = -1 → ∀ (m f : Nat) (t : tm_S), f % e = 0 → n ≤ f + m → f ≤ n → tv_TY (tc_T (n : Int)) t → tv_un σ t [(14, 64), (15, 64), (16, 64), (17, 64)] → tk_NM n t → WP 40 67 53 [(5, .int (nI f)), (4, .int fi), (3, .int (nI n)), (0, .ref 0), (1, .int s), (2, .int (nI e))] [] t (fun q σ' => (∃ z : Int32, q = some (.int z)) ∧ tv_TY (tc_T (n : Int)) σ' ∧ tv_un σ σ' [(14, 64), (15, 64), (16, 64), (17, 64)] ∧ tk_NM n σ') := by
    intro e fi he1 he2 he3 hs1 hs2 hs3 m
    induction m with
    | zero =>
      intro f t hf hm hfn Tt Ut Mt
      obtain rfl : f = n := by omega
      refine wp_ldi rfl tm_m0 ?_
      refine wp_ldi rfl tm_m2 ?_
      refine wq_icge rfl (fun h56 => ?_) (fun h56 => absurd (nI_le (Nat.le_refl _) (by omega)) h56)
      refine wq_con (x := 1) rfl (by decide) ?_
      exact wp_reti rfl (th_nI rfl) ⟨⟨_, rfl⟩, Tt, Ut, Mt⟩
    | succ m ih =>
      intro f t hf hm hfn Tt Ut Mt
      refine wp_ldi rfl tm_m0 ?_
      refine wp_ldi rfl tm_m2 ?_
      refine wq_icge rfl (fun h56 => ?_) (fun h56 => ?_)
      · refine wq_con (x := 1) rfl (by decide) ?_
        exact wp_reti rfl (th_nI rfl) ⟨⟨_, rfl⟩, Tt, Ut, Mt⟩
      · have hfl : f < n := by
          rcases Nat.lt_or_ge f n with g | g
          · exact g
          · exact absurd (nI_le g (by omega)) h56
        have hle := th_mulle he3 hf (by omega)
        have hd : th_dg 12 (σ.2.1 12 s.toNatClampNeg) := (h.1 _).resolve_left hs3
        have hol : th_or (σ.2.1 12 s.toNatClampNeg) f e < 2 ^ 12 := th_or_lt (fun i _ => hd (f + i))
        refine wp_lda rfl tm_m3 ?_
        refine wq_getr (p := 1) rfl rfl (f := 0) rfl rfl ?_
        refine wq_con (x := 1) rfl (by decide) ?_
        refine wp_lda rfl tm_m3 ?_
        refine wq_getr (p := 12) rfl rfl (f := 5) rfl rfl ?_
        refine wp_ldi rfl tm_m4 ?_
        refine wp_lald rfl rfl (tn_in hs1 hs2) ?_
        rw [(tv_un_a Ut (k := 12) rfl rfl).2]
        refine wp_ldi rfl tm_m0 ?_
        refine wp_ldi rfl tm_m5 ?_
        refine wq_cals [.long (σ.2.1 12 s.toNatClampNeg), .int (nI f), .int (nI e)] rfl rfl rfl rfl rfl rfl (th_nof (f := f) (k := e) (by omega)) ?_
        rintro _ _ ⟨rfl, rfl⟩
        refine wq_calv [.int 1, .int (nI (th_or (σ.2.1 12 s.toNatClampNeg) f e))] rfl rfl rfl rfl rfl rfl rfl rfl rfl (WM.deep (tk_li1w (d := 0) hn h3 hol ⟨Tt, Ut⟩ Mt) (by decide)) ?_
        rintro r76 s76 ⟨⟨z76, rfl⟩, F76, M76⟩
        refine wp_ldi rfl tm_m1 ?_
        refine wq_iceq rfl (fun h81 => ?_) (fun h81 => ?_)
        · refine wp_ldi rfl tm_m0 ?_
          refine wp_ldi rfl tm_m5 ?_
          refine wq_iadd rfl ?_
          rw [nI_add]
          refine wq_sti [(5, .int (nI (f + e))), (4, .int fi), (3, .int (nI n)), (0, .ref 0), (1, .int s), (2, .int (nI e))] rfl rfl ?_
          refine wp_go rfl ?_
          exact WP.less (ih (f + e) s76 (by rw [Nat.add_mod, hf, Nat.mod_self, Nat.zero_add, Nat.zero_mod]) (by omega) hle F76.1 F76.2 M76) (by simp)
        · refine wq_con (x := 0) rfl (by decide) ?_
          exact wp_reti rfl (th_nI rfl) ⟨⟨_, rfl⟩, F76.1, F76.2, M76⟩
  show WP 40 67 0 [(0, .ref 0), (1, .int s), (2, .int dd)] [] σ _
  refine wp_lda rfl tm_m0 ?_
  refine wq_getr (p := 1) rfl rfl (f := 0) rfl rfl ?_
  refine wq_calv [] rfl rfl rfl rfl rfl rfl rfl rfl rfl (th_size) ?_
  rintro _ _ ⟨rfl, rfl⟩
  rw [hN0]
  refine wq_sti [(3, .int (nI n)), (0, .ref 0), (1, .int s), (2, .int dd)] rfl rfl ?_
  refine wp_lda rfl tm_m1 ?_
  refine wp_ldi rfl tm_m2 ?_
  refine wq_calv [.int s] rfl rfl rfl rfl rfl rfl rfl rfl rfl (th_hasr) ?_
  rintro r10 _ ⟨hr10, rfl⟩
  obtain ⟨z10, rfl, hz10⟩ : ∃ z : Int32, r10 = some (.int z) ∧ (¬ z = 0 → 0 ≤ s.toInt ∧ s.toInt < 6 ∧ ¬ σ.2.1 12 s.toNatClampNeg = -1) := by
    rcases hr10 with ⟨rfl, g1⟩ | rfl
    · exact ⟨_, rfl, fun _ => g1⟩
    · exact ⟨_, rfl, fun e => absurd rfl e⟩
  refine wq_ifeq rfl (fun h13 => ?_) (fun h13 => ?_)
  · have g13 : (z10).toInt = 0 := congrArg Int32.toInt h13
    refine wq_con (x := (-1)) rfl (by decide) ?_
    exact wp_reti rfl (th_nI rfl) ⟨⟨_, rfl⟩, hT, tv_un_rf, hM⟩
  · refine wp_ldi rfl tm_m3 ?_
    refine wq_con (x := 1) rfl (by decide) ?_
    refine wq_iclt rfl (fun h18 => ?_) (fun h18 => ?_)
    · have g18 : (dd).toInt < 1 := tn_ltI.mp h18
      refine wq_con (x := (-1)) rfl (by decide) ?_
      exact wp_reti rfl (th_nI rfl) ⟨⟨_, rfl⟩, hT, tv_un_rf, hM⟩
    · have g18 : ¬ (dd).toInt < 1 := fun g => h18 (tn_ltI.mpr g)
      refine wp_ldi rfl tm_m0 ?_
      refine wp_ldi rfl tm_m3 ?_
      refine wp_rem rfl (fun e => by rw [e] at g18; exact absurd (show (0 : Int) < 1 by decide) g18) ?_
      refine wq_ifeq rfl (fun h24 => ?_) (fun h24 => ?_)
      · have g24 : ((nI n) - (nI n) / dd * dd).toInt = 0 := congrArg Int32.toInt h24
        obtain ⟨e, rfl, he1, he2, he3⟩ := th_rem hn h3 (by omega) h24
        have hz := hz10 h13
        have hd : th_dg 12 (σ.2.1 12 s.toNatClampNeg) := (h.1 _).resolve_left hz.2.2
        have hol : th_or (σ.2.1 12 s.toNatClampNeg) 0 e < 2 ^ 12 := th_or_lt (fun i _ => hd (0 + i))
        refine wp_lda rfl tm_m1 ?_
        refine wq_getr (p := 1) rfl rfl (f := 0) rfl rfl ?_
        refine wq_con (x := 1) rfl (by decide) ?_
        refine wp_lda rfl tm_m1 ?_
        refine wq_getr (p := 12) rfl rfl (f := 5) rfl rfl ?_
        refine wp_ldi rfl tm_m2 ?_
        refine wp_lald rfl rfl (tn_in hz.1 hz.2.1) ?_
        refine wq_con (x := nI 0) rfl (by decide) ?_
        refine wp_ldi rfl tm_m3 ?_
        refine wq_cals [.long (σ.2.1 12 s.toNatClampNeg), .int (nI 0), .int (nI e)] rfl rfl rfl rfl rfl rfl (th_nof (f := 0) (k := e) (by omega)) ?_
        rintro _ _ ⟨rfl, rfl⟩
        refine wq_calv [.int 1, .int (nI (th_or (σ.2.1 12 s.toNatClampNeg) 0 e))] rfl rfl rfl rfl rfl rfl rfl rfl rfl (WM.deep (tk_li1w (d := 0) hn h3 hol ⟨hT, tv_un_rf⟩ hM) (by decide)) ?_
        rintro r45 s45 ⟨⟨z45, rfl⟩, F45, M45⟩
        refine wq_sti [(4, .int z45), (3, .int (nI n)), (0, .ref 0), (1, .int s), (2, .int (nI e))] rfl rfl ?_
        refine wp_ldi rfl tm_m4 ?_
        refine wq_sti [(5, .int (nI e)), (4, .int z45), (3, .int (nI n)), (0, .ref 0), (1, .int s), (2, .int (nI e))] rfl rfl ?_
        exact WP.less (k53 e z45 he1 he2 he3 hz.1 hz.2.1 hz.2.2 n e s45 (Nat.mod_self e) (by omega) he2 F45.1 F45.2 M45) (by simp)
      · refine wq_con (x := (-1)) rfl (by decide) ?_
        exact wp_reti rfl (th_nI rfl) ⟨⟨_, rfl⟩, hT, tv_un_rf, hM⟩
def tc_pl2 : List (Nat × List tv_T) := [(5, [(3, 0, 0), (1, (-2147483648), 2147483647), (1, (-2147483648), 2147483647), (1, (-2147483648), 2147483647)]), (161, [(3, 11, 11), (1, (-2147483648), 2147483647), (1, (-2147483648), 2147483647), (1, (-2147483648), 2147483647)]), (167, [(3, 11, 11), (1, (-2147483648), 2147483647), (1, (-2147483648), 2147483647)]), (18, [(3, 0, 0), (1, (-2147483648), 2147483647), (1, (-2147483648), 2147483647), (1, (-2147483648), 2147483647)]), (170, [(3, 11, 11), (1, (-2147483648), 2147483647), (1, (-2147483648), 2147483647), (1, (-2147483648), 2147483647)]), (172, [(3, 11, 11), (1, (-2147483648), 2147483647), (1, (-2147483648), 2147483647)]), (175, [(3, 11, 11), (1, (-2147483648), 2147483647), (1, (-2147483648), 2147483647), (1, (-2147483648), 2147483647)]), (28, [(3, 0, 0), (1, (-2147483648), 2147483647), (1, (-2147483648), 2147483647)]), (176, [(3, 11, 11), (1, (-2147483648), 2147483647), (1, (-2147483648), 2147483647)]), (179, [(3, 11, 11), (1, (-2147483648), 2147483647)]), (33, [(3, 0, 0), (1, (-2147483648), 2147483647), (1, (-2147483648), 2147483647), (1, (-2147483648), 2147483647)]), (180, [(3, 11, 11), (1, (-2147483648), 2147483647), (1, (-2147483648), 2147483647), (1, (-2147483648), 2147483647)]), (34, [(3, 0, 0), (1, (-2147483648), 2147483647), (1, (-2147483648), 2147483647), (1, (-2147483648), 2147483647)]), (47, [(3, 0, 0), (1, (-2147483648), 2147483647), (1, (-2147483648), 2147483647)]), (185, [(3, 11, 11), (1, (-2147483648), 2147483647), (2, 0, 0)]), (57, [(3, 0, 0), (1, (-2147483648), 2147483647), (1, (-2147483648), 2147483647), (1, (-2147483648), 2147483647), (1, (-2147483648), 2147483647)]), (187, [(3, 11, 11), (1, (-2147483648), 2147483647), (1, (-2147483648), 2147483647), (1, (-2147483648), 2147483647), (1, (-2147483648), 2147483647)]), (192, [(3, 11, 11), (1, (-2147483648), 2147483647), (1, (-2147483648), 2147483647)]), (66, [(3, 0, 0), (1, (-2147483648), 2147483647), (1, (-2147483648), 2147483647)]), (195, [(3, 11, 11), (1, (-2147483648), 2147483647), (1, (-2147483648), 2147483647)]), (197, [(3, 11, 11)]), (199, [(3, 11, 11), (1, (-2147483648), 2147483647), (1, (-2147483648), 2147483647)]), (200, [(3, 11, 11), (1, (-2147483648), 2147483647)]), (77, [(3, 0, 0), (1, (-2147483648), 2147483647), (1, (-2147483648), 2147483647)]), (82, [(3, 0, 0), (1, (-2147483648), 2147483647), (1, (-2147483648), 2147483647), (1, (-2147483648), 2147483647)]), (86, [(3, 0, 0), (1, (-2147483648), 2147483647), (1, (-2147483648), 2147483647)]), (89, [(3, 0, 0), (1, (-2147483648), 2147483647), (1, (-2147483648), 2147483647)]), (210, [(3, 11, 11), (1, (-2147483648), 2147483647), (1, (-2147483648), 2147483647)]), (90, [(3, 0, 0), (1, (-2147483648), 2147483647), (1, (-2147483648), 2147483647), (1, (-2147483648), 2147483647), (1, (-2147483648), 2147483647), (1, (-2147483648), 2147483647)]), (95, [(3, 0, 0), (1, (-2147483648), 2147483647)]), (225, [(3, 11, 11), (1, (-2147483648), 2147483647)]), (232, [(3, 11, 11)]), (131, [(3, 0, 0), (1, (-2147483648), 2147483647)]), (243, [(3, 11, 11), (1, (-2147483648), 2147483647)]), (134, [(3, 0, 0), (1, (-2147483648), 2147483647)]), (211, [(3, 11, 11), (1, (-2147483648), 2147483647)]), (140, [(3, 0, 0), (1, (-2147483648), 2147483647), (1, (-2147483648), 2147483647)]), (215, [(3, 11, 11), (1, (-2147483648), 2147483647), (1, (-2147483648), 2147483647)]), (146, [(3, 0, 0), (1, (-2147483648), 2147483647), (1, (-2147483648), 2147483647)]), (218, [(3, 11, 11), (1, (-2147483648), 2147483647), (1, (-2147483648), 2147483647)]), (147, [(3, 0, 0), (1, (-2147483648), 2147483647)]), (220, [(3, 11, 11), (1, (-2147483648), 2147483647)]), (148, [(3, 0, 0), (1, (-2147483648), 2147483647), (1, (-2147483648), 2147483647)]), (221, [(3, 11, 11), (1, (-2147483648), 2147483647), (1, (-2147483648), 2147483647)]), (222, [(3, 11, 11), (1, (-2147483648), 2147483647), (1, (-2147483648), 2147483647)]), (151, [(3, 0, 0)]), (157, [(3, 0, 0), (1, (-2147483648), 2147483647)]), (227, [(3, 11, 11), (1, (-2147483648), 2147483647)]), (158, [(3, 0, 0)]), (226, [(3, 11, 11)])]
def tc_pok2 (q : Nat × List tv_T) (c : tv_C) : Bool := tc_pok q c && th_WN.all (fun g => !(tv_mem c.2.2.2.2.1 g.1 g.2))
def tc_pb2 (cx : Nat → List tv_C) : Bool := tc_pl2.all (fun q => (cx q.1).any (tc_pok2 q))
set_option maxRecDepth 100000 in
set_option maxHeartbeats 4000000 in
theorem tc_sn2 {n : Nat} (h3 : 3 ≤ n) (hn : n ≤ 12) : ∃ cx : Nat → List tv_C, (∀ a, ∀ c ∈ cx a, tv_Snd (tc_T (n : Int)) c) ∧ tc_pb2 cx = true := by
  rcases (by omega : n = 3 ∨ n = 4 ∨ n = 5 ∨ n = 6 ∨ n = 7 ∨ n = 8 ∨ n = 9 ∨ n = 10 ∨ n = 11 ∨ n = 12) with rfl | rfl | rfl | rfl | rfl | rfl | rfl | rfl | rfl | rfl
  · exact ⟨tc_x3, tc_s3, by decide +kernel⟩
  · exact ⟨tc_x4, tc_s4, by decide +kernel⟩
  · exact ⟨tc_x5, tc_s5, by decide +kernel⟩
  · exact ⟨tc_x6, tc_s6, by decide +kernel⟩
  · exact ⟨tc_x7, tc_s7, by decide +kernel⟩
  · exact ⟨tc_x8, tc_s8, by decide +kernel⟩
  · exact ⟨tc_x9, tc_s9, by decide +kernel⟩
  · exact ⟨tc_x10, tc_s10, by decide +kernel⟩
  · exact ⟨tc_x11, tc_s11, by decide +kernel⟩
  · exact ⟨tc_x12, tc_s12, by decide +kernel⟩
theorem th_pub2 {n : Nat} {σ : tm_S} (h : th_I2 n σ) {j : Nat} {ts : List tv_T} {As : List Value} (hm : (j, ts) ∈ tc_pl2) (hva : tv_va ts As) : WM 90 j As σ (th_Q2 n) := by
  have ⟨⟨h3, hn, hT, hS⟩, hM⟩ := h
  obtain ⟨cx, hs, hb⟩ := tc_sn2 h3 hn
  obtain ⟨c, hc, he⟩ := List.any_eq_true.mp (List.all_eq_true.mp hb (j, ts) hm)
  unfold tc_pok2 tc_pok at he
  simp only [Bool.and_eq_true, decide_eq_true_eq] at he
  obtain ⟨⟨⟨⟨⟨e1, e2⟩, e3⟩, e4⟩, e5⟩, e6⟩ := he
  have e1 := tv_beq e1
  subst e1 e2
  refine WM.mono (WM.deep (hs _ c hc As σ hva hT) (Nat.le_of_ble_eq_true e5)) ?_
  rintro r s ⟨T1, u1, q, hq, hr, -⟩
  have k1 := tv_beq (List.all_eq_true.mp e3 q hq)
  refine th_Qu2 h ?_ T1 u1 e4 e6
  rcases hr with ⟨e, -⟩ | ⟨x, rfl, hx⟩
  · rw [k1] at e
    cases e
  · obtain ⟨⟨k, lo, hi⟩, nr⟩ := q
    dsimp only at k1
    subst k1
    obtain ⟨z, rfl, -⟩ := hx
    exact ⟨z, rfl⟩
set_option maxRecDepth 100000 in
set_option maxHeartbeats 4000000 in
theorem tl2_x_image {n : Nat} {a1 : Int32} {a2 : Int32} {a3 : Int32} {σ : tm_S} (h : th_I2 n σ) : WM 90 5 [.ref 0, .int a1, .int a2, .int a3] σ (th_Q2 n) := by
  exact th_pub2 h (ts := [(3, 0, 0), (1, (-2147483648), 2147483647), (1, (-2147483648), 2147483647), (1, (-2147483648), 2147483647)]) (by decide) ⟨⟨_, rfl, by decide, by decide⟩, ⟨_, rfl, (tn_rng _).1, (tn_rng _).2⟩, ⟨_, rfl, (tn_rng _).1, (tn_rng _).2⟩, ⟨_, rfl, (tn_rng _).1, (tn_rng _).2⟩, trivial⟩
set_option maxRecDepth 100000 in
set_option maxHeartbeats 4000000 in
theorem tl2_m_image {n : Nat} {a1 : Int32} {a2 : Int32} {a3 : Int32} {σ : tm_S} (h : th_I2 n σ) : WM 90 161 [.ref 11, .int a1, .int a2, .int a3] σ (th_Q2 n) := by
  exact th_pub2 h (ts := [(3, 11, 11), (1, (-2147483648), 2147483647), (1, (-2147483648), 2147483647), (1, (-2147483648), 2147483647)]) (by decide) ⟨⟨_, rfl, by decide, by decide⟩, ⟨_, rfl, (tn_rng _).1, (tn_rng _).2⟩, ⟨_, rfl, (tn_rng _).1, (tn_rng _).2⟩, ⟨_, rfl, (tn_rng _).1, (tn_rng _).2⟩, trivial⟩
set_option maxRecDepth 100000 in
set_option maxHeartbeats 4000000 in
theorem tl2_x_name {n : Nat} {a1 : Int32} {a2 : Int32} {σ : tm_S} (h : th_I2 n σ) : WM 90 12 [.ref 0, .int a1, .int a2] σ (th_Q2 n) := by
  refine WM.mono (tf2_x_name h) ?_
  rintro r s ⟨z, hz, -, hI⟩
  exact ⟨⟨z, hz⟩, hI⟩
set_option maxRecDepth 100000 in
set_option maxHeartbeats 4000000 in
theorem tl2_m_name {n : Nat} {a1 : Int32} {a2 : Int32} {σ : tm_S} (h : th_I2 n σ) : WM 90 167 [.ref 11, .int a1, .int a2] σ (th_Q2 n) := by
  exact th_pub2 h (ts := [(3, 11, 11), (1, (-2147483648), 2147483647), (1, (-2147483648), 2147483647)]) (by decide) ⟨⟨_, rfl, by decide, by decide⟩, ⟨_, rfl, (tn_rng _).1, (tn_rng _).2⟩, ⟨_, rfl, (tn_rng _).1, (tn_rng _).2⟩, trivial⟩
set_option maxRecDepth 100000 in
set_option maxHeartbeats 4000000 in
theorem tl2_x_own {n : Nat} {a1 : Int32} {a2 : Int32} {a3 : Int32} {σ : tm_S} (h : th_I2 n σ) : WM 90 18 [.ref 0, .int a1, .int a2, .int a3] σ (th_Q2 n) := by
  exact th_pub2 h (ts := [(3, 0, 0), (1, (-2147483648), 2147483647), (1, (-2147483648), 2147483647), (1, (-2147483648), 2147483647)]) (by decide) ⟨⟨_, rfl, by decide, by decide⟩, ⟨_, rfl, (tn_rng _).1, (tn_rng _).2⟩, ⟨_, rfl, (tn_rng _).1, (tn_rng _).2⟩, ⟨_, rfl, (tn_rng _).1, (tn_rng _).2⟩, trivial⟩
set_option maxRecDepth 100000 in
set_option maxHeartbeats 4000000 in
theorem tl2_m_own {n : Nat} {a1 : Int32} {a2 : Int32} {a3 : Int32} {σ : tm_S} (h : th_I2 n σ) : WM 90 170 [.ref 11, .int a1, .int a2, .int a3] σ (th_Q2 n) := by
  exact th_pub2 h (ts := [(3, 11, 11), (1, (-2147483648), 2147483647), (1, (-2147483648), 2147483647), (1, (-2147483648), 2147483647)]) (by decide) ⟨⟨_, rfl, by decide, by decide⟩, ⟨_, rfl, (tn_rng _).1, (tn_rng _).2⟩, ⟨_, rfl, (tn_rng _).1, (tn_rng _).2⟩, ⟨_, rfl, (tn_rng _).1, (tn_rng _).2⟩, trivial⟩
set_option maxRecDepth 100000 in
set_option maxHeartbeats 4000000 in
theorem tl2_x_classes {n : Nat} {a1 : Int32} {a2 : Int32} {σ : tm_S} (h : th_I2 n σ) : WM 90 22 [.ref 0, .int a1, .int a2] σ (th_Q2 n) := by
  refine WM.mono (tf2_x_classes h) ?_
  rintro r s ⟨z, hz, -, hI⟩
  exact ⟨⟨z, hz⟩, hI⟩
set_option maxRecDepth 100000 in
set_option maxHeartbeats 4000000 in
theorem tl2_m_classes {n : Nat} {a1 : Int32} {a2 : Int32} {σ : tm_S} (h : th_I2 n σ) : WM 90 172 [.ref 11, .int a1, .int a2] σ (th_Q2 n) := by
  exact th_pub2 h (ts := [(3, 11, 11), (1, (-2147483648), 2147483647), (1, (-2147483648), 2147483647)]) (by decide) ⟨⟨_, rfl, by decide, by decide⟩, ⟨_, rfl, (tn_rng _).1, (tn_rng _).2⟩, ⟨_, rfl, (tn_rng _).1, (tn_rng _).2⟩, trivial⟩
set_option maxRecDepth 100000 in
set_option maxHeartbeats 4000000 in
theorem tl2_x_nameOf {n : Nat} {a1 : Int32} {a2 : Int32} {a3 : Int32} {σ : tm_S} (h : th_I2 n σ) : WM 90 26 [.ref 0, .int a1, .int a2, .int a3] σ (th_Q2 n) := by
  refine WM.mono (tf2_x_nameOf h) ?_
  rintro r s ⟨z, hz, -, hI⟩
  exact ⟨⟨z, hz⟩, hI⟩
set_option maxRecDepth 100000 in
set_option maxHeartbeats 4000000 in
theorem tl2_m_nameOf {n : Nat} {a1 : Int32} {a2 : Int32} {a3 : Int32} {σ : tm_S} (h : th_I2 n σ) : WM 90 175 [.ref 11, .int a1, .int a2, .int a3] σ (th_Q2 n) := by
  exact th_pub2 h (ts := [(3, 11, 11), (1, (-2147483648), 2147483647), (1, (-2147483648), 2147483647), (1, (-2147483648), 2147483647)]) (by decide) ⟨⟨_, rfl, by decide, by decide⟩, ⟨_, rfl, (tn_rng _).1, (tn_rng _).2⟩, ⟨_, rfl, (tn_rng _).1, (tn_rng _).2⟩, ⟨_, rfl, (tn_rng _).1, (tn_rng _).2⟩, trivial⟩
set_option maxRecDepth 100000 in
set_option maxHeartbeats 4000000 in
theorem tl2_x_interval {n : Nat} {a1 : Int32} {a2 : Int32} {σ : tm_S} (h : th_I2 n σ) : WM 90 28 [.ref 0, .int a1, .int a2] σ (th_Q2 n) := by
  exact th_pub2 h (ts := [(3, 0, 0), (1, (-2147483648), 2147483647), (1, (-2147483648), 2147483647)]) (by decide) ⟨⟨_, rfl, by decide, by decide⟩, ⟨_, rfl, (tn_rng _).1, (tn_rng _).2⟩, ⟨_, rfl, (tn_rng _).1, (tn_rng _).2⟩, trivial⟩
set_option maxRecDepth 100000 in
set_option maxHeartbeats 4000000 in
theorem tl2_m_interval {n : Nat} {a1 : Int32} {a2 : Int32} {σ : tm_S} (h : th_I2 n σ) : WM 90 176 [.ref 11, .int a1, .int a2] σ (th_Q2 n) := by
  exact th_pub2 h (ts := [(3, 11, 11), (1, (-2147483648), 2147483647), (1, (-2147483648), 2147483647)]) (by decide) ⟨⟨_, rfl, by decide, by decide⟩, ⟨_, rfl, (tn_rng _).1, (tn_rng _).2⟩, ⟨_, rfl, (tn_rng _).1, (tn_rng _).2⟩, trivial⟩
set_option maxRecDepth 100000 in
set_option maxHeartbeats 4000000 in
theorem tl2_x_twin {n : Nat} {a1 : Int32} {σ : tm_S} (h : th_I2 n σ) : WM 90 30 [.ref 0, .int a1] σ (th_Q2 n) := by
  refine WM.mono (tf2_x_twin h) ?_
  rintro r s ⟨z, hz, -, hI⟩
  exact ⟨⟨z, hz⟩, hI⟩
set_option maxRecDepth 100000 in
set_option maxHeartbeats 4000000 in
theorem tl2_m_twin {n : Nat} {a1 : Int32} {σ : tm_S} (h : th_I2 n σ) : WM 90 179 [.ref 11, .int a1] σ (th_Q2 n) := by
  exact th_pub2 h (ts := [(3, 11, 11), (1, (-2147483648), 2147483647)]) (by decide) ⟨⟨_, rfl, by decide, by decide⟩, ⟨_, rfl, (tn_rng _).1, (tn_rng _).2⟩, trivial⟩
set_option maxRecDepth 100000 in
set_option maxHeartbeats 4000000 in
theorem tl2_x_within {n : Nat} {a1 : Int32} {a2 : Int32} {a3 : Int32} {σ : tm_S} (h : th_I2 n σ) : WM 90 33 [.ref 0, .int a1, .int a2, .int a3] σ (th_Q2 n) := by
  exact th_pub2 h (ts := [(3, 0, 0), (1, (-2147483648), 2147483647), (1, (-2147483648), 2147483647), (1, (-2147483648), 2147483647)]) (by decide) ⟨⟨_, rfl, by decide, by decide⟩, ⟨_, rfl, (tn_rng _).1, (tn_rng _).2⟩, ⟨_, rfl, (tn_rng _).1, (tn_rng _).2⟩, ⟨_, rfl, (tn_rng _).1, (tn_rng _).2⟩, trivial⟩
set_option maxRecDepth 100000 in
set_option maxHeartbeats 4000000 in
theorem tl2_m_within {n : Nat} {a1 : Int32} {a2 : Int32} {a3 : Int32} {σ : tm_S} (h : th_I2 n σ) : WM 90 180 [.ref 11, .int a1, .int a2, .int a3] σ (th_Q2 n) := by
  exact th_pub2 h (ts := [(3, 11, 11), (1, (-2147483648), 2147483647), (1, (-2147483648), 2147483647), (1, (-2147483648), 2147483647)]) (by decide) ⟨⟨_, rfl, by decide, by decide⟩, ⟨_, rfl, (tn_rng _).1, (tn_rng _).2⟩, ⟨_, rfl, (tn_rng _).1, (tn_rng _).2⟩, ⟨_, rfl, (tn_rng _).1, (tn_rng _).2⟩, trivial⟩
set_option maxRecDepth 100000 in
set_option maxHeartbeats 4000000 in
theorem tl2_x_lead {n : Nat} {a1 : Int32} {a2 : Int32} {a3 : Int32} {σ : tm_S} (h : th_I2 n σ) : WM 90 34 [.ref 0, .int a1, .int a2, .int a3] σ (th_Q2 n) := by
  exact th_pub2 h (ts := [(3, 0, 0), (1, (-2147483648), 2147483647), (1, (-2147483648), 2147483647), (1, (-2147483648), 2147483647)]) (by decide) ⟨⟨_, rfl, by decide, by decide⟩, ⟨_, rfl, (tn_rng _).1, (tn_rng _).2⟩, ⟨_, rfl, (tn_rng _).1, (tn_rng _).2⟩, ⟨_, rfl, (tn_rng _).1, (tn_rng _).2⟩, trivial⟩
set_option maxRecDepth 100000 in
set_option maxHeartbeats 4000000 in
theorem tl2_m_lead {n : Nat} {a1 : Int32} {a2 : Int32} {a3 : Int32} {σ : tm_S} (h : th_I2 n σ) : WM 90 181 [.ref 11, .int a1, .int a2, .int a3] σ (th_Q2 n) := by
  have ⟨⟨h3, hn, hT, hS⟩, hM⟩ := h
  refine WM.mono (WM.deep (th_mlead hn h3 hT) (by decide)) ?_
  rintro q s ⟨hq, T1, u1⟩
  exact th_Qu2 h hq T1 u1 (by decide) (by decide)
set_option maxRecDepth 100000 in
set_option maxHeartbeats 4000000 in
theorem tl2_x_road {n : Nat} {a1 : Int32} {a2 : Int32} {σ : tm_S} (h : th_I2 n σ) : WM 90 47 [.ref 0, .int a1, .int a2] σ (th_Q2 n) := by
  exact th_pub2 h (ts := [(3, 0, 0), (1, (-2147483648), 2147483647), (1, (-2147483648), 2147483647)]) (by decide) ⟨⟨_, rfl, by decide, by decide⟩, ⟨_, rfl, (tn_rng _).1, (tn_rng _).2⟩, ⟨_, rfl, (tn_rng _).1, (tn_rng _).2⟩, trivial⟩
set_option maxRecDepth 100000 in
set_option maxHeartbeats 4000000 in
theorem tl2_m_road {n : Nat} {a1 : Int32} {a2 : Int32} {σ : tm_S} (h : th_I2 n σ) : WM 90 184 [.ref 11, .int a1, .int a2] σ (th_Q2 n) := by
  have ⟨⟨h3, hn, hT, hS⟩, hM⟩ := h
  refine WM.mono (WM.deep (th_mroad hn h3 (tc_z h3 hn (z := tz_nm) (by simp [tc_zp])) hT) (by decide)) ?_
  rintro q s ⟨hq, T1, u1⟩
  exact th_Qu2 h hq T1 u1 (by decide) (by decide)
set_option maxRecDepth 100000 in
set_option maxHeartbeats 4000000 in
theorem tl2_x_row {n : Nat} {a1 : Int32} {a2 : Int64} {σ : tm_S} (h : th_I2 n σ) : WM 90 52 [.ref 0, .int a1, .long a2] σ (th_Q2 n) := by
  have ⟨⟨h3, hn, hT, hS⟩, hM⟩ := h
  refine WM.mono (WM.deep (th_xrow (d := 0) hn hT) (by decide)) ?_
  rintro q s ⟨hq, rfl | ⟨k, r, hr, rfl⟩⟩
  · exact ⟨hq, h⟩
  · exact ⟨hq, ⟨h3, hn, ⟨hT.1, hT.2⟩, th_SLs hS hr⟩, tk_NMu hM rfl rfl rfl rfl⟩
set_option maxRecDepth 100000 in
set_option maxHeartbeats 4000000 in
theorem tl2_m_row {n : Nat} {a1 : Int32} {a2 : Int64} {σ : tm_S} (h : th_I2 n σ) : WM 90 185 [.ref 11, .int a1, .long a2] σ (th_Q2 n) := by
  exact th_pub2 h (ts := [(3, 11, 11), (1, (-2147483648), 2147483647), (2, 0, 0)]) (by decide) ⟨⟨_, rfl, by decide, by decide⟩, ⟨_, rfl, (tn_rng _).1, (tn_rng _).2⟩, ⟨_, rfl⟩, trivial⟩
set_option maxRecDepth 100000 in
set_option maxHeartbeats 4000000 in
theorem tl2_x_form {n : Nat} {a1 : Int32} {a2 : Int32} {a3 : Int32} {a4 : Int32} {σ : tm_S} (h : th_I2 n σ) : WM 90 57 [.ref 0, .int a1, .int a2, .int a3, .int a4] σ (th_Q2 n) := by
  exact th_pub2 h (ts := [(3, 0, 0), (1, (-2147483648), 2147483647), (1, (-2147483648), 2147483647), (1, (-2147483648), 2147483647), (1, (-2147483648), 2147483647)]) (by decide) ⟨⟨_, rfl, by decide, by decide⟩, ⟨_, rfl, (tn_rng _).1, (tn_rng _).2⟩, ⟨_, rfl, (tn_rng _).1, (tn_rng _).2⟩, ⟨_, rfl, (tn_rng _).1, (tn_rng _).2⟩, ⟨_, rfl, (tn_rng _).1, (tn_rng _).2⟩, trivial⟩
set_option maxRecDepth 100000 in
set_option maxHeartbeats 4000000 in
theorem tl2_m_form {n : Nat} {a1 : Int32} {a2 : Int32} {a3 : Int32} {a4 : Int32} {σ : tm_S} (h : th_I2 n σ) : WM 90 187 [.ref 11, .int a1, .int a2, .int a3, .int a4] σ (th_Q2 n) := by
  exact th_pub2 h (ts := [(3, 11, 11), (1, (-2147483648), 2147483647), (1, (-2147483648), 2147483647), (1, (-2147483648), 2147483647), (1, (-2147483648), 2147483647)]) (by decide) ⟨⟨_, rfl, by decide, by decide⟩, ⟨_, rfl, (tn_rng _).1, (tn_rng _).2⟩, ⟨_, rfl, (tn_rng _).1, (tn_rng _).2⟩, ⟨_, rfl, (tn_rng _).1, (tn_rng _).2⟩, ⟨_, rfl, (tn_rng _).1, (tn_rng _).2⟩, trivial⟩
set_option maxRecDepth 100000 in
set_option maxHeartbeats 4000000 in
theorem tl2_x_about {n : Nat} {a1 : Int32} {a2 : Int32} {σ : tm_S} (h : th_I2 n σ) : WM 90 61 [.ref 0, .int a1, .int a2] σ (th_Q2 n) := by
  have ⟨⟨h3, hn, hT, hS⟩, hM⟩ := h
  refine WM.mono (WM.deep (th_xabout2 (tc_z h3 hn (z := tz_fli) (by simp [tc_zp])) (tc_z h3 hn (z := tz_ifl) (by simp [tc_zp])) h.1) (by decide)) ?_
  rintro q s ⟨hq, u1⟩
  exact th_Qd2 h hq u1 (by decide)
set_option maxRecDepth 100000 in
set_option maxHeartbeats 4000000 in
theorem tl2_m_about {n : Nat} {a1 : Int32} {a2 : Int32} {σ : tm_S} (h : th_I2 n σ) : WM 90 192 [.ref 11, .int a1, .int a2] σ (th_Q2 n) := by
  exact th_pub2 h (ts := [(3, 11, 11), (1, (-2147483648), 2147483647), (1, (-2147483648), 2147483647)]) (by decide) ⟨⟨_, rfl, by decide, by decide⟩, ⟨_, rfl, (tn_rng _).1, (tn_rng _).2⟩, ⟨_, rfl, (tn_rng _).1, (tn_rng _).2⟩, trivial⟩
set_option maxRecDepth 100000 in
set_option maxHeartbeats 4000000 in
theorem tl2_x_partners {n : Nat} {a1 : Int32} {a2 : Int32} {σ : tm_S} (h : th_I2 n σ) : WM 90 66 [.ref 0, .int a1, .int a2] σ (th_Q2 n) := by
  exact th_pub2 h (ts := [(3, 0, 0), (1, (-2147483648), 2147483647), (1, (-2147483648), 2147483647)]) (by decide) ⟨⟨_, rfl, by decide, by decide⟩, ⟨_, rfl, (tn_rng _).1, (tn_rng _).2⟩, ⟨_, rfl, (tn_rng _).1, (tn_rng _).2⟩, trivial⟩
set_option maxRecDepth 100000 in
set_option maxHeartbeats 4000000 in
theorem tl2_m_partners {n : Nat} {a1 : Int32} {a2 : Int32} {σ : tm_S} (h : th_I2 n σ) : WM 90 195 [.ref 11, .int a1, .int a2] σ (th_Q2 n) := by
  exact th_pub2 h (ts := [(3, 11, 11), (1, (-2147483648), 2147483647), (1, (-2147483648), 2147483647)]) (by decide) ⟨⟨_, rfl, by decide, by decide⟩, ⟨_, rfl, (tn_rng _).1, (tn_rng _).2⟩, ⟨_, rfl, (tn_rng _).1, (tn_rng _).2⟩, trivial⟩
set_option maxRecDepth 100000 in
set_option maxHeartbeats 4000000 in
theorem tl2_x_split {n : Nat} {a1 : Int32} {a2 : Int32} {σ : tm_S} (h : th_I2 n σ) : WM 90 67 [.ref 0, .int a1, .int a2] σ (th_Q2 n) := by
  have ⟨⟨h3, hn, hT, hS⟩, hM⟩ := h
  refine WM.mono (WM.deep (th_xsplit2 hn h3 hT hS hM) (by decide)) ?_
  rintro q s ⟨hq, T1, u1, M1⟩
  exact ⟨hq, ⟨h3, hn, T1, th_SLu hT hS u1 (by decide)⟩, M1⟩
set_option maxRecDepth 100000 in
set_option maxHeartbeats 4000000 in
theorem tl2_m_split {n : Nat} {a1 : Int32} {a2 : Int32} {σ : tm_S} (h : th_I2 n σ) : WM 90 196 [.ref 11, .int a1, .int a2] σ (th_Q2 n) := by
  have ⟨⟨h3, hn, hT, hS⟩, hM⟩ := h
  refine WM.mono (WM.deep (th_msplit hn h3 (tc_z h3 hn (z := tz_nm) (by simp [tc_zp])) (tc_z h3 hn (z := tz_hrm) (by simp [tc_zp])) hT) (by decide)) ?_
  rintro q s ⟨hq, T1, u1⟩
  exact th_Qu2 h hq T1 u1 (by decide) (by decide)
set_option maxRecDepth 100000 in
set_option maxHeartbeats 4000000 in
theorem tl2_x_full {n : Nat}  {σ : tm_S} (h : th_I2 n σ) : WM 90 68 [.ref 0] σ (th_Q2 n) := by
  have ⟨⟨h3, hn, hT, hS⟩, hM⟩ := h
  refine WM.mono (WM.deep (th_xfull hn h3 hT hS) (by decide)) ?_
  rintro q s ⟨hq, F⟩
  exact ⟨hq, ⟨h3, hn, F.1, th_SLf hT hS F⟩, tk_keep hM F.2.1 (by decide)⟩
set_option maxRecDepth 100000 in
set_option maxHeartbeats 4000000 in
theorem tl2_m_full {n : Nat}  {σ : tm_S} (h : th_I2 n σ) : WM 90 197 [.ref 11] σ (th_Q2 n) := by
  exact th_pub2 h (ts := [(3, 11, 11)]) (by decide) ⟨⟨_, rfl, by decide, by decide⟩, trivial⟩
set_option maxRecDepth 100000 in
set_option maxHeartbeats 4000000 in
theorem tl2_x_pick {n : Nat} {a1 : Int32} {a2 : Int32} {σ : tm_S} (h : th_I2 n σ) : WM 90 73 [.ref 0, .int a1, .int a2] σ (th_Q2 n) := by
  have ⟨⟨h3, hn, hT, hS⟩, hM⟩ := h
  refine WM.mono (WM.deep (th_xpick hn h3 hT hS) (by decide)) ?_
  rintro q s ⟨hq, t, F, rfl | ⟨k, r, hr, rfl⟩⟩
  · exact ⟨hq, ⟨h3, hn, F.1, th_SLf hT hS F⟩, tk_keep hM F.2.1 (by decide)⟩
  · exact ⟨hq, ⟨h3, hn, ⟨F.1.1, F.1.2⟩, th_SLs (th_SLf hT hS F) hr⟩, tk_NMu (tk_keep hM F.2.1 (by decide)) rfl rfl rfl rfl⟩
set_option maxRecDepth 100000 in
set_option maxHeartbeats 4000000 in
theorem tl2_m_pick {n : Nat} {a1 : Int32} {a2 : Int32} {σ : tm_S} (h : th_I2 n σ) : WM 90 199 [.ref 11, .int a1, .int a2] σ (th_Q2 n) := by
  exact th_pub2 h (ts := [(3, 11, 11), (1, (-2147483648), 2147483647), (1, (-2147483648), 2147483647)]) (by decide) ⟨⟨_, rfl, by decide, by decide⟩, ⟨_, rfl, (tn_rng _).1, (tn_rng _).2⟩, ⟨_, rfl, (tn_rng _).1, (tn_rng _).2⟩, trivial⟩
set_option maxRecDepth 100000 in
set_option maxHeartbeats 4000000 in
theorem tl2_x_rank {n : Nat} {a1 : Int32} {σ : tm_S} (h : th_I2 n σ) : WM 90 75 [.ref 0, .int a1] σ (th_Q2 n) := by
  have ⟨⟨h3, hn, hT, hS⟩, hM⟩ := h
  refine WM.mono (WM.deep (th_xrank hn h3 hT hS) (by decide)) ?_
  rintro q s ⟨hq, F⟩
  exact ⟨hq, ⟨h3, hn, F.1, th_SLf hT hS F⟩, tk_keep hM F.2.1 (by decide)⟩
set_option maxRecDepth 100000 in
set_option maxHeartbeats 4000000 in
theorem tl2_m_rank {n : Nat} {a1 : Int32} {σ : tm_S} (h : th_I2 n σ) : WM 90 200 [.ref 11, .int a1] σ (th_Q2 n) := by
  exact th_pub2 h (ts := [(3, 11, 11), (1, (-2147483648), 2147483647)]) (by decide) ⟨⟨_, rfl, by decide, by decide⟩, ⟨_, rfl, (tn_rng _).1, (tn_rng _).2⟩, trivial⟩
set_option maxRecDepth 100000 in
set_option maxHeartbeats 4000000 in
theorem tl2_x_fills {n : Nat} {a1 : Int32} {a2 : Int32} {σ : tm_S} (h : th_I2 n σ) : WM 90 77 [.ref 0, .int a1, .int a2] σ (th_Q2 n) := by
  exact th_pub2 h (ts := [(3, 0, 0), (1, (-2147483648), 2147483647), (1, (-2147483648), 2147483647)]) (by decide) ⟨⟨_, rfl, by decide, by decide⟩, ⟨_, rfl, (tn_rng _).1, (tn_rng _).2⟩, ⟨_, rfl, (tn_rng _).1, (tn_rng _).2⟩, trivial⟩
set_option maxRecDepth 100000 in
set_option maxHeartbeats 4000000 in
theorem tl2_m_fills {n : Nat} {a1 : Int32} {a2 : Int32} {σ : tm_S} (h : th_I2 n σ) : WM 90 201 [.ref 11, .int a1, .int a2] σ (th_Q2 n) := by
  have ⟨⟨h3, hn, hT, hS⟩, hM⟩ := h
  refine WM.mono (WM.deep (th_mfills hT) (by decide)) ?_
  rintro q s ⟨hq, F⟩
  exact th_Qu2 h hq F.1 F.2 (by decide) (by decide)
set_option maxRecDepth 100000 in
set_option maxHeartbeats 4000000 in
theorem tl2_x_fill {n : Nat} {a1 : Int32} {a2 : Int32} {a3 : Int32} {σ : tm_S} (h : th_I2 n σ) : WM 90 82 [.ref 0, .int a1, .int a2, .int a3] σ (th_Q2 n) := by
  exact th_pub2 h (ts := [(3, 0, 0), (1, (-2147483648), 2147483647), (1, (-2147483648), 2147483647), (1, (-2147483648), 2147483647)]) (by decide) ⟨⟨_, rfl, by decide, by decide⟩, ⟨_, rfl, (tn_rng _).1, (tn_rng _).2⟩, ⟨_, rfl, (tn_rng _).1, (tn_rng _).2⟩, ⟨_, rfl, (tn_rng _).1, (tn_rng _).2⟩, trivial⟩
set_option maxRecDepth 100000 in
set_option maxHeartbeats 4000000 in
theorem tl2_m_fill {n : Nat} {a1 : Int32} {a2 : Int32} {a3 : Int32} {σ : tm_S} (h : th_I2 n σ) : WM 90 207 [.ref 11, .int a1, .int a2, .int a3] σ (th_Q2 n) := by
  have ⟨⟨h3, hn, hT, hS⟩, hM⟩ := h
  refine WM.mono (WM.deep (th_mfill hT) (by decide)) ?_
  rintro q s ⟨hq, F⟩
  exact th_Qu2 h hq F.1 F.2 (by decide) (by decide)
set_option maxRecDepth 100000 in
set_option maxHeartbeats 4000000 in
theorem tl2_x_pure {n : Nat} {a1 : Int32} {a2 : Int32} {σ : tm_S} (h : th_I2 n σ) : WM 90 86 [.ref 0, .int a1, .int a2] σ (th_Q2 n) := by
  exact th_pub2 h (ts := [(3, 0, 0), (1, (-2147483648), 2147483647), (1, (-2147483648), 2147483647)]) (by decide) ⟨⟨_, rfl, by decide, by decide⟩, ⟨_, rfl, (tn_rng _).1, (tn_rng _).2⟩, ⟨_, rfl, (tn_rng _).1, (tn_rng _).2⟩, trivial⟩
set_option maxRecDepth 100000 in
set_option maxHeartbeats 4000000 in
theorem tl2_m_pure {n : Nat} {a1 : Int32} {a2 : Int32} {σ : tm_S} (h : th_I2 n σ) : WM 90 208 [.ref 11, .int a1, .int a2] σ (th_Q2 n) := by
  have ⟨⟨h3, hn, hT, hS⟩, hM⟩ := h
  refine WM.mono (WM.deep (th_mpure (tc_z h3 hn (z := tz_pdo) (by simp [tc_zp])) hT) (by decide)) ?_
  rintro q s ⟨hq, F⟩
  exact th_Qu2 h hq F.1 F.2 (by decide) (by decide)
set_option maxRecDepth 100000 in
set_option maxHeartbeats 4000000 in
theorem tl2_x_period {n : Nat} {a1 : Int32} {a2 : Int32} {σ : tm_S} (h : th_I2 n σ) : WM 90 89 [.ref 0, .int a1, .int a2] σ (th_Q2 n) := by
  exact th_pub2 h (ts := [(3, 0, 0), (1, (-2147483648), 2147483647), (1, (-2147483648), 2147483647)]) (by decide) ⟨⟨_, rfl, by decide, by decide⟩, ⟨_, rfl, (tn_rng _).1, (tn_rng _).2⟩, ⟨_, rfl, (tn_rng _).1, (tn_rng _).2⟩, trivial⟩
set_option maxRecDepth 100000 in
set_option maxHeartbeats 4000000 in
theorem tl2_m_period {n : Nat} {a1 : Int32} {a2 : Int32} {σ : tm_S} (h : th_I2 n σ) : WM 90 210 [.ref 11, .int a1, .int a2] σ (th_Q2 n) := by
  exact th_pub2 h (ts := [(3, 11, 11), (1, (-2147483648), 2147483647), (1, (-2147483648), 2147483647)]) (by decide) ⟨⟨_, rfl, by decide, by decide⟩, ⟨_, rfl, (tn_rng _).1, (tn_rng _).2⟩, ⟨_, rfl, (tn_rng _).1, (tn_rng _).2⟩, trivial⟩
set_option maxRecDepth 100000 in
set_option maxHeartbeats 4000000 in
theorem tl2_x_feed {n : Nat} {a1 : Int32} {a2 : Int32} {a3 : Int32} {a4 : Int32} {a5 : Int32} {σ : tm_S} (h : th_I2 n σ) : WM 90 90 [.ref 0, .int a1, .int a2, .int a3, .int a4, .int a5] σ (th_Q2 n) := by
  exact th_pub2 h (ts := [(3, 0, 0), (1, (-2147483648), 2147483647), (1, (-2147483648), 2147483647), (1, (-2147483648), 2147483647), (1, (-2147483648), 2147483647), (1, (-2147483648), 2147483647)]) (by decide) ⟨⟨_, rfl, by decide, by decide⟩, ⟨_, rfl, (tn_rng _).1, (tn_rng _).2⟩, ⟨_, rfl, (tn_rng _).1, (tn_rng _).2⟩, ⟨_, rfl, (tn_rng _).1, (tn_rng _).2⟩, ⟨_, rfl, (tn_rng _).1, (tn_rng _).2⟩, ⟨_, rfl, (tn_rng _).1, (tn_rng _).2⟩, trivial⟩
set_option maxRecDepth 100000 in
set_option maxHeartbeats 4000000 in
theorem tl2_m_feed {n : Nat} {a1 : Int32} {a2 : Int32} {a3 : Int32} {a4 : Int32} {a5 : Int32} {σ : tm_S} (h : th_I2 n σ) : WM 90 223 [.ref 11, .int a1, .int a2, .int a3, .int a4, .int a5] σ (th_Q2 n) := by
  have ⟨⟨h3, hn, hT, hS⟩, hM⟩ := h
  refine WM.mono (WM.deep (th_feed2 (d := 0) hT) (by decide)) ?_
  rintro q s ⟨hq, T1, u1⟩
  exact th_Qu2 h hq T1 u1 (by decide) (by decide)
set_option maxRecDepth 100000 in
set_option maxHeartbeats 4000000 in
theorem tl2_x_end {n : Nat} {a1 : Int32} {σ : tm_S} (h : th_I2 n σ) : WM 90 95 [.ref 0, .int a1] σ (th_Q2 n) := by
  exact th_pub2 h (ts := [(3, 0, 0), (1, (-2147483648), 2147483647)]) (by decide) ⟨⟨_, rfl, by decide, by decide⟩, ⟨_, rfl, (tn_rng _).1, (tn_rng _).2⟩, trivial⟩
set_option maxRecDepth 100000 in
set_option maxHeartbeats 4000000 in
theorem tl2_m_end {n : Nat} {a1 : Int32} {σ : tm_S} (h : th_I2 n σ) : WM 90 225 [.ref 11, .int a1] σ (th_Q2 n) := by
  exact th_pub2 h (ts := [(3, 11, 11), (1, (-2147483648), 2147483647)]) (by decide) ⟨⟨_, rfl, by decide, by decide⟩, ⟨_, rfl, (tn_rng _).1, (tn_rng _).2⟩, trivial⟩
set_option maxRecDepth 100000 in
set_option maxHeartbeats 4000000 in
theorem tl2_x_load {n : Nat}  {σ : tm_S} (h : th_I2 n σ) : WM 90 97 [.ref 0] σ (th_Q2 n) := by
  have ⟨⟨h3, hn, hT, hS⟩, hM⟩ := h
  refine WM.mono (WM.deep (th_xload2 (tc_z h3 hn (z := tz_adv) (by simp [tc_zp])) h.1) (by decide)) ?_
  rintro q s ⟨hq, u1⟩
  exact th_Qd2 h hq u1 (by decide)
set_option maxRecDepth 100000 in
set_option maxHeartbeats 4000000 in
theorem tl2_m_load {n : Nat}  {σ : tm_S} (h : th_I2 n σ) : WM 90 232 [.ref 11] σ (th_Q2 n) := by
  exact th_pub2 h (ts := [(3, 11, 11)]) (by decide) ⟨⟨_, rfl, by decide, by decide⟩, trivial⟩
set_option maxRecDepth 100000 in
set_option maxHeartbeats 4000000 in
theorem tl2_x_fault {n : Nat} {a1 : Int32} {σ : tm_S} (h : th_I2 n σ) : WM 90 131 [.ref 0, .int a1] σ (th_Q2 n) := by
  exact th_pub2 h (ts := [(3, 0, 0), (1, (-2147483648), 2147483647)]) (by decide) ⟨⟨_, rfl, by decide, by decide⟩, ⟨_, rfl, (tn_rng _).1, (tn_rng _).2⟩, trivial⟩
set_option maxRecDepth 100000 in
set_option maxHeartbeats 4000000 in
theorem tl2_m_fault {n : Nat} {a1 : Int32} {σ : tm_S} (h : th_I2 n σ) : WM 90 243 [.ref 11, .int a1] σ (th_Q2 n) := by
  exact th_pub2 h (ts := [(3, 11, 11), (1, (-2147483648), 2147483647)]) (by decide) ⟨⟨_, rfl, by decide, by decide⟩, ⟨_, rfl, (tn_rng _).1, (tn_rng _).2⟩, trivial⟩
set_option maxRecDepth 100000 in
set_option maxHeartbeats 4000000 in
theorem tl2_x_score {n : Nat} {a1 : Int32} {σ : tm_S} (h : th_I2 n σ) : WM 90 134 [.ref 0, .int a1] σ (th_Q2 n) := by
  exact th_pub2 h (ts := [(3, 0, 0), (1, (-2147483648), 2147483647)]) (by decide) ⟨⟨_, rfl, by decide, by decide⟩, ⟨_, rfl, (tn_rng _).1, (tn_rng _).2⟩, trivial⟩
set_option maxRecDepth 100000 in
set_option maxHeartbeats 4000000 in
theorem tl2_m_score {n : Nat} {a1 : Int32} {σ : tm_S} (h : th_I2 n σ) : WM 90 211 [.ref 11, .int a1] σ (th_Q2 n) := by
  exact th_pub2 h (ts := [(3, 11, 11), (1, (-2147483648), 2147483647)]) (by decide) ⟨⟨_, rfl, by decide, by decide⟩, ⟨_, rfl, (tn_rng _).1, (tn_rng _).2⟩, trivial⟩
set_option maxRecDepth 100000 in
set_option maxHeartbeats 4000000 in
theorem tl2_x_voice {n : Nat} {a1 : Int32} {a2 : Int32} {σ : tm_S} (h : th_I2 n σ) : WM 90 140 [.ref 0, .int a1, .int a2] σ (th_Q2 n) := by
  exact th_pub2 h (ts := [(3, 0, 0), (1, (-2147483648), 2147483647), (1, (-2147483648), 2147483647)]) (by decide) ⟨⟨_, rfl, by decide, by decide⟩, ⟨_, rfl, (tn_rng _).1, (tn_rng _).2⟩, ⟨_, rfl, (tn_rng _).1, (tn_rng _).2⟩, trivial⟩
set_option maxRecDepth 100000 in
set_option maxHeartbeats 4000000 in
theorem tl2_m_voice {n : Nat} {a1 : Int32} {a2 : Int32} {σ : tm_S} (h : th_I2 n σ) : WM 90 215 [.ref 11, .int a1, .int a2] σ (th_Q2 n) := by
  exact th_pub2 h (ts := [(3, 11, 11), (1, (-2147483648), 2147483647), (1, (-2147483648), 2147483647)]) (by decide) ⟨⟨_, rfl, by decide, by decide⟩, ⟨_, rfl, (tn_rng _).1, (tn_rng _).2⟩, ⟨_, rfl, (tn_rng _).1, (tn_rng _).2⟩, trivial⟩
set_option maxRecDepth 100000 in
set_option maxHeartbeats 4000000 in
theorem tl2_x_sings {n : Nat} {a1 : Int32} {a2 : Int32} {σ : tm_S} (h : th_I2 n σ) : WM 90 146 [.ref 0, .int a1, .int a2] σ (th_Q2 n) := by
  exact th_pub2 h (ts := [(3, 0, 0), (1, (-2147483648), 2147483647), (1, (-2147483648), 2147483647)]) (by decide) ⟨⟨_, rfl, by decide, by decide⟩, ⟨_, rfl, (tn_rng _).1, (tn_rng _).2⟩, ⟨_, rfl, (tn_rng _).1, (tn_rng _).2⟩, trivial⟩
set_option maxRecDepth 100000 in
set_option maxHeartbeats 4000000 in
theorem tl2_m_sings {n : Nat} {a1 : Int32} {a2 : Int32} {σ : tm_S} (h : th_I2 n σ) : WM 90 218 [.ref 11, .int a1, .int a2] σ (th_Q2 n) := by
  exact th_pub2 h (ts := [(3, 11, 11), (1, (-2147483648), 2147483647), (1, (-2147483648), 2147483647)]) (by decide) ⟨⟨_, rfl, by decide, by decide⟩, ⟨_, rfl, (tn_rng _).1, (tn_rng _).2⟩, ⟨_, rfl, (tn_rng _).1, (tn_rng _).2⟩, trivial⟩
set_option maxRecDepth 100000 in
set_option maxHeartbeats 4000000 in
theorem tl2_x_chord {n : Nat} {a1 : Int32} {σ : tm_S} (h : th_I2 n σ) : WM 90 147 [.ref 0, .int a1] σ (th_Q2 n) := by
  exact th_pub2 h (ts := [(3, 0, 0), (1, (-2147483648), 2147483647)]) (by decide) ⟨⟨_, rfl, by decide, by decide⟩, ⟨_, rfl, (tn_rng _).1, (tn_rng _).2⟩, trivial⟩
set_option maxRecDepth 100000 in
set_option maxHeartbeats 4000000 in
theorem tl2_m_chord {n : Nat} {a1 : Int32} {σ : tm_S} (h : th_I2 n σ) : WM 90 220 [.ref 11, .int a1] σ (th_Q2 n) := by
  exact th_pub2 h (ts := [(3, 11, 11), (1, (-2147483648), 2147483647)]) (by decide) ⟨⟨_, rfl, by decide, by decide⟩, ⟨_, rfl, (tn_rng _).1, (tn_rng _).2⟩, trivial⟩
set_option maxRecDepth 100000 in
set_option maxHeartbeats 4000000 in
theorem tl2_x_fit {n : Nat} {a1 : Int32} {a2 : Int32} {σ : tm_S} (h : th_I2 n σ) : WM 90 148 [.ref 0, .int a1, .int a2] σ (th_Q2 n) := by
  exact th_pub2 h (ts := [(3, 0, 0), (1, (-2147483648), 2147483647), (1, (-2147483648), 2147483647)]) (by decide) ⟨⟨_, rfl, by decide, by decide⟩, ⟨_, rfl, (tn_rng _).1, (tn_rng _).2⟩, ⟨_, rfl, (tn_rng _).1, (tn_rng _).2⟩, trivial⟩
set_option maxRecDepth 100000 in
set_option maxHeartbeats 4000000 in
theorem tl2_m_fit {n : Nat} {a1 : Int32} {a2 : Int32} {σ : tm_S} (h : th_I2 n σ) : WM 90 221 [.ref 11, .int a1, .int a2] σ (th_Q2 n) := by
  exact th_pub2 h (ts := [(3, 11, 11), (1, (-2147483648), 2147483647), (1, (-2147483648), 2147483647)]) (by decide) ⟨⟨_, rfl, by decide, by decide⟩, ⟨_, rfl, (tn_rng _).1, (tn_rng _).2⟩, ⟨_, rfl, (tn_rng _).1, (tn_rng _).2⟩, trivial⟩
set_option maxRecDepth 100000 in
set_option maxHeartbeats 4000000 in
theorem tl2_x_keep {n : Nat} {a1 : Int32} {a2 : Int32} {σ : tm_S} (h : th_I2 n σ) : WM 90 150 [.ref 0, .int a1, .int a2] σ (th_Q2 n) := by
  have ⟨⟨h3, hn, hT, hS⟩, hM⟩ := h
  refine WM.mono (WM.deep (th_xkeep (d := 0) hn h3 hT hS) (by decide)) ?_
  rintro q s ⟨hq, rfl | ⟨k, r, hr, rfl⟩⟩
  · exact ⟨hq, h⟩
  · exact ⟨hq, ⟨h3, hn, ⟨hT.1, hT.2⟩, th_SLs hS hr⟩, tk_NMu hM rfl rfl rfl rfl⟩
set_option maxRecDepth 100000 in
set_option maxHeartbeats 4000000 in
theorem tl2_m_keep {n : Nat} {a1 : Int32} {a2 : Int32} {σ : tm_S} (h : th_I2 n σ) : WM 90 222 [.ref 11, .int a1, .int a2] σ (th_Q2 n) := by
  exact th_pub2 h (ts := [(3, 11, 11), (1, (-2147483648), 2147483647), (1, (-2147483648), 2147483647)]) (by decide) ⟨⟨_, rfl, by decide, by decide⟩, ⟨_, rfl, (tn_rng _).1, (tn_rng _).2⟩, ⟨_, rfl, (tn_rng _).1, (tn_rng _).2⟩, trivial⟩
set_option maxRecDepth 100000 in
set_option maxHeartbeats 4000000 in
theorem tl2_x_write {n : Nat}  {σ : tm_S} (h : th_I2 n σ) : WM 90 151 [.ref 0] σ (th_Q2 n) := by
  exact th_pub2 h (ts := [(3, 0, 0)]) (by decide) ⟨⟨_, rfl, by decide, by decide⟩, trivial⟩
set_option maxRecDepth 100000 in
set_option maxHeartbeats 4000000 in
theorem tl2_m_write {n : Nat}  {σ : tm_S} (h : th_I2 n σ) : WM 90 228 [.ref 11] σ (th_Q2 n) := by
  have ⟨⟨h3, hn, hT, hS⟩, hM⟩ := h
  refine WM.mono (WM.deep (th_write2 (d := 0) (by omega) (by omega) hT) (by decide)) ?_
  rintro q s ⟨hq, T1, u1⟩
  exact th_Qu2 h hq T1 u1 (by decide) (by decide)
set_option maxRecDepth 100000 in
set_option maxHeartbeats 4000000 in
theorem tl2_x_out {n : Nat} {a1 : Int32} {σ : tm_S} (h : th_I2 n σ) : WM 90 157 [.ref 0, .int a1] σ (th_Q2 n) := by
  exact th_pub2 h (ts := [(3, 0, 0), (1, (-2147483648), 2147483647)]) (by decide) ⟨⟨_, rfl, by decide, by decide⟩, ⟨_, rfl, (tn_rng _).1, (tn_rng _).2⟩, trivial⟩
set_option maxRecDepth 100000 in
set_option maxHeartbeats 4000000 in
theorem tl2_m_out {n : Nat} {a1 : Int32} {σ : tm_S} (h : th_I2 n σ) : WM 90 227 [.ref 11, .int a1] σ (th_Q2 n) := by
  exact th_pub2 h (ts := [(3, 11, 11), (1, (-2147483648), 2147483647)]) (by decide) ⟨⟨_, rfl, by decide, by decide⟩, ⟨_, rfl, (tn_rng _).1, (tn_rng _).2⟩, trivial⟩
set_option maxRecDepth 100000 in
set_option maxHeartbeats 4000000 in
theorem tl2_x_take {n : Nat}  {σ : tm_S} (h : th_I2 n σ) : WM 90 158 [.ref 0] σ (th_Q2 n) := by
  exact th_pub2 h (ts := [(3, 0, 0)]) (by decide) ⟨⟨_, rfl, by decide, by decide⟩, trivial⟩
set_option maxRecDepth 100000 in
set_option maxHeartbeats 4000000 in
theorem tl2_m_take {n : Nat}  {σ : tm_S} (h : th_I2 n σ) : WM 90 226 [.ref 11] σ (th_Q2 n) := by
  exact th_pub2 h (ts := [(3, 11, 11)]) (by decide) ⟨⟨_, rfl, by decide, by decide⟩, trivial⟩
set_option maxRecDepth 100000 in
set_option maxHeartbeats 4000000 in
theorem tk_resz {d : Nat} {n : Int32} {σ : tm_S} : WM d 3 [.ref 1, .int n] σ (fun r σ' => r = none ∧ th_row0 17 (tm_sI σ 1 0 n) σ' ∧ ∀ j : Nat, j < 3 → σ'.1 17 j = 0) := by
  have k7 : ∀ (m i : Nat) (σa : tm_S), i + m = 3 → th_row0 17 (tm_sI σ 1 0 n) σa → (∀ j : Nat, j < i → σa.1 17 j = 0) → WP d 3 7 [(2, .int (nI i)), (0, .ref 1), (1, .int n)] [] σa (fun r σ' => r = none ∧ th_row0 17 (tm_sI σ 1 0 n) σ' ∧ ∀ j : Nat, j < 3 → σ'.1 17 j = 0) := by
    intro m
    induction m with
    | zero =>
      intro i σa hi e1 e2
      obtain rfl : i = 3 := by omega
      refine wp_ldi rfl tm_m0 ?_
      refine wq_con (x := 3) rfl (by decide) ?_
      refine wq_icge rfl (fun h9 => ?_) (fun h9 => absurd (by decide) h9)
      exact wp_retv rfl ⟨rfl, e1, e2⟩
    | succ m ih =>
      intro i σa hi e1 e2
      refine wp_ldi rfl tm_m0 ?_
      refine wq_con (x := 3) rfl (by decide) ?_
      refine wq_icge rfl (fun h9 => absurd h9 (nI_ge (a := i) (b := 3) (by omega) (by decide))) (fun h9 => ?_)
      refine wp_lda rfl tm_m1 ?_
      refine wq_getr (p := 17) rfl rfl (f := 2) rfl rfl ?_
      refine wp_ldi rfl tm_m0 ?_
      refine wq_con (x := 0) rfl (by decide) ?_
      refine wp_zast rfl rfl (nI_in (by omega) (by decide)) (Or.inl rfl) ?_
      refine wq_inc (c := 1) [(2, .int ((nI i) + 1)), (0, .ref 1), (1, .int n)] rfl tm_m0 rfl rfl ?_
      refine wp_go rfl ?_
      rw [nI_1, nI_clamp (n := i) (by omega)]
      refine WP.less (ih (i + 1) _ (by omega) (th_row0_st e1) (fun k hk => ?_)) (by simp)
      rw [tm_gI]
      split
      · rfl
      · rename_i e
        exact e2 k (by have : ¬ k = i := fun e3 => e ⟨rfl, e3⟩; omega)
  show WP d 3 0 [(0, .ref 1), (1, .int n)] [] σ _
  refine wp_lda rfl tm_m0 ?_
  refine wp_ldi rfl tm_m1 ?_
  refine wq_puti rfl rfl (f := 0) rfl rfl ?_
  refine wq_con (x := nI 0) rfl (by decide) ?_
  refine wq_sti [(2, .int (nI 0)), (0, .ref 1), (1, .int n)] rfl rfl ?_
  exact WP.less (k7 3 0 _ (by omega) th_row0_rf (fun k hk => absurd hk (by omega))) (by simp)
set_option maxRecDepth 100000 in
set_option maxHeartbeats 4000000 in
theorem tk_xoct {d : Nat} {σ : tm_S} {n : Int32} (hc : σ.2.2 0 8 = 9 ∨ σ.2.2 0 8 = 10) : WM (d + 1) 1 [.ref 0, .int n] σ (fun r σ' => r = some (.int (th_oct n)) ∧ ((σ' = σ ∧ (3 ≤ n.toInt → n.toInt ≤ 12 → σ.1 1 0 = n)) ∨ (3 ≤ n.toInt ∧ n.toInt ≤ 12 ∧ th_octS (σ.2.2 0 8) n σ σ' ∧ (∀ j : Nat, j < 3 → σ'.1 17 j = 0)))) := by
  show WP (d + 1) 1 0 [(0, .ref 0), (1, .int n)] [] σ _
  have k49 : ∀ σ' : tm_S, 3 ≤ n.toInt → n.toInt ≤ 12 → ((σ' = σ ∧ (3 ≤ n.toInt → n.toInt ≤ 12 → σ.1 1 0 = n)) ∨ (3 ≤ n.toInt ∧ n.toInt ≤ 12 ∧ th_octS (σ.2.2 0 8) n σ σ' ∧ (∀ j : Nat, j < 3 → σ'.1 17 j = 0))) → WP (d + 1) 1 49 [(0, .ref 0), (1, .int n)] [] σ' (fun r σ' => r = some (.int (th_oct n)) ∧ ((σ' = σ ∧ (3 ≤ n.toInt → n.toInt ≤ 12 → σ.1 1 0 = n)) ∨ (3 ≤ n.toInt ∧ n.toInt ≤ 12 ∧ th_octS (σ.2.2 0 8) n σ σ' ∧ (∀ j : Nat, j < 3 → σ'.1 17 j = 0)))) := by
    intro σ' h1 h2 h3
    have e : th_oct n = 1 := if_pos ⟨h1, h2⟩
    refine wq_con (x := 1) rfl (by decide) ?_
    exact wp_reti rfl (th_n1 rfl) ⟨by rw [e], h3⟩
  have k42 : ∀ σ2 σ1 : tm_S, 3 ≤ n.toInt → n.toInt ≤ 12 → th_row0 17 (tm_sI σ 1 0 n) σ1 → (∀ j : Nat, j < 3 → σ1.1 17 j = 0) → σ2.1 = σ1.1 → th_lo (-1) σ1 σ2 → WP (d + 1) 1 42 [(0, .ref 0), (1, .int n)] [] σ2 (fun r σ' => r = some (.int (th_oct n)) ∧ ((σ' = σ ∧ (3 ≤ n.toInt → n.toInt ≤ 12 → σ.1 1 0 = n)) ∨ (3 ≤ n.toInt ∧ n.toInt ≤ 12 ∧ th_octS (σ.2.2 0 8) n σ σ' ∧ (∀ j : Nat, j < 3 → σ'.1 17 j = 0)))) := by
    intro σ2 σ1 h1 h2 g1 g0 g2 g3
    have hr : σ2.2.2 0 8 = σ.2.2 0 8 := by rw [g3.1, g1.2.2]; rfl
    rcases hc with hc | hc
    · refine wp_lda rfl tm_m0 ?_
      refine wq_getv rfl rfl (f := 8) rfl rfl ?_
      rw [show σ2.2.2 0 8 = 9 from hr.trans hc]
      refine wq_calv [] rfl rfl rfl rfl rfl rfl rfl rfl rfl th_clear9 ?_
      rintro _ _ ⟨rfl, rfl⟩
      exact k49 _ h1 h2 (Or.inr ⟨h1, h2, by rw [hc]; exact th_octS_mk (Or.inl rfl) g1 g2 g3, fun j hj => by rw [tm_gI, if_neg (fun e => absurd e.1 (by decide)), tm_gI, if_neg (fun e => absurd e.1 (by decide)), g2]; exact g0 j hj⟩)
    · refine wp_lda rfl tm_m0 ?_
      refine wq_getv rfl rfl (f := 8) rfl rfl ?_
      rw [show σ2.2.2 0 8 = 10 from hr.trans hc]
      refine wq_calv [] rfl rfl rfl rfl rfl rfl rfl rfl rfl th_clear10 ?_
      rintro _ _ ⟨rfl, rfl⟩
      exact k49 _ h1 h2 (Or.inr ⟨h1, h2, by rw [hc]; exact th_octS_mk (Or.inr rfl) g1 g2 g3, fun j hj => by rw [tm_gI, if_neg (fun e => absurd e.1 (by decide)), tm_gI, if_neg (fun e => absurd e.1 (by decide)), g2]; exact g0 j hj⟩)
  refine wp_ldi rfl tm_m1 ?_
  refine wq_con (x := 3) rfl (by decide) ?_
  refine wq_iclt rfl (fun h2 => ?_) (fun h2 => ?_)
  · have e11 : ¬ (3 ≤ n.toInt ∧ n.toInt ≤ 12) := fun e => by first | (have e2 : n.toInt < 3 := tn_ltI.mp h2; omega) | (have e8 : ¬ n.toInt ≤ 12 := fun g => h8 (tn_leI.mpr g); omega)
    refine wq_con (x := 0) rfl (by decide) ?_
    exact wp_reti rfl (th_n0 rfl) ⟨by rw [show th_oct n = 0 from if_neg e11], Or.inl ⟨rfl, fun x1 x2 => absurd ⟨x1, x2⟩ e11⟩⟩
  · have e2 : 3 ≤ n.toInt := by rw [tn_ltI] at h2; exact Int.not_lt.mp h2
    refine wp_ldi rfl tm_m1 ?_
    refine wq_con (x := 12) rfl (by decide) ?_
    refine wq_icle rfl (fun h8 => ?_) (fun h8 => ?_)
    · have e8 : n.toInt ≤ 12 := tn_leI.mp h8
      refine wp_ldi rfl tm_m1 ?_
      refine wp_lda rfl tm_m0 ?_
      refine wq_getr (p := 1) rfl rfl (f := 0) rfl rfl ?_
      refine wq_calv [] rfl rfl rfl rfl rfl rfl rfl rfl rfl (th_size) ?_
      rintro _ _ ⟨rfl, rfl⟩
      refine wq_iceq rfl (fun h21 => ?_) (fun h21 => ?_)
      · exact k49 _ e2 e8 (Or.inl ⟨rfl, fun _ _ => h21.symm⟩)
      · refine wp_lda rfl tm_m0 ?_
        refine wq_getr (p := 1) rfl rfl (f := 0) rfl rfl ?_
        refine wp_ldi rfl tm_m1 ?_
        refine wq_calv [.int n] rfl rfl rfl rfl rfl rfl rfl rfl rfl (tk_resz) ?_
        rintro _ σ1 ⟨rfl, g1, g0⟩
        refine wp_lda rfl tm_m0 ?_
        refine wq_getr (p := 12) rfl rfl (f := 5) rfl rfl ?_
        refine wq_lco (x := (-1)) rfl (by decide) ?_
        refine wq_cals [.ref 12, .long ((-1))] rfl rfl rfl rfl rfl rfl (th_fill) ?_
        rintro _ σ2 ⟨rfl, g2, g3⟩
        exact k42 _ _ e2 e8 g1 g0 g2 g3
    · have e11 : ¬ (3 ≤ n.toInt ∧ n.toInt ≤ 12) := fun e => by first | (have e2 : n.toInt < 3 := tn_ltI.mp h2; omega) | (have e8 : ¬ n.toInt ≤ 12 := fun g => h8 (tn_leI.mpr g); omega)
      refine wq_con (x := 0) rfl (by decide) ?_
      exact wp_reti rfl (th_n0 rfl) ⟨by rw [show th_oct n = 0 from if_neg e11], Or.inl ⟨rfl, fun x1 x2 => absurd ⟨x1, x2⟩ e11⟩⟩
theorem tk_both {n : Nat} {k : Int32} {σ σ1 σ2 : tm_S} (h : th_I2 n σ) (h1 : ((σ1 = σ ∧ (3 ≤ k.toInt → k.toInt ≤ 12 → σ.1 1 0 = k)) ∨ (3 ≤ k.toInt ∧ k.toInt ≤ 12 ∧ th_octS (σ.2.2 0 8) k σ σ1 ∧ (∀ j : Nat, j < 3 → σ1.1 17 j = 0)))) (h2 : σ2 = tm_sI σ1 11 0 0 ∧ ¬ (3 ≤ k.toInt ∧ k.toInt ≤ 12) ∨ (3 ≤ k.toInt ∧ k.toInt ≤ 12 ∧ ∃ τ, th_row0 50 (tm_sI (tm_sI σ1 11 0 0) 11 1 k) τ ∧ σ2 = tm_sI (tm_sI (tm_sI τ 11 23 0) 11 26 0) 11 11 0)) : ∃ m : Nat, th_I2 m σ2 := by
  have g1 : ((σ1 = σ ∧ (3 ≤ k.toInt → k.toInt ≤ 12 → σ.1 1 0 = k)) ∨ (3 ≤ k.toInt ∧ k.toInt ≤ 12 ∧ th_octS (σ.2.2 0 8) k σ σ1)) := by
    rcases h1 with q | ⟨q1, q2, q3, -⟩
    · exact Or.inl q
    · exact Or.inr ⟨q1, q2, q3⟩
  obtain ⟨m, hI⟩ := th_both h.1 g1 h2
  refine ⟨m, hI, ?_⟩
  have fr : ∀ a : Nat, ¬ a = 11 → ¬ a = 50 → σ2.1 a = σ1.1 a := fun a a1 a2 => by
    rcases h2 with ⟨rfl, -⟩ | ⟨-, -, τ, hτ, rfl⟩
    · exact (tm_sI_ar a1).1
    · rw [(tm_sI_ar a1).1, (tm_sI_ar a1).1, (tm_sI_ar a1).1]
      funext i
      rw [hτ.1 a i a2, (tm_sI_ar a1).1, (tm_sI_ar a1).1]
  rcases h1 with ⟨rfl, -⟩ | ⟨-, -, -, q⟩
  · have e1 := th_N0 hI.2.2.1 hI.2.1
    have e2 := th_N0 h.1.2.2.1 h.1.2.1
    rw [fr 1 (by decide) (by decide), e2] at e1
    have hn := h.1.2.1
    have hm := hI.2.1
    rw [← (nI_eq (by omega) (by omega)).mp e1]
    exact tk_NMu h.2 (fr 14 (by decide) (by decide)) (fr 15 (by decide) (by decide)) (fr 16 (by decide) (by decide)) (fr 17 (by decide) (by decide))
  · intro g hg hne
    rw [fr 17 (by decide) (by decide), q g (by omega)] at hne
    exact absurd rfl hne
