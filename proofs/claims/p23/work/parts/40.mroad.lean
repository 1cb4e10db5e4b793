/-! ===== split, road of the reference ===== -/
def tz_nm : tv_C := (169, [(3, 11, 11), (1, (-2147483648), 2147483647), (1, (-2147483648), 2147483647)], [], [((1, (-2147483648), 2147483647), [])], [], 39)
theorem tq_nm {T : tv_TT} {a1 : Int32} {a2 : Int32} {σ σ' : tm_S} {r : Option Value} (h : tv_Qc T tz_nm [.ref 11, .int a1, .int a2] σ r σ') : tv_TY T σ' ∧ tv_un σ σ' [] ∧ ((∃ z : Int32, r = some (.int z) ∧ (-2147483648) ≤ z.toInt ∧ z.toInt ≤ 2147483647)) := by
  obtain ⟨h1, h2, q, hq, hr, hn⟩ := h
  refine ⟨h1, h2, ?_⟩
  change q ∈ [((1, (-2147483648), 2147483647), [])] at hq
  simp only [List.mem_cons, List.not_mem_nil, or_false] at hq
  rcases hq with rfl
  rcases hr with ⟨e, -⟩ | ⟨x, rfl, hx⟩
  · cases e
  · obtain ⟨z, rfl, g1, g2⟩ := hx
    exact ⟨z, rfl, g1, g2⟩
def tz_hrm : tv_C := (188, [(3, 11, 11), (1, (-2147483648), 2147483647)], [], [((1, 0, 0), []), ((1, 1, 1), [(1, 0, 5)])], [], 39)
theorem tq_hrm {T : tv_TT} {a1 : Int32} {σ σ' : tm_S} {r : Option Value} (h : tv_Qc T tz_hrm [.ref 11, .int a1] σ r σ') : tv_TY T σ' ∧ tv_un σ σ' [] ∧ ((∃ z : Int32, r = some (.int z) ∧ 0 ≤ z.toInt ∧ z.toInt ≤ 0) ∨ (∃ z : Int32, r = some (.int z) ∧ 1 ≤ z.toInt ∧ z.toInt ≤ 1 ∧ 0 ≤ a1.toInt ∧ a1.toInt ≤ 5)) := by
  obtain ⟨h1, h2, q, hq, hr, hn⟩ := h
  refine ⟨h1, h2, ?_⟩
  change q ∈ [((1, 0, 0), []), ((1, 1, 1), [(1, 0, 5)])] at hq
  simp only [List.mem_cons, List.not_mem_nil, or_false] at hq
  rcases hq with rfl | rfl
  · rcases hr with ⟨e, -⟩ | ⟨x, rfl, hx⟩
    · cases e
    · obtain ⟨z, rfl, g1, g2⟩ := hx
      exact Or.inl (⟨z, rfl, g1, g2⟩)
  · obtain ⟨y0, e0, l0, u0⟩ := hn (1, 0, 5) tm_m0
    cases e0
    rcases hr with ⟨e, -⟩ | ⟨x, rfl, hx⟩
    · cases e
    · obtain ⟨z, rfl, g1, g2⟩ := hx
      exact Or.inr (⟨z, rfl, g1, g2, l0, u0⟩)
theorem th_p2 : ∀ n : Nat, n ≤ 12 → ((1 : Int32) <<< (nI n &&& 31)) = nI (2 ^ n) := by decide +kernel
theorem th_12 : ∀ q : Nat, q < 6 → (12 : Int32) * nI q = nI (12 * q) := by decide +kernel
set_option maxRecDepth 100000 in
set_option maxHeartbeats 4000000 in
theorem th_mset {d n : Nat} {s : Int32} {σ : tm_S} (hn : n ≤ 12) (hN1 : σ.1 11 1 = nI n) : WM d 162 [.ref 11, .int s] σ (fun q σ' => ((q = some (.int 1) ∧ ∃ a : Nat, s = nI a ∧ a < 2 ^ n) ∨ q = some (.int 0)) ∧ σ = σ') := by
  show WP d 162 0 [(0, .ref 11), (1, .int s)] [] σ _
  have hp : 2 ^ n ≤ 4096 := Nat.pow_le_pow_right (n := 2) (by decide) hn
  refine wp_ldi rfl tm_m1 ?_
  refine wq_iflt rfl (fun h1 => ?_) (fun h1 => ?_)
  · have g1 : (s).toInt < 0 := tn_ltI.mp h1
    refine wq_con (x := 0) rfl (by decide) ?_
    exact wp_reti rfl (th_n0 rfl) ⟨Or.inr rfl, rfl⟩
  · have g1 : ¬ (s).toInt < 0 := fun g => h1 (tn_ltI.mpr g)
    refine wp_ldi rfl tm_m1 ?_
    refine wq_con (x := 1) rfl (by decide) ?_
    refine wp_lda rfl tm_m0 ?_
    refine wq_geti rfl rfl (f := 1) rfl rfl (Or.inl rfl) ?_
    rw [hN1]
    refine wq_ishl rfl ?_
    rw [th_p2 n hn]
    refine wq_icge rfl (fun h11 => ?_) (fun h11 => ?_)
    · have g11 : (nI (2 ^ n)).toInt ≤ (s).toInt := tn_leI.mp h11
      refine wq_con (x := 0) rfl (by decide) ?_
      exact wp_reti rfl (th_n0 rfl) ⟨Or.inr rfl, rfl⟩
    · have g11 : ¬ (nI (2 ^ n)).toInt ≤ (s).toInt := fun g => h11 (tn_leI.mpr g)
      refine wq_con (x := 1) rfl (by decide) ?_
      refine wp_go rfl ?_
      refine wp_reti rfl (th_n1 rfl) ⟨Or.inl ⟨rfl, ?_⟩, rfl⟩
      obtain ⟨a, a1, rfl⟩ := nI_of (x := s) h1
      rw [nI_toInt a1, nI_toInt (by omega)] at g11
      exact ⟨a, rfl, by omega⟩
set_option maxRecDepth 100000 in
theorem th_pc0k : (List.range 4096).all (fun m => Nat.beq m 0 || Nat.blt 0 (th_pc m)) = true := by decide +kernel
theorem th_pc0 {m : Nat} (hm : m < 4096) (h : 0 < m) : 0 < th_pc m := by
  have h1 := List.all_eq_true.mp th_pc0k m (List.mem_range.mpr hm)
  rw [Bool.or_eq_true] at h1
  rcases h1 with e | e
  · have := tv_beq e
    omega
  · exact Nat.blt_eq.mp e
set_option maxRecDepth 100000 in
set_option maxHeartbeats 4000000 in
theorem th_onx {d m : Nat} {σ : tm_S} (hm : m < 4096) : WM d 174 [.ref 11, .int (nI m)] σ (th_is (.int (nI (th_pc m))) σ) := by
  have k4 : ∀ (c a k : Nat), a < 4096 → th_pc a = c → k + c = th_pc m → WP d 174 4 [(3, .int (nI a)), (2, .int (nI k)), (0, .ref 11), (1, .int (nI m))] [] σ (th_is (.int (nI (th_pc m))) σ) := by
    intro c
    induction c with
    | zero =>
      intro a k ha hc hk
      obtain rfl : k = th_pc m := by omega
      have a0 : a = 0 := by
        rcases Nat.eq_zero_or_pos a with e | e
        · exact e
        · have := th_pc0 ha e
          omega
      refine wp_ldi rfl tm_m0 ?_
      refine wq_ifeq rfl (fun h5 => ?_) (fun h5 => absurd (by rw [a0]; rfl) h5)
      refine wp_ldi rfl tm_m1 ?_
      exact wp_reti rfl (th_nI rfl) ⟨rfl, rfl⟩
    | succ c ih =>
      intro a k ha hc hk
      obtain ⟨x1, x2, -⟩ := th_tk1 ha (by omega)
      refine wp_ldi rfl tm_m0 ?_
      refine wq_ifeq rfl (fun h5 => absurd h5 (fun e => by rw [show a = 0 from (nI_eq (by omega) (by decide)).mp (e.trans nI_0.symm)] at hc; exact absurd hc (by show ¬ (0 : Nat) = _; omega))) (fun h5 => ?_)
      refine wp_ldi rfl tm_m1 ?_
      refine wq_con (x := 1) rfl (by decide) ?_
      refine wq_iadd rfl ?_
      rw [nI_1]
      refine wq_sti [(2, .int (nI (k + 1))), (3, .int (nI a)), (0, .ref 11), (1, .int (nI m))] rfl rfl ?_
      refine wp_ldi rfl tm_m1 ?_
      refine wp_ldi rfl tm_m1 ?_
      refine wq_con (x := 1) rfl (by decide) ?_
      refine wq_isub rfl ?_
      refine wq_iand rfl ?_
      rw [x2]
      refine wq_sti [(3, .int (nI (a &&& (a - 1)))), (2, .int (nI (k + 1))), (0, .ref 11), (1, .int (nI m))] rfl rfl ?_
      refine wp_go rfl ?_
      exact WP.less (ih (a &&& (a - 1)) (k + 1) (Nat.lt_of_le_of_lt Nat.and_le_left ha) (by omega) (by omega)) (by simp)
  show WP d 174 0 [(0, .ref 11), (1, .int (nI m))] [] σ _
  refine wq_con (x := nI 0) rfl (by decide) ?_
  refine wq_sti [(2, .int (nI 0)), (0, .ref 11), (1, .int (nI m))] rfl rfl ?_
  refine wp_ldi rfl tm_m2 ?_
  refine wq_sti [(3, .int (nI m)), (2, .int (nI 0)), (0, .ref 11), (1, .int (nI m))] rfl rfl ?_
  exact WP.less (k4 (th_pc m) m 0 hm rfl (by omega)) (by simp)
set_option maxRecDepth 100000 in
set_option maxHeartbeats 4000000 in
theorem th_msplit {n : Nat} {s dd : Int32} {σ : tm_S} (hn : n ≤ 12) (h3 : 3 ≤ n) (hnm : tv_Snd (tc_T (n : Int)) tz_nm) (hhrm : tv_Snd (tc_T (n : Int)) tz_hrm) (hT : tv_TY (tc_T (n : Int)) σ) : WM 40 196 [.ref 11, .int s, .int dd] σ (fun q σ' => (∃ z : Int32, q = some (.int z)) ∧ tv_TY (tc_T (n : Int)) σ' ∧ tv_un σ σ' [(11, 0)]) := by
  have k42 : ∀ e q : Nat, 1 ≤ e → e ≤ n → n % e = 0 → q < 6 → ∀ (m f : Nat) (fi : Int32) (t : tm_S), f % e = 0 → n ≤ f + m → f ≤ n → tv_TY (tc_T (n : Int)) t → tv_un σ t [(11, 0)] → WP 40 196 42 [(4, .int (nI f)), (3, .int fi), (0, .ref 11), (1, .int (nI q)), (2, .int (nI e))] [] t (fun q σ' => (∃ z : Int32, q = some (.int z)) ∧ tv_TY (tc_T (n : Int)) σ' ∧ tv_un σ σ' [(11, 0)]) := by
    intro e q he1 he2 he3 hq m
    induction m with
    | zero =>
      intro f fi t hf hm hfn Tt Ut
      have hN1 := th_N1 Tt hn
      obtain rfl : f = n := by omega
      refine wp_ldi rfl tm_m0 ?_
      refine wp_lda rfl tm_m2 ?_
      refine wq_geti rfl rfl (f := 1) rfl rfl (Or.inl rfl) ?_
      rw [hN1]
      refine wq_icge rfl (fun h48 => ?_) (fun h48 => absurd (nI_le (Nat.le_refl _) (by omega)) h48)
      refine wq_con (x := 1) rfl (by decide) ?_
      exact wp_reti rfl (th_nI rfl) ⟨⟨_, rfl⟩, Tt, Ut⟩
    | succ m ih =>
      intro f fi t hf hm hfn Tt Ut
      have hN1 := th_N1 Tt hn
      have k57 : f < n → ∀ (mm k : Nat) (se : Int32), k + mm = e → WP 40 196 57 [(6, .int (nI k)), (5, .int se), (4, .int (nI f)), (3, .int fi), (0, .ref 11), (1, .int (nI q)), (2, .int (nI e))] [] t (fun q σ' => (∃ z : Int32, q = some (.int z)) ∧ tv_TY (tc_T (n : Int)) σ' ∧ tv_un σ σ' [(11, 0)]) := by
        intro hfl mm
        have hle := th_mulle he3 hf hfl
        induction mm with
        | zero =>
          intro k se hk
          obtain rfl : k = e := by omega
          refine wp_ldi rfl tm_m0 ?_
          refine wp_ldi rfl tm_m6 ?_
          refine wq_icge rfl (fun h60 => ?_) (fun h60 => absurd (nI_le (Nat.le_refl _) (by omega)) h60)
          refine wp_lda rfl tm_m4 ?_
          refine wq_con (x := 1) rfl (by decide) ?_
          refine wp_ldi rfl tm_m1 ?_
          refine wq_calv [.int 1, .int se] rfl rfl rfl rfl rfl rfl rfl rfl rfl (WM.deep (hnm [.ref 11, .int 1, .int se] t ⟨⟨_, rfl, by decide, by decide⟩, ⟨_, rfl, (tn_rng _).1, (tn_rng _).2⟩, ⟨_, rfl, (tn_rng _).1, (tn_rng _).2⟩, trivial⟩ Tt) (by decide)) ?_
          rintro r95 s95 hq95
          obtain ⟨Ts95, us95, z95, rfl, -⟩ := tq_nm hq95
          refine wq_sti [(6, .int z95), (5, .int se), (4, .int (nI f)), (3, .int fi), (0, .ref 11), (1, .int (nI q)), (2, .int (nI k))] rfl rfl ?_
          refine wp_ldi rfl tm_m3 ?_
          refine wq_con (x := (-1)) rfl (by decide) ?_
          refine wq_icne rfl (fun h102 => ?_) (fun h102 => ?_)
          · refine wp_ldi rfl tm_m0 ?_
            refine wp_ldi rfl tm_m3 ?_
            refine wq_iceq rfl (fun h111 => ?_) (fun h111 => ?_)
            · refine wp_ldi rfl tm_m2 ?_
              refine wp_ldi rfl tm_m6 ?_
              refine wq_iadd rfl ?_
              rw [nI_add]
              refine wq_sti [(4, .int (nI (f + k))), (6, .int z95), (5, .int se), (3, .int fi), (0, .ref 11), (1, .int (nI q)), (2, .int (nI k))] rfl rfl ?_
              refine wp_go rfl ?_
              exact WP.less (ih (f + k) fi s95 (by rw [Nat.add_mod, hf, Nat.mod_self, Nat.zero_add, Nat.zero_mod]) (by omega) hle Ts95 (tv_un_tr Ut (tv_un_mo us95 (fun q hq => nomatch hq)))) (by simp)
            · refine wq_con (x := 0) rfl (by decide) ?_
              exact wp_reti rfl (th_nI rfl) ⟨⟨_, rfl⟩, Ts95, (tv_un_tr Ut (tv_un_mo us95 (fun q hq => nomatch hq)))⟩
          · refine wp_ldi rfl tm_m0 ?_
            refine wq_sti [(3, .int z95), (6, .int z95), (5, .int se), (4, .int (nI f)), (0, .ref 11), (1, .int (nI q)), (2, .int (nI k))] rfl rfl ?_
            refine wp_ldi rfl tm_m1 ?_
            refine wp_ldi rfl tm_m0 ?_
            refine wq_iceq rfl (fun h111 => ?_) (fun h111 => ?_)
            · refine wp_ldi rfl tm_m3 ?_
              refine wp_ldi rfl tm_m6 ?_
              refine wq_iadd rfl ?_
              rw [nI_add]
              refine wq_sti [(4, .int (nI (f + k))), (3, .int z95), (6, .int z95), (5, .int se), (0, .ref 11), (1, .int (nI q)), (2, .int (nI k))] rfl rfl ?_
              refine wp_go rfl ?_
              exact WP.less (ih (f + k) z95 s95 (by rw [Nat.add_mod, hf, Nat.mod_self, Nat.zero_add, Nat.zero_mod]) (by omega) hle Ts95 (tv_un_tr Ut (tv_un_mo us95 (fun q hq => nomatch hq)))) (by simp)
            · refine wq_con (x := 0) rfl (by decide) ?_
              exact wp_reti rfl (th_nI rfl) ⟨⟨_, rfl⟩, Ts95, (tv_un_tr Ut (tv_un_mo us95 (fun q hq => nomatch hq)))⟩
        | succ mm ihk =>
          intro k se hk
          refine wp_ldi rfl tm_m0 ?_
          refine wp_ldi rfl tm_m6 ?_
          refine wq_icge rfl (fun h60 => absurd h60 (nI_ge (by omega) (by omega))) (fun h60 => ?_)
          refine wp_ldi rfl tm_m1 ?_
          refine wq_con (x := 1) rfl (by decide) ?_
          refine wp_lda rfl tm_m4 ?_
          refine wq_getr (p := 51) rfl rfl (f := 10) rfl rfl ?_
          refine wq_con (x := 12) rfl (by decide) ?_
          refine wp_ldi rfl tm_m5 ?_
          refine wq_imul rfl ?_
          rw [th_12 q hq]
          refine wp_ldi rfl tm_m2 ?_
          refine wq_iadd rfl ?_
          rw [nI_add]
          refine wp_ldi rfl tm_m0 ?_
          refine wq_iadd rfl ?_
          rw [nI_add]
          refine wp_iald rfl rfl (nI_in (by omega) (by decide)) ?_
          refine wq_ishl rfl ?_
          refine wq_ior rfl ?_
          refine wq_sti [(5, .int (se ||| (1 <<< ((t.1 51 (nI (12 * q + f + k)).toNatClampNeg) &&& 31)))), (6, .int (nI k)), (4, .int (nI f)), (3, .int fi), (0, .ref 11), (1, .int (nI q)), (2, .int (nI e))] rfl rfl ?_
          refine wq_inc (c := 1) [(6, .int ((nI k) + 1)), (5, .int (se ||| (1 <<< ((t.1 51 (nI (12 * q + f + k)).toNatClampNeg) &&& 31)))), (4, .int (nI f)), (3, .int fi), (0, .ref 11), (1, .int (nI q)), (2, .int (nI e))] rfl tm_m1 rfl rfl ?_
          refine wp_go rfl ?_
          rw [nI_1]
          exact WP.less (ihk (k + 1) (se ||| (1 <<< ((t.1 51 (nI (12 * q + f + k)).toNatClampNeg) &&& 31))) (by omega)) (by simp)
      refine wp_ldi rfl tm_m0 ?_
      refine wp_lda rfl tm_m2 ?_
      refine wq_geti rfl rfl (f := 1) rfl rfl (Or.inl rfl) ?_
      rw [hN1]
      refine wq_icge rfl (fun h48 => ?_) (fun h48 => ?_)
      · refine wq_con (x := 1) rfl (by decide) ?_
        exact wp_reti rfl (th_nI rfl) ⟨⟨_, rfl⟩, Tt, Ut⟩
      · refine wq_con (x := 0) rfl (by decide) ?_
        refine wq_sti [(5, .int 0), (4, .int (nI f)), (3, .int fi), (0, .ref 11), (1, .int (nI q)), (2, .int (nI e))] rfl rfl ?_
        refine wq_con (x := nI 0) rfl (by decide) ?_
        refine wq_sti [(6, .int (nI 0)), (5, .int 0), (4, .int (nI f)), (3, .int fi), (0, .ref 11), (1, .int (nI q)), (2, .int (nI e))] rfl rfl ?_
        refine WP.less (k57 ?_ e 0 0 (by omega)) (by simp)
        rcases Nat.lt_or_ge f n with g | g
        · exact g
        · exact absurd (nI_le g (by omega)) h48
  show WP 40 196 0 [(0, .ref 11), (1, .int s), (2, .int dd)] [] σ _
  have T0 : tv_TY (tc_T (n : Int)) (tm_sI σ 11 0 0) := tv_TY_sI hT tv_z0 tv_z1
  have U0 : tv_un σ (tm_sI σ 11 0 0) [(11, 0)] := tv_un_fI rfl
  refine wp_lda rfl tm_m0 ?_
  refine wq_con (x := 0) rfl (by decide) ?_
  refine wq_puti rfl rfl (f := 0) rfl rfl ?_
  refine wp_lda rfl tm_m0 ?_
  refine wp_ldi rfl tm_m1 ?_
  refine wq_calv [.int s] rfl rfl rfl rfl rfl rfl rfl rfl rfl (WM.deep (hhrm [.ref 11, .int s] (tm_sI σ 11 0 0) ⟨⟨_, rfl, by decide, by decide⟩, ⟨_, rfl, (tn_rng _).1, (tn_rng _).2⟩, trivial⟩ T0) (by decide)) ?_
  rintro r7 s7 hq7
  obtain ⟨Ts7, us7, hz⟩ := tq_hrm hq7
  have Us7 := tv_un_tr U0 (tv_un_mo us7 (w' := [(11, 0)]) (fun q hq => nomatch hq))
  have hN1 := th_N1 Ts7 hn
  obtain ⟨z7, rfl, hz7⟩ : ∃ z : Int32, r7 = some (.int z) ∧ (¬ z = 0 → 0 ≤ s.toInt ∧ s.toInt ≤ 5) := by
    rcases hz with ⟨z, rfl, g1, g2⟩ | ⟨z, rfl, g1, g2, g3, g4⟩
    · exact ⟨z, rfl, fun e => absurd (Int32.toInt_inj.mp (by show z.toInt = 0; omega)) e⟩
    · exact ⟨z, rfl, fun e => ⟨g3, g4⟩⟩
  refine wq_ifeq rfl (fun h10 => ?_) (fun h10 => ?_)
  · have g10 : (z7).toInt = 0 := congrArg Int32.toInt h10
    refine wq_con (x := (-1)) rfl (by decide) ?_
    exact wp_reti rfl (th_nI rfl) ⟨⟨_, rfl⟩, Ts7, Us7⟩
  · refine wp_ldi rfl tm_m2 ?_
    refine wq_con (x := 1) rfl (by decide) ?_
    refine wq_iclt rfl (fun h15 => ?_) (fun h15 => ?_)
    · have g15 : (dd).toInt < 1 := tn_ltI.mp h15
      refine wq_con (x := (-1)) rfl (by decide) ?_
      exact wp_reti rfl (th_nI rfl) ⟨⟨_, rfl⟩, Ts7, Us7⟩
    · have g15 : ¬ (dd).toInt < 1 := fun g => h15 (tn_ltI.mpr g)
      refine wp_ldi rfl tm_m2 ?_
      refine wp_lda rfl tm_m0 ?_
      refine wq_geti rfl rfl (f := 1) rfl rfl (Or.inl rfl) ?_
      rw [hN1]
      refine wq_icgt rfl (fun h23 => ?_) (fun h23 => ?_)
      · have g23 : (nI n).toInt < (dd).toInt := tn_ltI.mp h23
        refine wq_con (x := (-1)) rfl (by decide) ?_
        exact wp_reti rfl (th_nI rfl) ⟨⟨_, rfl⟩, Ts7, Us7⟩
      · have g23 : ¬ (nI n).toInt < (dd).toInt := fun g => h23 (tn_ltI.mpr g)
        refine wp_lda rfl tm_m0 ?_
        refine wq_geti rfl rfl (f := 1) rfl rfl (Or.inl rfl) ?_
        rw [hN1]
        refine wp_ldi rfl tm_m2 ?_
        refine wp_rem rfl (fun e => by rw [e] at g15; exact absurd (show (0 : Int) < 1 by decide) g15) ?_
        refine wq_ifeq rfl (fun h32 => ?_) (fun h32 => ?_)
        · have g32 : ((nI n) - (nI n) / dd * dd).toInt = 0 := congrArg Int32.toInt h32
          obtain ⟨e, rfl, he1, he2, he3⟩ := th_rem hn h3 (by omega) h32
          have hz := hz7 h10
          obtain ⟨q, q1, rfl⟩ := nI_of (x := s) (by rw [tn_ltI]; show ¬ s.toInt < 0; omega)
          rw [nI_toInt q1] at hz
          refine wq_con (x := (-1)) rfl (by decide) ?_
          refine wq_sti [(3, .int ((-1))), (0, .ref 11), (1, .int (nI q)), (2, .int (nI e))] rfl rfl ?_
          refine wq_con (x := nI 0) rfl (by decide) ?_
          refine wq_sti [(4, .int (nI 0)), (3, .int ((-1))), (0, .ref 11), (1, .int (nI q)), (2, .int (nI e))] rfl rfl ?_
          exact WP.less (k42 e q he1 he2 he3 (by omega) n 0 (-1) s7 (Nat.zero_mod e) (by omega) (by omega) Ts7 Us7) (by simp)
        · refine wq_con (x := (-1)) rfl (by decide) ?_
          exact wp_reti rfl (th_nI rfl) ⟨⟨_, rfl⟩, Ts7, Us7⟩
/-- how many are not -1 -/
def th_cn (f : Nat → Int32) : Nat → Nat
  | 0 => 0
  | k + 1 => th_cn f k + if f k = -1 then 0 else 1
theorem th_cn_le (f : Nat → Int32) : ∀ k : Nat, th_cn f k ≤ k
  | 0 => Nat.le_refl 0
  | k + 1 => by
    have h := th_cn_le f k
    unfold th_cn
    split <;> omega
theorem th_cn_lt {f : Nat → Int32} {x : Nat} (hf : f x = -1) : ∀ {k : Nat}, x < k → th_cn f k < k
  | 0, h => absurd h (by omega)
  | k + 1, h => by
    unfold th_cn
    by_cases e : x = k
    · subst e
      rw [if_pos hf]
      have := th_cn_le f x
      omega
    · have := th_cn_lt hf (k := k) (by omega)
      split <;> omega
theorem th_cn_eq {f g : Nat → Int32} : ∀ {k : Nat}, (∀ y : Nat, y < k → g y = f y) → th_cn g k = th_cn f k
  | 0, _ => rfl
  | k + 1, h => by
    unfold th_cn
    rw [th_cn_eq (k := k) (fun y hy => h y (by omega)), h k (by omega)]
theorem th_cn_up {f g : Nat → Int32} {x : Nat} (hf : f x = -1) (hg : ¬ g x = -1) (ho : ∀ y : Nat, ¬ y = x → g y = f y) : ∀ {k : Nat}, x < k → th_cn g k = th_cn f k + 1
  | 0, h => absurd h (by omega)
  | k + 1, h => by
    unfold th_cn
    by_cases e : x = k
    · subst e
      rw [if_pos hf, if_neg hg, th_cn_eq (fun y hy => ho y (by omega))]
    · rw [th_cn_up hf hg ho (k := k) (by omega), ho k (fun e2 => e e2.symm)]
      omega
theorem th_cn_all {f : Nat → Int32} : ∀ {k : Nat}, (∀ x : Nat, x < k → f x = -1) → th_cn f k = 0
  | 0, _ => rfl
  | k + 1, h => by
    unfold th_cn
    rw [th_cn_all (k := k) (fun x hx => h x (by omega)), if_pos (h k (by omega))]
theorem th_1p : ∀ w : Nat, w < 12 → ((1 : Int32) <<< (nI w &&& 31)) = nI (2 ^ w) := by decide +kernel
theorem th_xor12 {a w : Nat} (ha : a < 4096) (hw : w < 12) : nI a ^^^ (1 <<< (nI w &&& 31)) = nI (a ^^^ 2 ^ w) ∧ a ^^^ 2 ^ w < 4096 := by
  have h2 : a ^^^ 2 ^ w < 2 ^ 12 := Nat.xor_lt_two_pow ha (Nat.pow_lt_pow_right (by decide) hw)
  have e : ∀ x : Nat, x < 2 ^ 12 → (nI x).toBitVec.toNat = x := fun x hx => by
    unfold nI
    rw [Int32.toBitVec_ofNat', BitVec.toNat_ofNat]
    exact Nat.mod_eq_of_lt (by omega)
  refine ⟨?_, h2⟩
  apply Int32.toBitVec_inj.mp
  apply BitVec.eq_of_toNat_eq
  have h3 : (2 : Nat) ^ w < 2 ^ 12 := Nat.pow_lt_pow_right (by decide) hw
  rw [th_1p w hw, tn_xor, e a ha, e _ h3, e _ h2]
theorem th_upk : (List.range 13).all (fun n => (List.range n).all (fun x => decide ((nI x + 1) - (nI x + 1) / nI n * nI n = nI ((x + 1) % n)) && decide ((nI x + (nI n - 1)) - (nI x + (nI n - 1)) / nI n * nI n = nI ((x + n - 1) % n)))) = true := by decide +kernel
theorem th_up {n x : Nat} (hn : n ≤ 12) (hx : x < n) : ((nI x + 1) - (nI x + 1) / nI n * nI n = nI ((x + 1) % n)) ∧ ((nI x + (nI n - 1)) - (nI x + (nI n - 1)) / nI n * nI n = nI ((x + n - 1) % n)) := by
  have h1 := List.all_eq_true.mp (List.all_eq_true.mp th_upk n (List.mem_range.mpr (by omega))) x (List.mem_range.mpr hx)
  simpa using h1
/-- the search: far is set at so many places, each below -/
def th_RO (n : Nat) (σ t : tm_S) (tl : Nat) : Prop := tv_TY (tc_T (n : Int)) t ∧ tv_un σ t [(11, 0), (48, 64), (49, 64)] ∧ (∀ x : Nat, x < 4096 → t.1 48 x = -1 ∨ (0 ≤ (t.1 48 x).toInt ∧ (t.1 48 x).toInt < tl)) ∧ th_cn (t.1 48) 4096 = tl
set_option maxRecDepth 100000 in
set_option maxHeartbeats 4000000 in
theorem th_mroad {n : Nat} {a2 b2 : Int32} {σ : tm_S} (hn : n ≤ 12) (h3 : 3 ≤ n) (hnm : tv_Snd (tc_T (n : Int)) tz_nm) (hT : tv_TY (tc_T (n : Int)) σ) : WM 40 184 [.ref 11, .int a2, .int b2] σ (fun q σ' => (∃ z : Int32, q = some (.int z)) ∧ tv_TY (tc_T (n : Int)) σ' ∧ tv_un σ σ' [(11, 0), (48, 64), (49, 64)]) := by
  have ho : ∀ {t s : tm_S} {tl : Nat}, th_RO n σ t tl → tv_TY (tc_T (n : Int)) s → tv_un t s [] → th_RO n σ s tl := by
    intro t s tl R Ts us
    have e := (tv_un_a us (k := 48) rfl rfl).1
    refine ⟨Ts, tv_un_tr R.2.1 (tv_un_mo us (fun q hq => nomatch hq)), ?_, ?_⟩
    · rw [e]; exact R.2.2.1
    · rw [e]; exact R.2.2.2
  have hle : ∀ {t : tm_S} {tl : Nat}, th_RO n σ t tl → tl ≤ 4096 := by
    intro t tl R
    rw [← R.2.2.2]
    exact th_cn_le _ _
  have k88 : ∀ (m h tl : Nat) (gl : Int32) (t : tm_S), 4096 ≤ h + m → h ≤ tl → th_RO n σ t tl → WP 40 184 88 [(5, .int (nI tl)), (4, .int (nI h)), (3, .int gl), (0, .ref 11), (1, .int a2), (2, .int b2)] [] t (fun q σ' => (∃ z : Int32, q = some (.int z)) ∧ tv_TY (tc_T (n : Int)) σ' ∧ tv_un σ σ' [(11, 0), (48, 64), (49, 64)]) := by
    intro m
    induction m with
    | zero =>
      intro h tl gl t hm hh R
      have := hle R
      refine wp_ldi rfl tm_m1 ?_
      refine wp_ldi rfl tm_m0 ?_
      refine wq_icge rfl (fun h92 => ?_) (fun h92 => absurd (nI_le (by omega) (by omega)) h92)
      refine wq_con (x := (-1)) rfl (by decide) ?_
      exact wp_reti rfl (th_nI rfl) ⟨⟨_, rfl⟩, R.1, R.2.1⟩
    | succ m ih =>
      intro h tl gl t hm hh R
      have h96 := hle R
      have k132 : ∀ (st : Nat), st < 4096 → ∀ (mx x tl : Nat) (t : tm_S), h + 1 ≤ tl → x + mx = n → th_RO n σ t tl → WP 40 184 132 [(7, .int (nI x)), (6, .int (nI st)), (5, .int (nI tl)), (4, .int (nI (h + 1))), (3, .int gl), (0, .ref 11), (1, .int a2), (2, .int b2)] [] t (fun q σ' => (∃ z : Int32, q = some (.int z)) ∧ tv_TY (tc_T (n : Int)) σ' ∧ tv_un σ σ' [(11, 0), (48, 64), (49, 64)]) := by
        intro st hst mx
        induction mx with
        | zero =>
          intro x tl t hh hx R
          have hN1 := th_N1 R.1 hn
          obtain rfl : x = n := by omega
          refine wp_ldi rfl tm_m0 ?_
          refine wp_lda rfl tm_m5 ?_
          refine wq_geti rfl rfl (f := 1) rfl rfl (Or.inl rfl) ?_
          rw [hN1]
          refine wq_icge rfl (fun h138 => ?_) (fun h138 => absurd (nI_le (Nat.le_refl _) (by omega)) h138)
          refine wp_go rfl ?_
          exact WP.less (ih (h + 1) tl gl t (by omega) hh R) (by simp)
        | succ mx ihx =>
          intro x tl t hh hx R
          have hxn : x < n := by omega
          have k144 : ∀ (mu u tl : Nat) (t : tm_S), h + 1 ≤ tl → u + mu = 2 → th_RO n σ t tl → WP 40 184 144 [(8, .int (nI u)), (7, .int (nI x)), (6, .int (nI st)), (5, .int (nI tl)), (4, .int (nI (h + 1))), (3, .int gl), (0, .ref 11), (1, .int a2), (2, .int b2)] [] t (fun q σ' => (∃ z : Int32, q = some (.int z)) ∧ tv_TY (tc_T (n : Int)) σ' ∧ tv_un σ σ' [(11, 0), (48, 64), (49, 64)]) := by
            intro mu
            induction mu with
            | zero =>
              intro u tl t hh hu R
              obtain rfl : u = 2 := by omega
              refine wp_ldi rfl tm_m0 ?_
              refine wq_con (x := 2) rfl (by decide) ?_
              refine wq_icge rfl (fun h147 => ?_) (fun h147 => absurd (by decide) h147)
              refine wq_inc (c := 1) [(7, .int ((nI x) + 1)), (8, .int (nI 2)), (6, .int (nI st)), (5, .int (nI tl)), (4, .int (nI (h + 1))), (3, .int gl), (0, .ref 11), (1, .int a2), (2, .int b2)] rfl tm_m1 rfl rfl ?_
              refine wp_go rfl ?_
              rw [nI_1]
              exact WP.less (ihx (x + 1) tl t hh (by omega) R) (by simp)
            | succ mu ihu =>
              intro u tl t hh hu R
              have hN1 := th_N1 R.1 hn
              have h96 := hle R
              have nxt : ∀ (tl : Nat) (t : tm_S), h + 1 ≤ tl → th_RO n σ t tl → WP 40 184 260 [(8, .int (nI u)), (7, .int (nI x)), (6, .int (nI st)), (5, .int (nI tl)), (4, .int (nI (h + 1))), (3, .int gl), (0, .ref 11), (1, .int a2), (2, .int b2)] [] t (fun q σ' => (∃ z : Int32, q = some (.int z)) ∧ tv_TY (tc_T (n : Int)) σ' ∧ tv_un σ σ' [(11, 0), (48, 64), (49, 64)]) := by
                intro tl t hh R
                refine wq_inc (c := 1) [(8, .int ((nI u) + 1)), (7, .int (nI x)), (6, .int (nI st)), (5, .int (nI tl)), (4, .int (nI (h + 1))), (3, .int gl), (0, .ref 11), (1, .int a2), (2, .int b2)] rfl tm_m0 rfl rfl ?_
                refine wp_go rfl ?_
                rw [nI_1]
                exact WP.less (ihu (u + 1) tl t hh (by omega) R) (by simp)
              have k168 : ∀ (v : Int32) (yy : Nat), yy < n → (nI x + v) - (nI x + v) / nI n * nI n = nI yy → WP 40 184 168 [(8, .int (nI u)), (7, .int (nI x)), (6, .int (nI st)), (5, .int (nI tl)), (4, .int (nI (h + 1))), (3, .int gl), (0, .ref 11), (1, .int a2), (2, .int b2)] [.int v, .int (nI x)] t (fun q σ' => (∃ z : Int32, q = some (.int z)) ∧ tv_TY (tc_T (n : Int)) σ' ∧ tv_un σ σ' [(11, 0), (48, 64), (49, 64)]) := by
                intro v yy hy ev
                obtain ⟨x1, x2⟩ := th_xor12 hst (w := x) (by omega)
                obtain ⟨y1, y2⟩ := th_xor12 x2 (w := yy) (by omega)
                generalize hto : st ^^^ 2 ^ x ^^^ 2 ^ yy = to at y1 y2
                refine wq_iadd rfl ?_
                refine wp_lda rfl tm_m6 ?_
                refine wq_geti rfl rfl (f := 1) rfl rfl (Or.inl rfl) ?_
                rw [hN1]
                refine wp_rem rfl (nI_ne0 (by omega) (by omega)) ?_
                rw [ev]
                refine wq_sti [(9, .int (nI yy)), (8, .int (nI u)), (7, .int (nI x)), (6, .int (nI st)), (5, .int (nI tl)), (4, .int (nI (h + 1))), (3, .int gl), (0, .ref 11), (1, .int a2), (2, .int b2)] rfl rfl ?_
                refine wp_lda rfl tm_m7 ?_
                refine wp_ldi rfl tm_m3 ?_
                refine wp_ldi rfl tm_m2 ?_
                refine wq_calv [.int (nI st), .int (nI x)] rfl rfl rfl rfl rfl rfl rfl rfl rfl (th_has) ?_
                rintro _ _ ⟨rfl, rfl⟩
                refine wq_ifeq rfl (fun h184 => ?_) (fun h184 => ?_)
                · exact WP.less (nxt tl t hh R) (by simp)
                · refine wp_lda rfl tm_m7 ?_
                  refine wp_ldi rfl tm_m3 ?_
                  refine wp_ldi rfl tm_m0 ?_
                  refine wq_calv [.int (nI st), .int (nI yy)] rfl rfl rfl rfl rfl rfl rfl rfl rfl (th_has) ?_
                  rintro _ _ ⟨rfl, rfl⟩
                  refine wq_ifeq rfl (fun h195 => ?_) (fun h195 => ?_)
                  · refine wp_ldi rfl tm_m3 ?_
                    refine wq_con (x := 1) rfl (by decide) ?_
                    refine wp_ldi rfl tm_m2 ?_
                    refine wq_ishl rfl ?_
                    refine wq_ixor rfl ?_
                    rw [x1]
                    refine wq_con (x := 1) rfl (by decide) ?_
                    refine wp_ldi rfl tm_m0 ?_
                    refine wq_ishl rfl ?_
                    refine wq_ixor rfl ?_
                    rw [y1]
                    refine wq_sti [(10, .int (nI to)), (9, .int (nI yy)), (8, .int (nI u)), (7, .int (nI x)), (6, .int (nI st)), (5, .int (nI tl)), (4, .int (nI (h + 1))), (3, .int gl), (0, .ref 11), (1, .int a2), (2, .int b2)] rfl rfl ?_
                    refine wp_lda rfl tm_m8 ?_
                    refine wq_getr (p := 48) rfl rfl (f := 7) rfl rfl ?_
                    refine wp_ldi rfl tm_m0 ?_
                    refine wp_iald rfl rfl (nI_in y2 (by decide)) ?_
                    refine wq_con (x := (-1)) rfl (by decide) ?_
                    refine wq_iceq rfl (fun h223 => ?_) (fun h223 => ?_)
                    · have cto : (nI to).toNatClampNeg = to := nI_clamp (by omega)
                      have cst : (nI st).toNatClampNeg = st := nI_clamp (by omega)
                      have hlt : tl < 4096 := by
                        rw [← R.2.2.2]
                        exact th_cn_lt (x := to) (by rw [← cto]; exact h223) y2
                      have ef : (t.1 48 (nI st).toNatClampNeg + 1).toInt = (t.1 48 (nI st).toNatClampNeg).toInt + 1 ∧ -1 ≤ (t.1 48 (nI st).toNatClampNeg).toInt ∧ (t.1 48 (nI st).toNatClampNeg).toInt < tl := by
                        have e0 : -1 ≤ (t.1 48 (nI st).toNatClampNeg).toInt ∧ (t.1 48 (nI st).toNatClampNeg).toInt < tl := by
                          rw [cst]
                          rcases R.2.2.1 st hst with e | e
                          · rw [e]
                            exact ⟨by decide, by show (-1 : Int) < _; omega⟩
                          · omega
                        exact ⟨tn_add1 (by omega), e0⟩
                      obtain ⟨ef, ef0, ef1⟩ := ef
                      refine wp_lda rfl tm_m8 ?_
                      refine wq_getr (p := 48) rfl rfl (f := 7) rfl rfl ?_
                      refine wp_ldi rfl tm_m0 ?_
                      refine wp_lda rfl tm_m8 ?_
                      refine wq_getr (p := 48) rfl rfl (f := 7) rfl rfl ?_
                      refine wp_ldi rfl tm_m4 ?_
                      refine wp_iald rfl rfl (nI_in hst (by decide)) ?_
                      refine wq_con (x := 1) rfl (by decide) ?_
                      refine wq_iadd rfl ?_
                      refine wp_iast rfl rfl (nI_in y2 (by decide)) ?_
                      refine wp_lda rfl tm_m8 ?_
                      refine wq_getr (p := 49) rfl rfl (f := 8) rfl rfl ?_
                      refine wp_ldi rfl tm_m5 ?_
                      refine wp_ldi rfl tm_m0 ?_
                      refine wp_iast rfl rfl (nI_in hlt (by decide)) ?_
                      refine wp_ldi rfl tm_m5 ?_
                      refine wq_con (x := 1) rfl (by decide) ?_
                      refine wq_iadd rfl ?_
                      refine wq_sti [(5, .int ((nI tl) + 1)), (10, .int (nI to)), (9, .int (nI yy)), (8, .int (nI u)), (7, .int (nI x)), (6, .int (nI st)), (4, .int (nI (h + 1))), (3, .int gl), (0, .ref 11), (1, .int a2), (2, .int b2)] rfl rfl ?_
                      rw [nI_1]
                      refine WP.less (nxt (tl + 1) _ (by omega) ⟨?_, ?_, ?_, ?_⟩) (by simp)
                      · exact tv_TY_row (tv_TY_row R.1 (ty := (-1, 4096)) (fun _ => rfl) (by rw [ef]; show (-1 : Int) ≤ _; omega) (by rw [ef]; show _ ≤ (4096 : Int); omega)) (ty := (0, 4095)) (fun _ => rfl) (by rw [nI_toInt (by omega)]; show (0 : Int) ≤ _; omega) (by rw [nI_toInt (by omega)]; show _ ≤ (4095 : Int); omega)
                      · exact tv_un_tr (tv_un_tr R.2.1 (tv_un_ar rfl rfl)) (tv_un_ar rfl rfl)
                      · intro z hz
                        rw [tm_gI, if_neg (fun e => absurd e.1 (by decide)), tm_gI]
                        split
                        · refine Or.inr ⟨?_, ?_⟩ <;> rw [ef] <;> omega
                        · rcases R.2.2.1 z hz with e | e
                          · exact Or.inl e
                          · exact Or.inr (by omega)
                      · have g1 : (tm_sI (tm_sI t 48 (nI to).toNatClampNeg ((t.1 48 (nI st).toNatClampNeg) + 1)) 49 (nI tl).toNatClampNeg (nI to)).1 48 = (tm_sI t 48 (nI to).toNatClampNeg (t.1 48 (nI st).toNatClampNeg + 1)).1 48 := (tm_sI_ar (by decide)).1
                        rw [g1, th_cn_up (f := t.1 48) (x := to) (by rw [← cto]; exact h223) ?_ (fun z hz => ?_) y2, R.2.2.2]
                        · rw [tm_gI, if_pos ⟨rfl, cto.symm⟩]
                          intro e
                          have := congrArg Int32.toInt e
                          rw [ef] at this
                          change _ = (-1 : Int) at this
                          omega
                        · rw [tm_gI, if_neg (fun e => hz (by rw [e.2, cto]))]
                    · refine wp_go rfl ?_
                      exact WP.less (nxt tl t hh R) (by simp)
                  · refine wp_go rfl ?_
                    exact WP.less (nxt tl t hh R) (by simp)
              refine wp_ldi rfl tm_m0 ?_
              refine wq_con (x := 2) rfl (by decide) ?_
              refine wq_icge rfl (fun h147 => absurd h147 (nI_ge (a := u) (b := 2) (by omega) (by decide))) (fun h147 => ?_)
              refine wp_ldi rfl tm_m1 ?_
              refine wp_ldi rfl tm_m0 ?_
              refine wq_con (x := 1) rfl (by decide) ?_
              refine wq_icne rfl (fun h155 => ?_) (fun h155 => ?_)
              · refine wp_lda rfl tm_m6 ?_
                refine wq_geti rfl rfl (f := 1) rfl rfl (Or.inl rfl) ?_
                rw [hN1]
                refine wq_con (x := 1) rfl (by decide) ?_
                refine wq_isub rfl ?_
                exact k168 (nI n - 1) ((x + n - 1) % n) (Nat.mod_lt _ (by omega)) (th_up hn hxn).2
              · refine wq_con (x := 1) rfl (by decide) ?_
                refine wp_go rfl ?_
                exact k168 1 ((x + 1) % n) (Nat.mod_lt _ (by omega)) (th_up hn hxn).1
          have hN1 := th_N1 R.1 hn
          refine wp_ldi rfl tm_m0 ?_
          refine wp_lda rfl tm_m5 ?_
          refine wq_geti rfl rfl (f := 1) rfl rfl (Or.inl rfl) ?_
          rw [hN1]
          refine wq_icge rfl (fun h138 => absurd h138 (nI_ge (by omega) (by omega))) (fun h138 => ?_)
          refine wq_con (x := nI 0) rfl (by decide) ?_
          refine wq_sti [(8, .int (nI 0)), (7, .int (nI x)), (6, .int (nI st)), (5, .int (nI tl)), (4, .int (nI (h + 1))), (3, .int gl), (0, .ref 11), (1, .int a2), (2, .int b2)] rfl rfl ?_
          exact WP.less (k144 2 0 tl t hh (by omega) R) (by simp)
      have hq0 : 0 ≤ (t.1 49 (nI h).toNatClampNeg).toInt ∧ (t.1 49 (nI h).toNatClampNeg).toInt ≤ 4095 := R.1.1 49 _
      obtain ⟨st, s1, s2⟩ := nI_of (x := t.1 49 (nI h).toNatClampNeg) (by rw [tn_ltI]; show ¬ _ < (0 : Int); omega)
      rw [s2, nI_toInt s1] at hq0
      refine wp_ldi rfl tm_m1 ?_
      refine wp_ldi rfl tm_m0 ?_
      refine wq_icge rfl (fun h92 => ?_) (fun h92 => ?_)
      · refine wq_con (x := (-1)) rfl (by decide) ?_
        exact wp_reti rfl (th_nI rfl) ⟨⟨_, rfl⟩, R.1, R.2.1⟩
      · have hlt : h < tl := by
          rcases Nat.lt_or_ge h tl with g | g
          · exact g
          · exact absurd (nI_le g (by omega)) h92
        refine wp_lda rfl tm_m3 ?_
        refine wq_getr (p := 49) rfl rfl (f := 8) rfl rfl ?_
        refine wp_ldi rfl tm_m1 ?_
        refine wp_iald rfl rfl (nI_in (by omega) (by decide)) ?_
        rw [s2]
        refine wq_sti [(6, .int (nI st)), (5, .int (nI tl)), (4, .int (nI h)), (3, .int gl), (0, .ref 11), (1, .int a2), (2, .int b2)] rfl rfl ?_
        refine wp_ldi rfl tm_m2 ?_
        refine wq_con (x := 1) rfl (by decide) ?_
        refine wq_iadd rfl ?_
        rw [nI_1]
        refine wq_sti [(4, .int (nI (h + 1))), (6, .int (nI st)), (5, .int (nI tl)), (3, .int gl), (0, .ref 11), (1, .int a2), (2, .int b2)] rfl rfl ?_
        refine wp_lda rfl tm_m4 ?_
        refine wq_con (x := 1) rfl (by decide) ?_
        refine wp_ldi rfl tm_m1 ?_
        refine wq_calv [.int 1, .int (nI st)] rfl rfl rfl rfl rfl rfl rfl rfl rfl (WM.deep (hnm [.ref 11, .int 1, .int (nI st)] t ⟨⟨_, rfl, by decide, by decide⟩, ⟨_, rfl, (tn_rng _).1, (tn_rng _).2⟩, ⟨_, rfl, (tn_rng _).1, (tn_rng _).2⟩, trivial⟩ R.1) (by decide)) ?_
        rintro r114 s114 hq114
        obtain ⟨T2, u2, z114, rfl, -⟩ := tq_nm hq114
        have R2 := ho R T2 u2
        refine wp_ldi rfl tm_m3 ?_
        refine wq_icne rfl (fun h118 => ?_) (fun h118 => ?_)
        · refine wq_con (x := nI 0) rfl (by decide) ?_
          refine wq_sti [(7, .int (nI 0)), (4, .int (nI (h + 1))), (6, .int (nI st)), (5, .int (nI tl)), (3, .int gl), (0, .ref 11), (1, .int a2), (2, .int b2)] rfl rfl ?_
          exact WP.less (k132 st (by omega) n 0 tl s114 hlt (by omega) R2) (by simp)
        · refine wp_lda rfl tm_m4 ?_
          refine wq_getr (p := 48) rfl rfl (f := 7) rfl rfl ?_
          refine wp_ldi rfl tm_m1 ?_
          refine wp_iald rfl rfl (nI_in (by omega) (by decide)) ?_
          exact wp_reti rfl (th_nI rfl) ⟨⟨_, rfl⟩, R2.1, R2.2.1⟩
  have k46 : ∀ (gl : Int32) (a : Nat), a2 = nI a → a < 4096 → ∀ (m k : Nat) (t : tm_S), k + m = 4096 → tv_TY (tc_T (n : Int)) t → tv_un σ t [(11, 0), (48, 64), (49, 64)] → (∀ x : Nat, x < k → t.1 48 x = -1) → WP 40 184 46 [(4, .int (nI k)), (3, .int gl), (0, .ref 11), (1, .int (nI a)), (2, .int b2)] [] t (fun q σ' => (∃ z : Int32, q = some (.int z)) ∧ tv_TY (tc_T (n : Int)) σ' ∧ tv_un σ σ' [(11, 0), (48, 64), (49, 64)]) := by
    intro gl a ea ha m
    subst ea
    induction m with
    | zero =>
      intro k t hk Tt Ut hx
      obtain rfl : k = 4096 := by omega
      have ca : (nI a).toNatClampNeg = a := nI_clamp (by omega)
      refine wp_ldi rfl tm_m0 ?_
      refine wq_con (x := 4096) rfl (by decide) ?_
      refine wq_icge rfl (fun h51 => ?_) (fun h51 => absurd (by decide) h51)
      refine wp_lda rfl tm_m2 ?_
      refine wq_getr (p := 48) rfl rfl (f := 7) rfl rfl ?_
      refine wp_ldi rfl tm_m3 ?_
      refine wq_con (x := 0) rfl (by decide) ?_
      refine wp_iast rfl rfl (nI_in ha (by decide)) ?_
      refine wp_lda rfl tm_m2 ?_
      refine wq_getr (p := 49) rfl rfl (f := 8) rfl rfl ?_
      refine wq_con (x := 0) rfl (by decide) ?_
      refine wp_ldi rfl tm_m3 ?_
      refine wp_iast rfl rfl (tn_in (by decide) (by decide)) ?_
      refine wq_con (x := 0) rfl (by decide) ?_
      refine wq_sti [(4, .int 0), (3, .int gl), (0, .ref 11), (1, .int (nI a)), (2, .int b2)] rfl rfl ?_
      refine wq_con (x := 1) rfl (by decide) ?_
      refine wq_sti [(5, .int 1), (4, .int 0), (3, .int gl), (0, .ref 11), (1, .int (nI a)), (2, .int b2)] rfl rfl ?_
      refine WP.less (k88 4096 0 1 gl (tm_sI (tm_sI t 48 (nI a).toNatClampNeg 0) 49 (0 : Int32).toNatClampNeg (nI a)) (by omega) (by omega) ⟨?_, ?_, ?_, ?_⟩) (by simp [nI])
      · exact tv_TY_row (tv_TY_row Tt (ty := (-1, 4096)) (fun _ => rfl) (by decide) (by decide)) (ty := (0, 4095)) (fun _ => rfl) (by rw [nI_toInt (by omega)]; show (0 : Int) ≤ _; omega) (by rw [nI_toInt (by omega)]; show _ ≤ (4095 : Int); omega)
      · exact tv_un_tr (tv_un_tr Ut (tv_un_ar rfl rfl)) (tv_un_ar rfl rfl)
      · intro x hx2
        rw [tm_gI, if_neg (fun e => absurd e.1 (by decide)), tm_gI]
        split
        · exact Or.inr ⟨by decide, by decide⟩
        · exact Or.inl (hx x hx2)
      · have g1 : (tm_sI (tm_sI t 48 (nI a).toNatClampNeg 0) 49 (0 : Int32).toNatClampNeg (nI a)).1 48 = (tm_sI t 48 (nI a).toNatClampNeg 0).1 48 := (tm_sI_ar (by decide)).1
        rw [g1, th_cn_up (f := t.1 48) (x := a) (hx a ha) (by rw [tm_gI, if_pos ⟨rfl, ca.symm⟩]; decide) (fun z hz => by rw [tm_gI, if_neg (fun e => hz (by rw [e.2, ca]))]) ha, th_cn_all hx]
    | succ m ih =>
      intro k t hk Tt Ut hx
      refine wp_ldi rfl tm_m0 ?_
      refine wq_con (x := 4096) rfl (by decide) ?_
      refine wq_icge rfl (fun h51 => absurd h51 (nI_ge (a := k) (b := 4096) (by omega) (by decide))) (fun h51 => ?_)
      refine wp_lda rfl tm_m2 ?_
      refine wq_getr (p := 48) rfl rfl (f := 7) rfl rfl ?_
      refine wp_ldi rfl tm_m0 ?_
      refine wq_con (x := (-1)) rfl (by decide) ?_
      refine wp_iast rfl rfl (nI_in (by omega) (by decide)) ?_
      refine wq_inc (c := 1) [(4, .int ((nI k) + 1)), (3, .int gl), (0, .ref 11), (1, .int (nI a)), (2, .int b2)] rfl tm_m0 rfl rfl ?_
      refine wp_go rfl ?_
      have ck : (nI k).toNatClampNeg = k := nI_clamp (by omega)
      rw [nI_1]
      refine WP.less (ih (k + 1) _ (by omega) (tv_TY_row Tt (ty := (-1, 4096)) (fun _ => rfl) (by decide) (by decide)) (tv_un_tr Ut (tv_un_ar rfl rfl)) (fun x hx2 => ?_)) (by simp)
      rw [tm_gI, ck]
      split
      · rfl
      · rename_i e
        exact hx x (by have : ¬ x = k := fun e2 => e ⟨rfl, e2⟩; omega)
  show WP 40 184 0 [(0, .ref 11), (1, .int a2), (2, .int b2)] [] σ _
  have T0 : tv_TY (tc_T (n : Int)) (tm_sI σ 11 0 0) := tv_TY_sI hT tv_z0 tv_z1
  have U0 : tv_un σ (tm_sI σ 11 0 0) [(11, 0), (48, 64), (49, 64)] := tv_un_fI rfl
  have hN1 := th_N1 T0 hn
  refine wp_lda rfl tm_m0 ?_
  refine wq_con (x := 0) rfl (by decide) ?_
  refine wq_puti rfl rfl (f := 0) rfl rfl ?_
  refine wp_lda rfl tm_m0 ?_
  refine wp_ldi rfl tm_m1 ?_
  refine wq_calv [.int a2] rfl rfl rfl rfl rfl rfl rfl rfl rfl (th_mset hn hN1) ?_
  rintro r7 _ ⟨hr7, rfl⟩
  obtain ⟨z7, rfl, hz7⟩ : ∃ z : Int32, r7 = some (.int z) ∧ (¬ z = 0 → ∃ a : Nat, a2 = nI a ∧ a < 2 ^ n) := by
    rcases hr7 with ⟨rfl, g⟩ | rfl
    · exact ⟨_, rfl, fun _ => g⟩
    · exact ⟨_, rfl, fun e => absurd rfl e⟩
  refine wq_ifeq rfl (fun h10 => ?_) (fun h10 => ?_)
  · refine wq_con (x := (-1)) rfl (by decide) ?_
    exact wp_reti rfl (th_nI rfl) ⟨⟨_, rfl⟩, T0, U0⟩
  · refine wp_lda rfl tm_m0 ?_
    refine wp_ldi rfl tm_m2 ?_
    refine wq_calv [.int b2] rfl rfl rfl rfl rfl rfl rfl rfl rfl (th_mset hn hN1) ?_
    rintro r15 _ ⟨hr15, rfl⟩
    obtain ⟨z15, rfl, hz15⟩ : ∃ z : Int32, r15 = some (.int z) ∧ (¬ z = 0 → ∃ a : Nat, b2 = nI a ∧ a < 2 ^ n) := by
      rcases hr15 with ⟨rfl, g⟩ | rfl
      · exact ⟨_, rfl, fun _ => g⟩
      · exact ⟨_, rfl, fun e => absurd rfl e⟩
    refine wq_ifeq rfl (fun h18 => ?_) (fun h18 => ?_)
    · refine wq_con (x := (-1)) rfl (by decide) ?_
      exact wp_reti rfl (th_nI rfl) ⟨⟨_, rfl⟩, T0, U0⟩
    · refine wp_lda rfl tm_m0 ?_
      refine wp_ldi rfl tm_m1 ?_
      refine wq_calv [.int a2] rfl rfl rfl rfl rfl rfl rfl rfl rfl (th_ones) ?_
      rintro _ _ ⟨⟨z23, rfl⟩, rfl⟩
      refine wp_lda rfl tm_m0 ?_
      refine wp_ldi rfl tm_m2 ?_
      refine wq_calv [.int b2] rfl rfl rfl rfl rfl rfl rfl rfl rfl (th_ones) ?_
      rintro _ _ ⟨⟨z28, rfl⟩, rfl⟩
      refine wq_iceq rfl (fun h31 => ?_) (fun h31 => ?_)
      · obtain ⟨a, rfl, ha⟩ := hz7 h10
        have ha2 := th_l12 hn ha
        refine wp_lda rfl tm_m0 ?_
        refine wq_con (x := 1) rfl (by decide) ?_
        refine wp_ldi rfl tm_m2 ?_
        refine wq_calv [.int 1, .int b2] rfl rfl rfl rfl rfl rfl rfl rfl rfl (WM.deep (hnm [.ref 11, .int 1, .int b2] (tm_sI σ 11 0 0) ⟨⟨_, rfl, by decide, by decide⟩, ⟨_, rfl, (tn_rng _).1, (tn_rng _).2⟩, ⟨_, rfl, (tn_rng _).1, (tn_rng _).2⟩, trivial⟩ T0) (by decide)) ?_
        rintro r39 s39 hq39
        obtain ⟨T9, u9, z39, rfl, -⟩ := tq_nm hq39
        refine wq_sti [(3, .int z39), (0, .ref 11), (1, .int (nI a)), (2, .int b2)] rfl rfl ?_
        refine wq_con (x := nI 0) rfl (by decide) ?_
        refine wq_sti [(4, .int (nI 0)), (3, .int z39), (0, .ref 11), (1, .int (nI a)), (2, .int b2)] rfl rfl ?_
        exact WP.less (k46 z39 a rfl ha2 4096 0 s39 (by omega) T9 (tv_un_tr U0 (tv_un_mo u9 (fun q hq => nomatch hq))) (fun x hx => absurd hx (by omega))) (by simp)
      · refine wq_con (x := (-1)) rfl (by decide) ?_
        exact wp_reti rfl (th_nI rfl) ⟨⟨_, rfl⟩, T0, U0⟩
