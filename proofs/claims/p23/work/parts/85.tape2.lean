/-! ===== the tape again, with what is kept ===== -/
set_option maxRecDepth 100000 in
set_option maxHeartbeats 4000000 in
theorem th_feed2 {d : Nat} {v : Int} {a1 a2 a3 a4 a5 : Int32} {σ : tm_S} (hT : tv_TY (tc_T v) σ) : WM (d + 1) 223 [.ref 11, .int a1, .int a2, .int a3, .int a4, .int a5] σ (fun r σ' => (∃ z : Int32, r = some (.int z)) ∧ tv_TY (tc_T v) σ' ∧ tv_un σ σ' [(11, 0), (11, 32), (65, 64)]) := by
  show WP (d + 1) 223 0 [(0, .ref 11), (1, .int a1), (2, .int a2), (3, .int a3), (4, .int a4), (5, .int a5)] [] σ _
  have g : 0 ≤ (σ.1 11 32).toInt ∧ (σ.1 11 32).toInt ≤ 800 := hT.1 11 32
  have hT0 : tv_TY (tc_T v) (tm_sI σ 11 0 0) := tv_TY_sI hT tv_z0 tv_z1
  have eT : (tm_sI σ 11 0 0).1 11 32 = σ.1 11 32 := by rw [tm_gI, if_neg (fun e => absurd e.2 (by decide))]
  refine wp_lda rfl tm_m0 ?_
  refine wq_con (x := 0) rfl (by decide) ?_
  refine wq_puti rfl rfl (f := 0) rfl rfl ?_
  refine wp_lda rfl tm_m0 ?_
  refine wq_geti rfl rfl (f := 32) rfl rfl (Or.inl rfl) ?_
  refine wq_con (x := 20) rfl (by decide) ?_
  refine wq_iadd rfl ?_
  refine wq_con (x := 800) rfl (by decide) ?_
  refine wq_icle rfl (fun h15 => ?_) (fun h15 => ?_)
  · rw [eT] at h15
    have e20 : (σ.1 11 32 + 20).toInt = (σ.1 11 32).toInt + 20 := by rw [tn_add (by show -2147483648 ≤ (σ.1 11 32).toInt + 20; omega) (by show (σ.1 11 32).toInt + 20 ≤ 2147483647; omega)]; rfl
    have l0 : (σ.1 11 32).toInt ≤ 780 := by
      have g2 := tn_leI.mp h15
      rw [e20] at g2
      change _ ≤ (800 : Int) at g2
      omega
    have h0 : th_tp v σ 780 (tm_sI σ 11 0 0) := ⟨hT0, tv_un_fI rfl, by rw [eT]; exact l0⟩
    refine wp_lda rfl tm_m0 ?_
    refine wp_ldi rfl tm_m1 ?_
    refine wq_calv [.int a1] rfl rfl rfl rfl rfl rfl rfl rfl rfl (th_lay h0 (by omega)) ?_
    rintro _ s1 ⟨rfl, h1⟩
    refine wp_lda rfl tm_m0 ?_
    refine wp_ldi rfl tm_m2 ?_
    refine wq_calv [.int a2] rfl rfl rfl rfl rfl rfl rfl rfl rfl (th_lay h1 (by omega)) ?_
    rintro _ s2 ⟨rfl, h2⟩
    refine wp_lda rfl tm_m0 ?_
    refine wp_ldi rfl tm_m3 ?_
    refine wq_calv [.int a3] rfl rfl rfl rfl rfl rfl rfl rfl rfl (th_lay h2 (by omega)) ?_
    rintro _ s3 ⟨rfl, h3⟩
    refine wp_lda rfl tm_m0 ?_
    refine wp_ldi rfl tm_m4 ?_
    refine wq_calv [.int a4] rfl rfl rfl rfl rfl rfl rfl rfl rfl (th_lay h3 (by omega)) ?_
    rintro _ s4 ⟨rfl, h4⟩
    refine wp_lda rfl tm_m0 ?_
    refine wp_ldi rfl tm_m5 ?_
    refine wq_calv [.int a5] rfl rfl rfl rfl rfl rfl rfl rfl rfl (th_lay h4 (by omega)) ?_
    rintro _ s5 ⟨rfl, h5⟩
    refine wp_lda rfl tm_m0 ?_
    refine wq_geti rfl rfl (f := 32) rfl rfl (Or.inl rfl) ?_
    exact wp_reti rfl (th_nI rfl) ⟨⟨_, rfl⟩, h5.1, h5.2.1⟩
  · refine wq_con (x := (-1)) rfl (by decide) ?_
    exact wp_reti rfl (th_nI rfl) ⟨⟨_, rfl⟩, hT0, tv_un_fI rfl⟩
set_option maxRecDepth 100000 in
set_option maxHeartbeats 4000000 in
theorem th_write2 {d : Nat} {v : Int} (hv0 : 0 ≤ v) (hv : v ≤ 12) {σ : tm_S} (hT : tv_TY (tc_T v) σ) : WM (d + 2) 228 [.ref 11] σ (fun r σ' => (∃ z : Int32, r = some (.int z)) ∧ tv_TY (tc_T v) σ' ∧ tv_un σ σ' [(11, 0), (11, 34), (66, 64)]) := by
  have k105 : ∀ (m : Nat) (r : Int32) (s : tm_S), th_ou v σ (276 + 21 * r.toInt) s → 0 ≤ r.toInt → 8 ≤ r.toInt + m → r.toInt ≤ 8 → WP (d + 2) 228 105 [(1, .int r), (0, .ref 11)] [] s (fun r σ' => (∃ z : Int32, r = some (.int z)) ∧ tv_TY (tc_T v) σ' ∧ tv_un σ σ' [(11, 0), (11, 34), (66, 64)]) := by
    intro m
    induction m with
    | zero =>
      intro r s h hr1 hr2 hr3
      have gv : 0 ≤ (s.1 11 26).toInt ∧ (s.1 11 26).toInt ≤ 8 := h.1.1 11 26
      refine wp_ldi rfl tm_m0 ?_
      refine wp_lda rfl tm_m1 ?_
      refine wq_geti rfl rfl (f := 26) rfl rfl (Or.inl rfl) ?_
      refine wq_icge rfl (fun h110 => ?_) (fun h110 => absurd (tn_leI.mpr (by omega)) h110)
      refine wp_lda rfl tm_m1 ?_
      refine wq_geti rfl rfl (f := 34) rfl rfl (Or.inl rfl) ?_
      exact wp_reti rfl (th_nI rfl) ⟨⟨_, rfl⟩, h.1, h.2.1⟩
    | succ m ih =>
      intro r s h hr1 hr2 hr3
      have gv : 0 ≤ (s.1 11 26).toInt ∧ (s.1 11 26).toInt ≤ 8 := h.1.1 11 26
      have er := tn_add1 (x := r) (by omega)
      have k205 : ∀ (c : Int32) (s2 : tm_S), r.toInt ≤ 7 → th_ou v σ (276 + 21 * r.toInt + 8) s2 → WP (d + 2) 228 205 [(1, .int r), (0, .ref 11)] [.int c, .ref 11] s2 (fun r σ' => (∃ z : Int32, r = some (.int z)) ∧ tv_TY (tc_T v) σ' ∧ tv_un σ σ' [(11, 0), (11, 34), (66, 64)]) := by
        intro c s2 hr h0
        refine wq_calv [.int c] rfl rfl rfl rfl rfl rfl rfl rfl rfl (th_sayL h0 (by omega)) ?_
        rintro _ s1 ⟨rfl, h1⟩
        refine wp_lda rfl tm_m1 ?_
        refine wp_lda rfl tm_m1 ?_
        refine wq_getr (p := 63) rfl rfl (f := 29) rfl rfl ?_
        refine wp_ldi rfl tm_m0 ?_
        refine wp_iald rfl rfl (tn_in hr1 (by omega)) ?_
        refine wq_calv [.int (s1.1 63 r.toNatClampNeg)] rfl rfl rfl rfl rfl rfl rfl rfl rfl (th_sayN h1 (by omega)) ?_
        rintro _ s2 ⟨rfl, h2⟩
        refine wp_lda rfl tm_m1 ?_
        refine wq_con (x := 97) rfl (by decide) ?_
        refine wq_calv [.int 97] rfl rfl rfl rfl rfl rfl rfl rfl rfl (th_say h2 (by omega)) ?_
        rintro _ s3 ⟨rfl, h3⟩
        refine wp_lda rfl tm_m1 ?_
        refine wq_con (x := 116) rfl (by decide) ?_
        refine wq_calv [.int 116] rfl rfl rfl rfl rfl rfl rfl rfl rfl (th_sayL h3 (by omega)) ?_
        rintro _ s4 ⟨rfl, h4⟩
        refine wp_lda rfl tm_m1 ?_
        refine wp_lda rfl tm_m1 ?_
        refine wq_getr (p := 64) rfl rfl (f := 30) rfl rfl ?_
        refine wp_ldi rfl tm_m0 ?_
        refine wp_iald rfl rfl (tn_in hr1 (by omega)) ?_
        refine wq_calv [.int (s4.1 64 r.toNatClampNeg)] rfl rfl rfl rfl rfl rfl rfl rfl rfl (th_sayN h4 (by omega)) ?_
        rintro _ s5 ⟨rfl, h5⟩
        refine wp_lda rfl tm_m1 ?_
        refine wq_con (x := 59) rfl (by decide) ?_
        refine wq_calv [.int 59] rfl rfl rfl rfl rfl rfl rfl rfl rfl (th_say h5 (by omega)) ?_
        rintro _ s6 ⟨rfl, h6⟩
        refine wp_lda rfl tm_m1 ?_
        refine wq_con (x := 10) rfl (by decide) ?_
        refine wq_calv [.int 10] rfl rfl rfl rfl rfl rfl rfl rfl rfl (th_say h6 (by omega)) ?_
        rintro _ s7 ⟨rfl, h7⟩
        refine wq_inc (c := 1) [(1, .int (r + 1)), (0, .ref 11)] rfl tm_m0 rfl rfl ?_
        refine wp_go rfl ?_
        exact WP.less (ih (r + 1) _ (th_ou_mo h7 (by omega)) (by omega) (by omega) (by omega)) (by simp)
      refine wp_ldi rfl tm_m0 ?_
      refine wp_lda rfl tm_m1 ?_
      refine wq_geti rfl rfl (f := 26) rfl rfl (Or.inl rfl) ?_
      refine wq_icge rfl (fun h110 => ?_) (fun h110 => ?_)
      · refine wp_lda rfl tm_m1 ?_
        refine wq_geti rfl rfl (f := 34) rfl rfl (Or.inl rfl) ?_
        exact wp_reti rfl (th_nI rfl) ⟨⟨_, rfl⟩, h.1, h.2.1⟩
      · have e110 : r.toInt < (s.1 11 26).toInt := by rw [tn_leI] at h110; omega
        refine wp_lda rfl tm_m1 ?_
        refine wq_con (x := 118) rfl (by decide) ?_
        refine wq_calv [.int 118] rfl rfl rfl rfl rfl rfl rfl rfl rfl (th_say h (by omega)) ?_
        rintro _ s1 ⟨rfl, h1⟩
        refine wp_lda rfl tm_m1 ?_
        refine wq_con (x := 111) rfl (by decide) ?_
        refine wq_calv [.int 111] rfl rfl rfl rfl rfl rfl rfl rfl rfl (th_say h1 (by omega)) ?_
        rintro _ s2 ⟨rfl, h2⟩
        refine wp_lda rfl tm_m1 ?_
        refine wq_con (x := 105) rfl (by decide) ?_
        refine wq_calv [.int 105] rfl rfl rfl rfl rfl rfl rfl rfl rfl (th_say h2 (by omega)) ?_
        rintro _ s3 ⟨rfl, h3⟩
        refine wp_lda rfl tm_m1 ?_
        refine wq_con (x := 99) rfl (by decide) ?_
        refine wq_calv [.int 99] rfl rfl rfl rfl rfl rfl rfl rfl rfl (th_say h3 (by omega)) ?_
        rintro _ s4 ⟨rfl, h4⟩
        refine wp_lda rfl tm_m1 ?_
        refine wq_con (x := 101) rfl (by decide) ?_
        refine wq_calv [.int 101] rfl rfl rfl rfl rfl rfl rfl rfl rfl (th_sayL h4 (by omega)) ?_
        rintro _ s5 ⟨rfl, h5⟩
        refine wp_lda rfl tm_m1 ?_
        refine wp_lda rfl tm_m1 ?_
        refine wq_getr (p := 59) rfl rfl (f := 24) rfl rfl ?_
        refine wp_lda rfl tm_m1 ?_
        refine wq_getr (p := 61) rfl rfl (f := 27) rfl rfl ?_
        refine wp_ldi rfl tm_m0 ?_
        refine wp_iald rfl rfl (tn_in hr1 (by omega)) ?_
        refine wp_iald rfl rfl (tn_in (h5.1.1 61 _).1 (by have g6 : (s5.1 61 r.toNatClampNeg).toInt ≤ 5 := (h5.1.1 61 _).2; omega)) ?_
        refine wq_calv [.int (s5.1 59 (s5.1 61 r.toNatClampNeg).toNatClampNeg)] rfl rfl rfl rfl rfl rfl rfl rfl rfl (th_sayL h5 (by omega)) ?_
        rintro _ s6 ⟨rfl, h6⟩
        refine wp_lda rfl tm_m1 ?_
        refine wp_lda rfl tm_m1 ?_
        refine wq_getr (p := 62) rfl rfl (f := 28) rfl rfl ?_
        refine wp_ldi rfl tm_m0 ?_
        refine wp_iald rfl rfl (tn_in hr1 (by omega)) ?_
        refine wq_ifne rfl (fun h165 => ?_) (fun h165 => ?_)
        · refine wp_lda rfl tm_m1 ?_
          refine wq_getr (p := 62) rfl rfl (f := 28) rfl rfl ?_
          refine wp_ldi rfl tm_m0 ?_
          refine wp_iald rfl rfl (tn_in hr1 (by omega)) ?_
          refine wq_con (x := 1) rfl (by decide) ?_
          refine wq_icne rfl (fun h180 => ?_) (fun h180 => ?_)
          · refine wp_lda rfl tm_m1 ?_
            refine wq_getr (p := 62) rfl rfl (f := 28) rfl rfl ?_
            refine wp_ldi rfl tm_m0 ?_
            refine wp_iald rfl rfl (tn_in hr1 (by omega)) ?_
            refine wq_con (x := 2) rfl (by decide) ?_
            refine wq_icne rfl (fun h195 => ?_) (fun h195 => ?_)
            · refine wq_con (x := 117) rfl (by decide) ?_
              exact k205 _ _ (by omega) (th_ou_mo h6 (by omega))
            · refine wq_con (x := 114) rfl (by decide) ?_
              refine wp_go rfl ?_
              exact k205 _ _ (by omega) (th_ou_mo h6 (by omega))
          · refine wq_con (x := 105) rfl (by decide) ?_
            refine wp_go rfl ?_
            exact k205 _ _ (by omega) (th_ou_mo h6 (by omega))
        · refine wq_con (x := 112) rfl (by decide) ?_
          refine wp_go rfl ?_
          exact k205 _ _ (by omega) (th_ou_mo h6 (by omega))
  have k12 : ∀ (m : Nat) (r : Int32) (s : tm_S), th_ou v σ (46 * r.toInt) s → 0 ≤ r.toInt → 6 ≤ r.toInt + m → r.toInt ≤ 6 → WP (d + 2) 228 12 [(1, .int r), (0, .ref 11)] [] s (fun r σ' => (∃ z : Int32, r = some (.int z)) ∧ tv_TY (tc_T v) σ' ∧ tv_un σ σ' [(11, 0), (11, 34), (66, 64)]) := by
    intro m
    induction m with
    | zero =>
      intro r s h hr1 hr2 hr3
      have gv : 0 ≤ (s.1 11 23).toInt ∧ (s.1 11 23).toInt ≤ 6 := h.1.1 11 23
      refine wp_ldi rfl tm_m0 ?_
      refine wp_lda rfl tm_m1 ?_
      refine wq_geti rfl rfl (f := 23) rfl rfl (Or.inl rfl) ?_
      refine wq_icge rfl (fun h17 => ?_) (fun h17 => absurd (tn_leI.mpr (by omega)) h17)
      refine wq_con (x := 0) rfl (by decide) ?_
      refine wq_sti [(1, .int 0), (0, .ref 11)] rfl rfl ?_
      exact WP.less (k105 8 0 _ (th_ou_mo h (by show 46 * r.toInt ≤ 276 + 21 * 0; omega)) (by decide) (by decide) (by decide)) (by simp)
    | succ m ih =>
      intro r s h hr1 hr2 hr3
      have gv : 0 ≤ (s.1 11 23).toInt ∧ (s.1 11 23).toInt ≤ 6 := h.1.1 11 23
      have er := tn_add1 (x := r) (by omega)
      have k56 : ∀ (m2 : Nat) (i : Int32) (s : tm_S), r.toInt ≤ 5 → th_ou v σ (46 * r.toInt + 8 + 3 * i.toInt) s → 0 ≤ i.toInt → v ≤ i.toInt + m2 → i.toInt ≤ v → WP (d + 2) 228 56 [(2, .int i), (1, .int r), (0, .ref 11)] [] s (fun r σ' => (∃ z : Int32, r = some (.int z)) ∧ tv_TY (tc_T v) σ' ∧ tv_un σ σ' [(11, 0), (11, 34), (66, 64)]) := by
        intro m2
        induction m2 with
        | zero =>
          intro i s hr h hi1 hi2 hi3
          have gn : v ≤ (s.1 11 1).toInt ∧ (s.1 11 1).toInt ≤ v := h.1.1 11 1
          refine wp_ldi rfl tm_m0 ?_
          refine wp_lda rfl tm_m2 ?_
          refine wq_geti rfl rfl (f := 1) rfl rfl (Or.inl rfl) ?_
          refine wq_icge rfl (fun h61 => ?_) (fun h61 => absurd (tn_leI.mpr (by omega)) h61)
          refine wp_lda rfl tm_m2 ?_
          refine wq_con (x := 59) rfl (by decide) ?_
          refine wq_calv [.int 59] rfl rfl rfl rfl rfl rfl rfl rfl rfl (th_say h (by omega)) ?_
          rintro _ s1 ⟨rfl, h1⟩
          refine wp_lda rfl tm_m2 ?_
          refine wq_con (x := 10) rfl (by decide) ?_
          refine wq_calv [.int 10] rfl rfl rfl rfl rfl rfl rfl rfl rfl (th_say h1 (by omega)) ?_
          rintro _ s2 ⟨rfl, h2⟩
          refine wq_inc (c := 1) [(1, .int (r + 1)), (2, .int i), (0, .ref 11)] rfl tm_m1 rfl rfl ?_
          refine wp_go rfl ?_
          exact WP.less (ih (r + 1) _ (th_ou_mo h2 (by omega)) (by omega) (by omega) (by omega)) (by simp)
        | succ m2 ih2 =>
          intro i s hr h hi1 hi2 hi3
          have gn : v ≤ (s.1 11 1).toInt ∧ (s.1 11 1).toInt ≤ v := h.1.1 11 1
          have ei := tn_add1 (x := i) (by omega)
          have e12 : (12 * r).toInt = 12 * r.toInt := by rw [tn_mul (by show -2147483648 ≤ 12 * r.toInt; omega) (by show 12 * r.toInt ≤ 2147483647; omega)]; rfl
          have e13 : (12 * r + i).toInt = 12 * r.toInt + i.toInt := by rw [tn_add (by omega) (by omega), e12]
          refine wp_ldi rfl tm_m0 ?_
          refine wp_lda rfl tm_m2 ?_
          refine wq_geti rfl rfl (f := 1) rfl rfl (Or.inl rfl) ?_
          refine wq_icge rfl (fun h61 => ?_) (fun h61 => ?_)
          · refine wp_lda rfl tm_m2 ?_
            refine wq_con (x := 59) rfl (by decide) ?_
            refine wq_calv [.int 59] rfl rfl rfl rfl rfl rfl rfl rfl rfl (th_say h (by omega)) ?_
            rintro _ s1 ⟨rfl, h1⟩
            refine wp_lda rfl tm_m2 ?_
            refine wq_con (x := 10) rfl (by decide) ?_
            refine wq_calv [.int 10] rfl rfl rfl rfl rfl rfl rfl rfl rfl (th_say h1 (by omega)) ?_
            rintro _ s2 ⟨rfl, h2⟩
            refine wq_inc (c := 1) [(1, .int (r + 1)), (2, .int i), (0, .ref 11)] rfl tm_m1 rfl rfl ?_
            refine wp_go rfl ?_
            exact WP.less (ih (r + 1) _ (th_ou_mo h2 (by omega)) (by omega) (by omega) (by omega)) (by simp)
          · have e61 : i.toInt < (s.1 11 1).toInt := by rw [tn_leI] at h61; omega
            refine wp_lda rfl tm_m2 ?_
            refine wp_lda rfl tm_m2 ?_
            refine wq_getr (p := 60) rfl rfl (f := 25) rfl rfl ?_
            refine wq_con (x := 12) rfl (by decide) ?_
            refine wp_ldi rfl tm_m1 ?_
            refine wq_imul rfl ?_
            refine wp_ldi rfl tm_m0 ?_
            refine wq_iadd rfl ?_
            refine wp_iald rfl rfl (tn_in (by omega) (by omega)) ?_
            refine wq_calv [.int (s.1 60 ((12 * r) + i).toNatClampNeg)] rfl rfl rfl rfl rfl rfl rfl rfl rfl (th_sayN h (by omega)) ?_
            rintro _ s3 ⟨rfl, h3⟩
            refine wq_inc (c := 1) [(2, .int (i + 1)), (1, .int r), (0, .ref 11)] rfl tm_m0 rfl rfl ?_
            refine wp_go rfl ?_
            exact WP.less (ih2 (i + 1) _ hr (th_ou_mo h3 (by omega)) (by omega) (by omega) (by omega)) (by simp)
      refine wp_ldi rfl tm_m0 ?_
      refine wp_lda rfl tm_m1 ?_
      refine wq_geti rfl rfl (f := 23) rfl rfl (Or.inl rfl) ?_
      refine wq_icge rfl (fun h17 => ?_) (fun h17 => ?_)
      · refine wq_con (x := 0) rfl (by decide) ?_
        refine wq_sti [(1, .int 0), (0, .ref 11)] rfl rfl ?_
        exact WP.less (k105 8 0 _ (th_ou_mo h (by show 46 * r.toInt ≤ 276 + 21 * 0; omega)) (by decide) (by decide) (by decide)) (by simp)
      · have e17 : r.toInt < (s.1 11 23).toInt := by rw [tn_leI] at h17; omega
        refine wp_lda rfl tm_m1 ?_
        refine wq_con (x := 114) rfl (by decide) ?_
        refine wq_calv [.int 114] rfl rfl rfl rfl rfl rfl rfl rfl rfl (th_say h (by omega)) ?_
        rintro _ s1 ⟨rfl, h1⟩
        refine wp_lda rfl tm_m1 ?_
        refine wq_con (x := 111) rfl (by decide) ?_
        refine wq_calv [.int 111] rfl rfl rfl rfl rfl rfl rfl rfl rfl (th_say h1 (by omega)) ?_
        rintro _ s2 ⟨rfl, h2⟩
        refine wp_lda rfl tm_m1 ?_
        refine wq_con (x := 119) rfl (by decide) ?_
        refine wq_calv [.int 119] rfl rfl rfl rfl rfl rfl rfl rfl rfl (th_sayL h2 (by omega)) ?_
        rintro _ s3 ⟨rfl, h3⟩
        refine wp_lda rfl tm_m1 ?_
        refine wp_lda rfl tm_m1 ?_
        refine wq_getr (p := 59) rfl rfl (f := 24) rfl rfl ?_
        refine wp_ldi rfl tm_m0 ?_
        refine wp_iald rfl rfl (tn_in hr1 (by omega)) ?_
        refine wq_calv [.int (s3.1 59 r.toNatClampNeg)] rfl rfl rfl rfl rfl rfl rfl rfl rfl (th_sayL h3 (by omega)) ?_
        rintro _ s4 ⟨rfl, h4⟩
        refine wp_lda rfl tm_m1 ?_
        refine wq_con (x := 61) rfl (by decide) ?_
        refine wq_calv [.int 61] rfl rfl rfl rfl rfl rfl rfl rfl rfl (th_sayL h4 (by omega)) ?_
        rintro _ s5 ⟨rfl, h5⟩
        refine wq_con (x := 0) rfl (by decide) ?_
        refine wq_sti [(2, .int 0), (1, .int r), (0, .ref 11)] rfl rfl ?_
        exact WP.less (k56 12 0 _ (by omega) (th_ou_mo h5 (by show _ ≤ 46 * r.toInt + 8 + 3 * (0 : Int); omega)) (by decide) (by show v ≤ (0 : Int) + 12; omega) (by show (0 : Int) ≤ v; omega)) (by simp)
  show WP (d + 2) 228 0 [(0, .ref 11)] [] σ _
  refine wp_lda rfl tm_m0 ?_
  refine wq_con (x := 0) rfl (by decide) ?_
  refine wq_puti rfl rfl (f := 0) rfl rfl ?_
  refine wp_lda rfl tm_m0 ?_
  refine wq_con (x := 0) rfl (by decide) ?_
  refine wq_puti rfl rfl (f := 34) rfl rfl ?_
  refine wq_con (x := 0) rfl (by decide) ?_
  refine wq_sti [(1, .int 0), (0, .ref 11)] rfl rfl ?_
  exact WP.less (k12 6 0 _ ⟨tv_TY_sI (tv_TY_sI hT tv_z0 tv_z1) tv_zz (by show (0 : Int) ≤ 1000; decide), tv_un_tr (tv_un_fI rfl) (tv_un_fI rfl), by rw [tm_gI, if_pos ⟨rfl, rfl⟩]; decide⟩ (by decide) (by decide) (by decide)) (by simp)
