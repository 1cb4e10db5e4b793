/-! ===== about and load: what they leave alone ===== -/
set_option maxRecDepth 100000 in
set_option maxHeartbeats 4000000 in
theorem th_xabout2 {n : Nat} {s wh : Int32} {σ : tm_S} (hfli : tv_Snd (tc_T (n : Int)) tz_fli) (hifl : tv_Snd (tc_T (n : Int)) tz_ifl) (h : th_IV n σ) : WM 46 61 [.ref 0, .int s, .int wh] σ (fun r s => th_Qd n r s ∧ tv_un σ s []) := by
  obtain ⟨h3, hn, hT, hS⟩ := h
  have hN0 := th_N0 hT hn
  have eN : (nI n).toInt = n := nI_toInt (by omega)
  show WP 46 61 0 [(0, .ref 0), (1, .int s), (2, .int wh)] [] σ _
  refine wp_lda rfl tm_m0 ?_
  refine wp_ldi rfl tm_m1 ?_
  refine wq_calv [.int s] rfl rfl rfl rfl rfl rfl rfl rfl rfl (th_hasr) ?_
  rintro r2 _ ⟨hr2, rfl⟩
  obtain ⟨z2, rfl, hz2⟩ : ∃ z : Int32, r2 = some (.int z) ∧ (¬ z = 0 → 0 ≤ s.toInt ∧ s.toInt < 6) := by
    rcases hr2 with ⟨rfl, g1, g2, -⟩ | rfl
    · exact ⟨_, rfl, fun _ => ⟨g1, g2⟩⟩
    · exact ⟨_, rfl, fun e => absurd rfl e⟩
  refine wq_ifne rfl (fun h5 => ?_) (fun h5 => ?_)
  · refine wp_lda rfl tm_m0 ?_
    refine wq_getr (p := 1) rfl rfl (f := 0) rfl rfl ?_
    refine wq_calv [] rfl rfl rfl rfl rfl rfl rfl rfl rfl (th_size) ?_
    rintro _ _ ⟨rfl, rfl⟩
    rw [hN0]
    refine wq_sti [(3, .int (nI n)), (0, .ref 0), (1, .int s), (2, .int wh)] rfl rfl ?_
    refine wp_ldi rfl tm_m3 ?_
    refine wp_sw rfl ?_
    rcases (by omega : wh.toInt = 0 ∨ wh.toInt = 1 ∨ wh.toInt = 2 ∨ (¬ wh.toInt = 0 ∧ ¬ wh.toInt = 1 ∧ ¬ wh.toInt = 2)) with e | e | e | ⟨e, e1, e2⟩
    · show WP 46 61 (tb_sw [(0, 44), (1, 55), (2, 74)] 102 wh.toInt) _ _ _ _
      rw [show tb_sw [(0, 44), (1, 55), (2, 74)] 102 wh.toInt = 44 from by rw [e]; rfl]
      refine wp_lda rfl tm_m1 ?_
      refine wq_getr (p := 12) rfl rfl (f := 5) rfl rfl ?_
      refine wp_ldi rfl tm_m2 ?_
      refine wp_lald rfl rfl (tn_in (hz2 h5).1 (hz2 h5).2) ?_
      refine wp_ldi rfl tm_m0 ?_
      refine wq_cals [.long (σ.2.1 12 s.toNatClampNeg), .int (nI n)] rfl rfl rfl rfl rfl rfl (WM.deep (hfli [.long (σ.2.1 12 s.toNatClampNeg), .int (nI n)] σ ⟨⟨_, rfl⟩, ⟨_, rfl, by rw [eN]; omega, by rw [eN]; omega⟩, trivial⟩ hT) (by decide)) ?_
      rintro r51 σ1 hq51
      obtain ⟨T1, u1, hz51⟩ := tq_fli hq51
      obtain ⟨z51, rfl⟩ : ∃ z : Int32, r51 = some (.int z) := by
        obtain ⟨z, e, -⟩ := hz51
        exact ⟨z, e⟩
      exact wp_reti rfl (th_nI rfl) ⟨⟨⟨_, rfl⟩, h3, hn, T1, th_SLu hT hS u1 (by decide)⟩, u1⟩
    · show WP 46 61 (tb_sw [(0, 44), (1, 55), (2, 74)] 102 wh.toInt) _ _ _ _
      rw [show tb_sw [(0, 44), (1, 55), (2, 74)] 102 wh.toInt = 55 from by rw [e]; rfl]
      refine wp_lda rfl tm_m1 ?_
      refine wq_getr (p := 12) rfl rfl (f := 5) rfl rfl ?_
      refine wp_ldi rfl tm_m2 ?_
      refine wp_lald rfl rfl (tn_in (hz2 h5).1 (hz2 h5).2) ?_
      refine wp_ldi rfl tm_m0 ?_
      refine wq_cals [.long (σ.2.1 12 s.toNatClampNeg), .int (nI n)] rfl rfl rfl rfl rfl rfl (WM.deep (hifl [.long (σ.2.1 12 s.toNatClampNeg), .int (nI n)] σ ⟨⟨_, rfl⟩, ⟨_, rfl, by rw [eN]; omega, by rw [eN]; omega⟩, trivial⟩ hT) (by decide)) ?_
      rintro r62 σ1 hq62
      obtain ⟨T1, u1, hz62⟩ := tq_ifl hq62
      obtain ⟨z62, rfl⟩ : ∃ z : Int32, r62 = some (.int z) := by
        rcases hz62 with ⟨z, e, -⟩ | ⟨z, e, -⟩ <;> exact ⟨z, e⟩
      refine wq_ifeq rfl (fun h65 => ?_) (fun h65 => ?_)
      · refine wq_con (x := 0) rfl (by decide) ?_
        exact wp_reti rfl (th_nI rfl) ⟨⟨⟨_, rfl⟩, h3, hn, T1, th_SLu hT hS u1 (by decide)⟩, u1⟩
      · refine wq_con (x := 1) rfl (by decide) ?_
        refine wp_go rfl ?_
        exact wp_reti rfl (th_nI rfl) ⟨⟨⟨_, rfl⟩, h3, hn, T1, th_SLu hT hS u1 (by decide)⟩, u1⟩
    · show WP 46 61 (tb_sw [(0, 44), (1, 55), (2, 74)] 102 wh.toInt) _ _ _ _
      rw [show tb_sw [(0, 44), (1, 55), (2, 74)] 102 wh.toInt = 74 from by rw [e]; rfl]
      refine wp_lda rfl tm_m1 ?_
      refine wq_getr (p := 12) rfl rfl (f := 5) rfl rfl ?_
      refine wp_ldi rfl tm_m2 ?_
      refine wp_lald rfl rfl (tn_in (hz2 h5).1 (hz2 h5).2) ?_
      refine wp_ldi rfl tm_m0 ?_
      refine wq_cals [.long (σ.2.1 12 s.toNatClampNeg), .int (nI n)] rfl rfl rfl rfl rfl rfl (WM.deep (hfli [.long (σ.2.1 12 s.toNatClampNeg), .int (nI n)] σ ⟨⟨_, rfl⟩, ⟨_, rfl, by rw [eN]; omega, by rw [eN]; omega⟩, trivial⟩ hT) (by decide)) ?_
      rintro r81 σ1 hq81
      obtain ⟨T1, u1, hz81⟩ := tq_fli hq81
      obtain ⟨z81, rfl⟩ : ∃ z : Int32, r81 = some (.int z) := by
        obtain ⟨z, e, -⟩ := hz81
        exact ⟨z, e⟩
      refine wq_sti [(4, .int z81), (3, .int (nI n)), (0, .ref 0), (1, .int s), (2, .int wh)] rfl rfl ?_
      refine wp_ldi rfl tm_m0 ?_
      refine wq_ifne rfl (fun h88 => ?_) (fun h88 => ?_)
      · refine wq_con (x := 4) rfl (by decide) ?_
        refine wp_ldi rfl tm_m1 ?_
        refine wq_imul rfl ?_
        refine wp_ldi rfl tm_m0 ?_
        refine wp_div rfl (h88) ?_
        exact wp_reti rfl (th_nI rfl) ⟨⟨⟨_, rfl⟩, h3, hn, T1, th_SLu hT hS u1 (by decide)⟩, u1⟩
      · refine wq_con (x := (-1)) rfl (by decide) ?_
        refine wp_go rfl ?_
        exact wp_reti rfl (th_nI rfl) ⟨⟨⟨_, rfl⟩, h3, hn, T1, th_SLu hT hS u1 (by decide)⟩, u1⟩
    · show WP 46 61 (tb_sw [(0, 44), (1, 55), (2, 74)] 102 wh.toInt) _ _ _ _
      rw [show tb_sw [(0, 44), (1, 55), (2, 74)] 102 wh.toInt = 102 from by simp [tb_sw, show ¬ (0 : Int) = wh.toInt from fun x => e x.symm, show ¬ (1 : Int) = wh.toInt from fun x => e1 x.symm, show ¬ (2 : Int) = wh.toInt from fun x => e2 x.symm]]
      refine wq_con (x := (-1)) rfl (by decide) ?_
      exact wp_reti rfl (th_nI rfl) ⟨⟨⟨_, rfl⟩, h3, hn, hT, hS⟩, tv_un_rf⟩
  · refine wq_con (x := (-1)) rfl (by decide) ?_
    exact wp_reti rfl (th_nI rfl) ⟨⟨⟨_, rfl⟩, h3, hn, hT, hS⟩, tv_un_rf⟩
set_option maxRecDepth 100000 in
set_option maxHeartbeats 4000000 in
theorem th_xload2 {n : Nat} {σ : tm_S} (hadv : tv_Snd (tc_T (n : Int)) tz_adv) (h : th_IV n σ) : WM 54 97 [.ref 0] σ (fun r s => th_Qd n r s ∧ tv_un σ s [(6, 1), (6, 2), (6, 3), (6, 4), (6, 5), (6, 6), (6, 7), (6, 8), (9, 2), (9, 7), (10, 2), (10, 7), (31, 64), (32, 64), (33, 64), (34, 64), (35, 64), (36, 64), (37, 64), (38, 64), (39, 64), (40, 64), (41, 64), (42, 64), (7, 1), (0, 8)]) := by
  obtain ⟨h3, hn, hT, hS⟩ := h
  have hN0 := th_N0 hT hn
  have hm := th_made hT
  have hne := hS.2.2.2
  have hc := th_cur hT
  show WP 54 97 0 [(0, .ref 0)] [] σ _
  rcases hm with hm | hm
  · have hc2 : σ.2.2 0 8 = 10 := by omega
    have hC := hS.2.2.1
    rw [hc2] at hC
    have keep : ∀ t : tm_S, th_RD9 n σ t → (t.2.2 0 8 = 10 ∧ th_CS n t 10 ∧ (∀ k : Nat, t.2.1 12 k = -1 ∨ th_dg 12 (t.2.1 12 k)) ∧ ∀ i : Nat, th_dg 12 (t.2.1 24 i)) := by
      intro t R
      have hu := R.2.1
      refine ⟨by rw [tv_un_r hu rfl rfl]; exact hc2, th_CSu10 hC hu rfl rfl rfl rfl rfl, fun k => ?_, fun i => ?_⟩
      · rw [(tv_un_a hu (k := 12) rfl rfl).2]
        exact hS.1 k
      · rw [(tv_un_a hu (k := 24) rfl rfl).2]
        exact hS.2.1 i
    have fin : ∀ (z : Int32) (t : tm_S), (z = 0 ∨ z = 1) → th_RD9 n σ t → WP 54 97 26 [(1, .int z), (0, .ref 0)] [] t (fun r s => th_Qd n r s ∧ tv_un σ s [(6, 1), (6, 2), (6, 3), (6, 4), (6, 5), (6, 6), (6, 7), (6, 8), (9, 2), (9, 7), (10, 2), (10, 7), (31, 64), (32, 64), (33, 64), (34, 64), (35, 64), (36, 64), (37, 64), (38, 64), (39, 64), (40, 64), (41, 64), (42, 64), (7, 1), (0, 8)]) := by
      intro z t hz R
      obtain ⟨k1, k2, k3, k4⟩ := keep t R
      refine wp_ldi rfl tm_m0 ?_
      refine wq_ifne rfl (fun h27 => ?_) (fun h27 => ?_)
      · refine wp_lda rfl tm_m1 ?_
        refine wp_lda rfl tm_m1 ?_
        refine wq_getr (p := 6) rfl rfl (f := 6) rfl rfl ?_
        refine wp_lda rfl tm_m1 ?_
        refine wq_getv rfl rfl (f := 8) rfl rfl ?_
        rw [k1]
        refine wq_calv [.ref 10] rfl rfl rfl rfl rfl rfl rfl rfl rfl (th_exch9 R.2.2.1) ?_
        rintro _ _ ⟨rfl, rfl⟩
        refine wq_putr rfl rfl (f := 8) rfl rfl ?_
        refine wp_lda rfl tm_m1 ?_
        refine wq_getv rfl rfl (f := 8) rfl rfl ?_
        rw [tm_gR, if_pos ⟨rfl, rfl⟩]
        refine wq_calv [] rfl rfl rfl rfl rfl rfl rfl rfl rfl (th_voiceCount9) ?_
        rintro _ _ ⟨rfl, rfl⟩
        refine wp_reti rfl (th_nI rfl) ⟨⟨⟨_, rfl⟩, h3, hn, tv_TY_lnk (tv_TY_lnk R.1 (Or.inr ⟨rfl, rfl⟩) (by decide) (by decide)) (Or.inl ⟨rfl, rfl⟩) (by decide) (by decide), k3, k4, ?_, ?_⟩, tv_un_tr (tv_un_tr (tv_un_mo R.2.1 (by decide)) (tv_un_fR rfl)) (tv_un_fR rfl)⟩
        · rw [tm_gR, if_pos ⟨rfl, rfl⟩]
          exact R.2.2.2.2
        · rw [tm_gR, if_neg (fun e => absurd e.1 (by decide)), tm_gR, if_pos ⟨rfl, rfl⟩, tm_gR, if_pos ⟨rfl, rfl⟩]
          decide
      · refine wq_con (x := (-1)) rfl (by decide) ?_
        exact wp_reti rfl (th_nI rfl) ⟨⟨⟨_, rfl⟩, h3, hn, R.1, k3, k4, by rw [k1]; exact k2, by rw [k1, R.2.2.1]; decide⟩, tv_un_mo R.2.1 (by decide)⟩
    have fin2 : ∀ (z : Int32) (t : tm_S), (z = 0 ∨ z = 1) → th_RD9 n σ t → WP 54 97 26 [(1, .int z), (0, .ref 0)] [] (tm_sI t 7 1 0) (fun r s => th_Qd n r s ∧ tv_un σ s [(6, 1), (6, 2), (6, 3), (6, 4), (6, 5), (6, 6), (6, 7), (6, 8), (9, 2), (9, 7), (10, 2), (10, 7), (31, 64), (32, 64), (33, 64), (34, 64), (35, 64), (36, 64), (37, 64), (38, 64), (39, 64), (40, 64), (41, 64), (42, 64), (7, 1), (0, 8)]) := by
      intro z t hz R
      obtain ⟨k1, k2, k3, k4⟩ := keep t R
      have T2 : tv_TY (tc_T (n : Int)) (tm_sI t 7 1 0) := tv_TY_sI R.1 (by show (0 : Int) ≤ (0 : Int32).toInt; decide) (by show (0 : Int32).toInt ≤ (800 : Int); decide)
      have u2 : tv_un t (tm_sI t 7 1 0) [(7, 1)] := tv_un_fI rfl
      have CQ : th_CS n (tm_sI t 7 1 0) 10 := th_CSu10 k2 u2 rfl rfl rfl rfl rfl
      have CP : th_CS n (tm_sI t 7 1 0) 9 := th_CSu9 R.2.2.2.2 u2 rfl rfl rfl rfl rfl
      refine wp_ldi rfl tm_m0 ?_
      refine wq_ifne rfl (fun h27 => ?_) (fun h27 => ?_)
      · refine wp_lda rfl tm_m1 ?_
        refine wp_lda rfl tm_m1 ?_
        refine wq_getr (p := 6) rfl rfl (f := 6) rfl rfl ?_
        refine wp_lda rfl tm_m1 ?_
        refine wq_getv rfl rfl (f := 8) rfl rfl ?_
        rw [show (tm_sI t 7 1 0).2.2 0 8 = 10 from k1]
        refine wq_calv [.ref 10] rfl rfl rfl rfl rfl rfl rfl rfl rfl (th_exch9 (s := tm_sI t 7 1 0) R.2.2.1) ?_
        rintro _ _ ⟨rfl, rfl⟩
        refine wq_putr rfl rfl (f := 8) rfl rfl ?_
        refine wp_lda rfl tm_m1 ?_
        refine wq_getv rfl rfl (f := 8) rfl rfl ?_
        rw [tm_gR, if_pos ⟨rfl, rfl⟩]
        refine wq_calv [] rfl rfl rfl rfl rfl rfl rfl rfl rfl (th_voiceCount9) ?_
        rintro _ _ ⟨rfl, rfl⟩
        refine wp_reti rfl (th_nI rfl) ⟨⟨⟨_, rfl⟩, h3, hn, tv_TY_lnk (tv_TY_lnk T2 (Or.inr ⟨rfl, rfl⟩) (by decide) (by decide)) (Or.inl ⟨rfl, rfl⟩) (by decide) (by decide), k3, k4, ?_, ?_⟩, tv_un_tr (tv_un_tr (tv_un_tr (tv_un_mo R.2.1 (by decide)) (tv_un_fI rfl)) (tv_un_fR rfl)) (tv_un_fR rfl)⟩
        · rw [tm_gR, if_pos ⟨rfl, rfl⟩]
          exact CP
        · rw [tm_gR, if_neg (fun e => absurd e.1 (by decide)), tm_gR, if_pos ⟨rfl, rfl⟩, tm_gR, if_pos ⟨rfl, rfl⟩]
          decide
      · refine wq_con (x := (-1)) rfl (by decide) ?_
        exact wp_reti rfl (th_nI rfl) ⟨⟨⟨_, rfl⟩, h3, hn, T2, k3, k4, by rw [show (tm_sI t 7 1 0).2.2 0 8 = 10 from k1]; exact CQ, by rw [show (tm_sI t 7 1 0).2.2 0 8 = 10 from k1, show (tm_sI t 7 1 0).2.2 6 1 = 9 from R.2.2.1]; decide⟩, tv_un_tr (tv_un_mo R.2.1 (by decide)) (tv_un_fI rfl)⟩
    refine wp_lda rfl tm_m0 ?_
    refine wq_getr (p := 6) rfl rfl (f := 6) rfl rfl ?_
    refine wp_lda rfl tm_m0 ?_
    refine wq_getr (p := 1) rfl rfl (f := 0) rfl rfl ?_
    refine wq_calv [] rfl rfl rfl rfl rfl rfl rfl rfl rfl (th_size) ?_
    rintro _ _ ⟨rfl, rfl⟩
    rw [hN0]
    refine wq_calv [.int (nI n)] rfl rfl rfl rfl rfl rfl rfl rfl rfl (th_xread9 hn h3 hadv hT hm) ?_
    rintro r11 t ⟨R, hr11⟩
    obtain ⟨z11, rfl, hz11⟩ : ∃ z : Int32, r11 = some (.int z) ∧ (z = 0 ∨ z = 1) := by
      rcases hr11 with rfl | rfl
      · exact ⟨_, rfl, Or.inl rfl⟩
      · exact ⟨_, rfl, Or.inr rfl⟩
    refine wq_sti [(1, .int z11), (0, .ref 0)] rfl rfl ?_
    refine wp_lda rfl tm_m1 ?_
    refine wq_getr (p := 6) rfl rfl (f := 6) rfl rfl ?_
    refine wq_calv [] rfl rfl rfl rfl rfl rfl rfl rfl rfl (th_tape) ?_
    rintro _ _ ⟨rfl, rfl⟩
    refine wq_con (x := 0) rfl (by decide) ?_
    refine wq_calv [.int 0] rfl rfl rfl rfl rfl rfl rfl rfl rfl (th_cut0) ?_
    rintro _ t2 ⟨rfl, ht2⟩
    have R2 : th_RD9 n σ t2 ∨ True := Or.inr trivial
    rcases ht2 with rfl | rfl
    · exact fin z11 _ hz11 R
    · exact fin2 z11 t hz11 R
  · have hc2 : σ.2.2 0 8 = 9 := by omega
    have hC := hS.2.2.1
    rw [hc2] at hC
    have keep : ∀ t : tm_S, th_RD10 n σ t → (t.2.2 0 8 = 9 ∧ th_CS n t 9 ∧ (∀ k : Nat, t.2.1 12 k = -1 ∨ th_dg 12 (t.2.1 12 k)) ∧ ∀ i : Nat, th_dg 12 (t.2.1 24 i)) := by
      intro t R
      have hu := R.2.1
      refine ⟨by rw [tv_un_r hu rfl rfl]; exact hc2, th_CSu9 hC hu rfl rfl rfl rfl rfl, fun k => ?_, fun i => ?_⟩
      · rw [(tv_un_a hu (k := 12) rfl rfl).2]
        exact hS.1 k
      · rw [(tv_un_a hu (k := 24) rfl rfl).2]
        exact hS.2.1 i
    have fin : ∀ (z : Int32) (t : tm_S), (z = 0 ∨ z = 1) → th_RD10 n σ t → WP 54 97 26 [(1, .int z), (0, .ref 0)] [] t (fun r s => th_Qd n r s ∧ tv_un σ s [(6, 1), (6, 2), (6, 3), (6, 4), (6, 5), (6, 6), (6, 7), (6, 8), (9, 2), (9, 7), (10, 2), (10, 7), (31, 64), (32, 64), (33, 64), (34, 64), (35, 64), (36, 64), (37, 64), (38, 64), (39, 64), (40, 64), (41, 64), (42, 64), (7, 1), (0, 8)]) := by
      intro z t hz R
      obtain ⟨k1, k2, k3, k4⟩ := keep t R
      refine wp_ldi rfl tm_m0 ?_
      refine wq_ifne rfl (fun h27 => ?_) (fun h27 => ?_)
      · refine wp_lda rfl tm_m1 ?_
        refine wp_lda rfl tm_m1 ?_
        refine wq_getr (p := 6) rfl rfl (f := 6) rfl rfl ?_
        refine wp_lda rfl tm_m1 ?_
        refine wq_getv rfl rfl (f := 8) rfl rfl ?_
        rw [k1]
        refine wq_calv [.ref 9] rfl rfl rfl rfl rfl rfl rfl rfl rfl (th_exch10 R.2.2.1) ?_
        rintro _ _ ⟨rfl, rfl⟩
        refine wq_putr rfl rfl (f := 8) rfl rfl ?_
        refine wp_lda rfl tm_m1 ?_
        refine wq_getv rfl rfl (f := 8) rfl rfl ?_
        rw [tm_gR, if_pos ⟨rfl, rfl⟩]
        refine wq_calv [] rfl rfl rfl rfl rfl rfl rfl rfl rfl (th_voiceCount10) ?_
        rintro _ _ ⟨rfl, rfl⟩
        refine wp_reti rfl (th_nI rfl) ⟨⟨⟨_, rfl⟩, h3, hn, tv_TY_lnk (tv_TY_lnk R.1 (Or.inr ⟨rfl, rfl⟩) (by decide) (by decide)) (Or.inl ⟨rfl, rfl⟩) (by decide) (by decide), k3, k4, ?_, ?_⟩, tv_un_tr (tv_un_tr (tv_un_mo R.2.1 (by decide)) (tv_un_fR rfl)) (tv_un_fR rfl)⟩
        · rw [tm_gR, if_pos ⟨rfl, rfl⟩]
          exact R.2.2.2.2
        · rw [tm_gR, if_neg (fun e => absurd e.1 (by decide)), tm_gR, if_pos ⟨rfl, rfl⟩, tm_gR, if_pos ⟨rfl, rfl⟩]
          decide
      · refine wq_con (x := (-1)) rfl (by decide) ?_
        exact wp_reti rfl (th_nI rfl) ⟨⟨⟨_, rfl⟩, h3, hn, R.1, k3, k4, by rw [k1]; exact k2, by rw [k1, R.2.2.1]; decide⟩, tv_un_mo R.2.1 (by decide)⟩
    have fin2 : ∀ (z : Int32) (t : tm_S), (z = 0 ∨ z = 1) → th_RD10 n σ t → WP 54 97 26 [(1, .int z), (0, .ref 0)] [] (tm_sI t 7 1 0) (fun r s => th_Qd n r s ∧ tv_un σ s [(6, 1), (6, 2), (6, 3), (6, 4), (6, 5), (6, 6), (6, 7), (6, 8), (9, 2), (9, 7), (10, 2), (10, 7), (31, 64), (32, 64), (33, 64), (34, 64), (35, 64), (36, 64), (37, 64), (38, 64), (39, 64), (40, 64), (41, 64), (42, 64), (7, 1), (0, 8)]) := by
      intro z t hz R
      obtain ⟨k1, k2, k3, k4⟩ := keep t R
      have T2 : tv_TY (tc_T (n : Int)) (tm_sI t 7 1 0) := tv_TY_sI R.1 (by show (0 : Int) ≤ (0 : Int32).toInt; decide) (by show (0 : Int32).toInt ≤ (800 : Int); decide)
      have u2 : tv_un t (tm_sI t 7 1 0) [(7, 1)] := tv_un_fI rfl
      have CQ : th_CS n (tm_sI t 7 1 0) 9 := th_CSu9 k2 u2 rfl rfl rfl rfl rfl
      have CP : th_CS n (tm_sI t 7 1 0) 10 := th_CSu10 R.2.2.2.2 u2 rfl rfl rfl rfl rfl
      refine wp_ldi rfl tm_m0 ?_
      refine wq_ifne rfl (fun h27 => ?_) (fun h27 => ?_)
      · refine wp_lda rfl tm_m1 ?_
        refine wp_lda rfl tm_m1 ?_
        refine wq_getr (p := 6) rfl rfl (f := 6) rfl rfl ?_
        refine wp_lda rfl tm_m1 ?_
        refine wq_getv rfl rfl (f := 8) rfl rfl ?_
        rw [show (tm_sI t 7 1 0).2.2 0 8 = 9 from k1]
        refine wq_calv [.ref 9] rfl rfl rfl rfl rfl rfl rfl rfl rfl (th_exch10 (s := tm_sI t 7 1 0) R.2.2.1) ?_
        rintro _ _ ⟨rfl, rfl⟩
        refine wq_putr rfl rfl (f := 8) rfl rfl ?_
        refine wp_lda rfl tm_m1 ?_
        refine wq_getv rfl rfl (f := 8) rfl rfl ?_
        rw [tm_gR, if_pos ⟨rfl, rfl⟩]
        refine wq_calv [] rfl rfl rfl rfl rfl rfl rfl rfl rfl (th_voiceCount10) ?_
        rintro _ _ ⟨rfl, rfl⟩
        refine wp_reti rfl (th_nI rfl) ⟨⟨⟨_, rfl⟩, h3, hn, tv_TY_lnk (tv_TY_lnk T2 (Or.inr ⟨rfl, rfl⟩) (by decide) (by decide)) (Or.inl ⟨rfl, rfl⟩) (by decide) (by decide), k3, k4, ?_, ?_⟩, tv_un_tr (tv_un_tr (tv_un_tr (tv_un_mo R.2.1 (by decide)) (tv_un_fI rfl)) (tv_un_fR rfl)) (tv_un_fR rfl)⟩
        · rw [tm_gR, if_pos ⟨rfl, rfl⟩]
          exact CP
        · rw [tm_gR, if_neg (fun e => absurd e.1 (by decide)), tm_gR, if_pos ⟨rfl, rfl⟩, tm_gR, if_pos ⟨rfl, rfl⟩]
          decide
      · refine wq_con (x := (-1)) rfl (by decide) ?_
        exact wp_reti rfl (th_nI rfl) ⟨⟨⟨_, rfl⟩, h3, hn, T2, k3, k4, by rw [show (tm_sI t 7 1 0).2.2 0 8 = 9 from k1]; exact CQ, by rw [show (tm_sI t 7 1 0).2.2 0 8 = 9 from k1, show (tm_sI t 7 1 0).2.2 6 1 = 10 from R.2.2.1]; decide⟩, tv_un_tr (tv_un_mo R.2.1 (by decide)) (tv_un_fI rfl)⟩
    refine wp_lda rfl tm_m0 ?_
    refine wq_getr (p := 6) rfl rfl (f := 6) rfl rfl ?_
    refine wp_lda rfl tm_m0 ?_
    refine wq_getr (p := 1) rfl rfl (f := 0) rfl rfl ?_
    refine wq_calv [] rfl rfl rfl rfl rfl rfl rfl rfl rfl (th_size) ?_
    rintro _ _ ⟨rfl, rfl⟩
    rw [hN0]
    refine wq_calv [.int (nI n)] rfl rfl rfl rfl rfl rfl rfl rfl rfl (th_xread10 hn h3 hadv hT hm) ?_
    rintro r11 t ⟨R, hr11⟩
    obtain ⟨z11, rfl, hz11⟩ : ∃ z : Int32, r11 = some (.int z) ∧ (z = 0 ∨ z = 1) := by
      rcases hr11 with rfl | rfl
      · exact ⟨_, rfl, Or.inl rfl⟩
      · exact ⟨_, rfl, Or.inr rfl⟩
    refine wq_sti [(1, .int z11), (0, .ref 0)] rfl rfl ?_
    refine wp_lda rfl tm_m1 ?_
    refine wq_getr (p := 6) rfl rfl (f := 6) rfl rfl ?_
    refine wq_calv [] rfl rfl rfl rfl rfl rfl rfl rfl rfl (th_tape) ?_
    rintro _ _ ⟨rfl, rfl⟩
    refine wq_con (x := 0) rfl (by decide) ?_
    refine wq_calv [.int 0] rfl rfl rfl rfl rfl rfl rfl rfl rfl (th_cut0) ?_
    rintro _ t2 ⟨rfl, ht2⟩
    have R2 : th_RD10 n σ t2 ∨ True := Or.inr trivial
    rcases ht2 with rfl | rfl
    · exact fin z11 _ hz11 R
    · exact fin2 z11 t hz11 R
