/-! ===== what stands beside the types, over calls ===== -/
def th_gd : List (Nat × Nat) := [(12, 64), (24, 64), (9, 2), (9, 7), (10, 2), (10, 7), (31, 64), (33, 64), (35, 64), (37, 64), (39, 64), (41, 64), (0, 8), (6, 1)]
theorem th_gdm {w : List (Nat × Nat)} {a b : Nat} (hg : th_gd.all (fun q => !(tv_mem w q.1 q.2)) = true) (hm : (a, b) ∈ th_gd) : tv_mem w a b = false := by
  have h := List.all_eq_true.mp hg (a, b) hm
  simpa using h
theorem th_CSu9 {n : Nat} {σ s : tm_S} {w : List (Nat × Nat)} (h : th_CS n σ 9) (hu : tv_un σ s w) (a3 : tv_mem w 9 2 = false) (a4 : tv_mem w 9 7 = false) (a5 : tv_mem w 31 64 = false) (a6 : tv_mem w 33 64 = false) (a7 : tv_mem w 35 64 = false) : th_CS n s 9 := by
  have e3 : s.1 9 2 = σ.1 9 2 := tv_un_i hu rfl a3
  have e4 : s.1 9 7 = σ.1 9 7 := tv_un_i hu rfl a4
  have e5 := (tv_un_a hu (k := 31) rfl a5).2
  have e6 := (tv_un_a hu (k := 33) rfl a6).1
  have e7 := (tv_un_a hu (k := 35) rfl a7).1
  refine ⟨fun r hr => ?_, fun u hu2 => ?_⟩
  · rw [e3] at hr
    have := h.1 r hr
    show ∀ i : Nat, i < n → th_nb (s.2.1 31 r) i < n
    rw [e5]
    exact this
  · rw [e4] at hu2
    have := h.2 u hu2
    show (s.1 33 u).toInt < (s.1 9 2).toInt ∧ 0 ≤ (s.1 35 u).toInt ∧ (s.1 35 u).toInt < n
    rw [e3, e6, e7]
    exact this
theorem th_CSu10 {n : Nat} {σ s : tm_S} {w : List (Nat × Nat)} (h : th_CS n σ 10) (hu : tv_un σ s w) (a3 : tv_mem w 10 2 = false) (a4 : tv_mem w 10 7 = false) (a5 : tv_mem w 37 64 = false) (a6 : tv_mem w 39 64 = false) (a7 : tv_mem w 41 64 = false) : th_CS n s 10 := by
  have e3 : s.1 10 2 = σ.1 10 2 := tv_un_i hu rfl a3
  have e4 : s.1 10 7 = σ.1 10 7 := tv_un_i hu rfl a4
  have e5 := (tv_un_a hu (k := 37) rfl a5).2
  have e6 := (tv_un_a hu (k := 39) rfl a6).1
  have e7 := (tv_un_a hu (k := 41) rfl a7).1
  refine ⟨fun r hr => ?_, fun u hu2 => ?_⟩
  · rw [e3] at hr
    have := h.1 r hr
    show ∀ i : Nat, i < n → th_nb (s.2.1 37 r) i < n
    rw [e5]
    exact this
  · rw [e4] at hu2
    have := h.2 u hu2
    show (s.1 39 u).toInt < (s.1 10 2).toInt ∧ 0 ≤ (s.1 41 u).toInt ∧ (s.1 41 u).toInt < n
    rw [e3, e6, e7]
    exact this
theorem th_SLu {n : Nat} {σ s : tm_S} {w : List (Nat × Nat)} (hT : tv_TY (tc_T (n : Int)) σ) (h : th_SL n σ) (hu : tv_un σ s w) (hg : th_gd.all (fun q => !(tv_mem w q.1 q.2)) = true) : th_SL n s := by
  have c0 : s.2.2 0 8 = σ.2.2 0 8 := tv_un_r hu rfl (th_gdm hg (by decide))
  have c1 : s.2.2 6 1 = σ.2.2 6 1 := tv_un_r hu rfl (th_gdm hg (by decide))
  refine ⟨fun k => ?_, fun i => ?_, ?_, by rw [c0, c1]; exact h.2.2.2⟩
  · rw [(tv_un_a hu (k := 12) rfl (th_gdm hg (by decide))).2]
    exact h.1 k
  · rw [(tv_un_a hu (k := 24) rfl (th_gdm hg (by decide))).2]
    exact h.2.1 i
  · rw [c0]
    rcases th_cur hT with hc | hc
    · have hC := h.2.2.1
      rw [hc] at hC ⊢
      exact th_CSu9 hC hu (th_gdm hg (by decide)) (th_gdm hg (by decide)) (th_gdm hg (by decide)) (th_gdm hg (by decide)) (th_gdm hg (by decide))
    · have hC := h.2.2.1
      rw [hc] at hC ⊢
      exact th_CSu10 hC hu (th_gdm hg (by decide)) (th_gdm hg (by decide)) (th_gdm hg (by decide)) (th_gdm hg (by decide)) (th_gdm hg (by decide))
/-- a slot is set -/
theorem th_SLs {n k : Nat} {r : Int64} {σ : tm_S} (h : th_SL n σ) (hr : th_dg 12 r) : th_SL n (tm_sJ σ 12 k r) := by
  have e : ∀ a : Nat, ¬ a = 12 → (tm_sJ σ 12 k r).2.1 a = σ.2.1 a := fun a ha => if_neg ha
  refine ⟨fun s => ?_, fun i => ?_, ?_, h.2.2.2⟩
  · rw [tm_gJ]
    split
    · exact Or.inr hr
    · exact h.1 s
  · rw [e 24 (by decide)]
    exact h.2.1 i
  · refine ⟨fun q hq => ?_, h.2.2.1.2⟩
    have := h.2.2.1.1 q hq
    rw [e _ (by omega)]
    exact this
/-- full rows were listed -/
theorem th_SLf {n : Nat} {σ s : tm_S} (hT : tv_TY (tc_T (n : Int)) σ) (h : th_SL n σ) (F : th_FR n [(4, 4), (24, 64), (25, 64), (26, 64), (27, 64)] σ s) : th_SL n s := by
  have hu := F.2.1
  have c0 : s.2.2 0 8 = σ.2.2 0 8 := tv_un_r hu rfl rfl
  have c1 : s.2.2 6 1 = σ.2.2 6 1 := tv_un_r hu rfl rfl
  refine ⟨fun k => ?_, F.2.2, ?_, by rw [c0, c1]; exact h.2.2.2⟩
  · rw [(tv_un_a hu (k := 12) rfl rfl).2]
    exact h.1 k
  · rw [c0]
    rcases th_cur hT with hc | hc
    · have hC := h.2.2.1
      rw [hc] at hC ⊢
      exact th_CSu9 hC hu rfl rfl rfl rfl rfl
    · have hC := h.2.2.1
      rw [hc] at hC ⊢
      exact th_CSu10 hC hu rfl rfl rfl rfl rfl
/-- what the law's loop keeps -/
def th_IV (n : Nat) (σ : tm_S) : Prop := 3 ≤ n ∧ n ≤ 12 ∧ tv_TY (tc_T (n : Int)) σ ∧ th_SL n σ
/-- a call's answer is dropped -/
def th_Qd (n : Nat) (r : Option Value) (σ : tm_S) : Prop := (∃ z : Int32, r = some (.int z)) ∧ th_IV n σ
set_option maxRecDepth 100000 in
set_option maxHeartbeats 4000000 in
theorem th_tape {d : Nat} {σ : tm_S} : WM d 91 [.ref 6] σ (th_is (.ref 7) σ) := by
  show WP d 91 0 [(0, .ref 6)] [] σ _
  refine wp_lda rfl tm_m0 ?_
  refine wq_getr (p := 7) rfl rfl (f := 0) rfl rfl ?_
  exact wp_retr rfl ⟨rfl, rfl⟩
set_option maxRecDepth 100000 in
set_option maxHeartbeats 4000000 in
theorem th_cut0 {d : Nat} {σ : tm_S} : WM d 96 [.ref 7, .int 0] σ (fun q s' => q = none ∧ (s' = σ ∨ s' = tm_sI σ 7 1 0)) := by
  show WP d 96 0 [(0, .ref 7), (1, .int 0)] [] σ _
  refine wp_ldi rfl tm_m1 ?_
  refine wq_iflt rfl (fun h1 => ?_) (fun h1 => ?_)
  · exact wp_retv rfl ⟨rfl, Or.inl rfl⟩
  · refine wp_ldi rfl tm_m1 ?_
    refine wp_lda rfl tm_m0 ?_
    refine wq_geti rfl rfl (f := 1) rfl rfl (Or.inl rfl) ?_
    refine wq_icge rfl (fun h9 => ?_) (fun h9 => ?_)
    · exact wp_retv rfl ⟨rfl, Or.inl rfl⟩
    · refine wp_lda rfl tm_m0 ?_
      refine wp_ldi rfl tm_m1 ?_
      refine wq_puti rfl rfl (f := 1) rfl rfl ?_
      exact wp_retv rfl ⟨rfl, Or.inr rfl⟩
set_option maxRecDepth 100000 in
set_option maxHeartbeats 4000000 in
theorem th_exch9 {d : Nat} {s : tm_S} (hm : s.2.2 6 1 = 9) : WM d 130 [.ref 6, .ref 10] s (fun r s' => r = some (.ref 9) ∧ s' = tm_sR s 6 1 10) := by
  show WP d 130 0 [(0, .ref 6), (1, .ref 10)] [] s _
  refine wp_lda rfl tm_m0 ?_
  refine wq_getv rfl rfl (f := 1) rfl rfl ?_
  rw [hm]
  refine wq_sta [(2, .ref 9), (0, .ref 6), (1, .ref 10)] rfl rfl ?_
  refine wp_lda rfl tm_m1 ?_
  refine wp_lda rfl tm_m2 ?_
  refine wq_putr rfl rfl (f := 1) rfl rfl ?_
  refine wp_lda rfl tm_m0 ?_
  exact wp_retr rfl ⟨rfl, rfl⟩
set_option maxRecDepth 100000 in
set_option maxHeartbeats 4000000 in
theorem th_exch10 {d : Nat} {s : tm_S} (hm : s.2.2 6 1 = 10) : WM d 130 [.ref 6, .ref 9] s (fun r s' => r = some (.ref 10) ∧ s' = tm_sR s 6 1 9) := by
  show WP d 130 0 [(0, .ref 6), (1, .ref 9)] [] s _
  refine wp_lda rfl tm_m0 ?_
  refine wq_getv rfl rfl (f := 1) rfl rfl ?_
  rw [hm]
  refine wq_sta [(2, .ref 10), (0, .ref 6), (1, .ref 9)] rfl rfl ?_
  refine wp_lda rfl tm_m1 ?_
  refine wp_lda rfl tm_m2 ?_
  refine wq_putr rfl rfl (f := 1) rfl rfl ?_
  refine wp_lda rfl tm_m0 ?_
  exact wp_retr rfl ⟨rfl, rfl⟩
theorem th_made {T : tv_TT} {σ : tm_S} (hT : tv_TY T σ) : σ.2.2 6 1 = 9 ∨ σ.2.2 6 1 = 10 := by
  have h := hT.2 ((6, 1), 9, 10, true) (by decide)
  change 9 ≤ σ.2.2 6 1 ∧ σ.2.2 6 1 ≤ 10 at h
  omega
/-- a score's link is set -/
theorem tv_TY_lnk {T : tv_TT} {a b x : Nat} {σ : tm_S} (h : tv_TY T σ) (hab : (a = 0 ∧ b = 8) ∨ (a = 6 ∧ b = 1)) (h1 : 9 ≤ x) (h2 : x ≤ 10) : tv_TY T (tm_sR σ a b x) := by
  refine ⟨h.1, fun w hw => ?_⟩
  rw [tm_gR]
  split
  · rename_i e
    have h3 : ∀ w ∈ tv_rt, (w.1.1 = 0 ∧ w.1.2 = 8) ∨ (w.1.1 = 6 ∧ w.1.2 = 1) → w.2.1 = 9 ∧ w.2.2.1 = 10 := by decide
    obtain ⟨e1, e2⟩ := h3 w hw (by rw [e.1, e.2]; exact hab)
    rw [e1, e2]
    exact ⟨h1, h2⟩
  · exact h.2 w hw
set_option maxRecDepth 100000 in
set_option maxHeartbeats 4000000 in
theorem th_xload {n : Nat} {σ : tm_S} (hadv : tv_Snd (tc_T (n : Int)) tz_adv) (h : th_IV n σ) : WM 54 97 [.ref 0] σ (th_Qd n) := by
  obtain ⟨h3, hn, hT, hS⟩ := h
  have hN0 := th_N0 hT hn
  have hm := th_made hT
  have hne := hS.2.2.2
  have hc := th_cur hT
  show WP 54 97 0 [(0, .ref 0)] [] σ _
  rcases hm with hm | hm
  · have hc2 : σ.2.2 0 8 = 10 := by omega
    have hC := hS.2.2.1
    rw [hc2] at hC
    have keep : ∀ t : tm_S, th_RD9 n σ t → (t.2.2 0 8 = 10 ∧ th_CS n t 10 ∧ (∀ k : Nat, t.2.1 12 k = -1 ∨ th_dg 12 (t.2.1 12 k)) ∧ ∀ i : Nat, th_dg 12 (t.2.1 24 i)) := by
      intro t R
      have hu := R.2.1
      refine ⟨by rw [tv_un_r hu rfl rfl]; exact hc2, th_CSu10 hC hu rfl rfl rfl rfl rfl, fun k => ?_, fun i => ?_⟩
      · rw [(tv_un_a hu (k := 12) rfl rfl).2]
        exact hS.1 k
      · rw [(tv_un_a hu (k := 24) rfl rfl).2]
        exact hS.2.1 i
    have fin : ∀ (z : Int32) (t : tm_S), (z = 0 ∨ z = 1) → th_RD9 n σ t → WP 54 97 26 [(1, .int z), (0, .ref 0)] [] t (th_Qd n) := by
      intro z t hz R
      obtain ⟨k1, k2, k3, k4⟩ := keep t R
      refine wp_ldi rfl tm_m0 ?_
      refine wq_ifne rfl (fun h27 => ?_) (fun h27 => ?_)
      · refine wp_lda rfl tm_m1 ?_
        refine wp_lda rfl tm_m1 ?_
        refine wq_getr (p := 6) rfl rfl (f := 6) rfl rfl ?_
        refine wp_lda rfl tm_m1 ?_
        refine wq_getv rfl rfl (f := 8) rfl rfl ?_
        rw [k1]
        refine wq_calv [.ref 10] rfl rfl rfl rfl rfl rfl rfl rfl rfl (th_exch9 R.2.2.1) ?_
        rintro _ _ ⟨rfl, rfl⟩
        refine wq_putr rfl rfl (f := 8) rfl rfl ?_
        refine wp_lda rfl tm_m1 ?_
        refine wq_getv rfl rfl (f := 8) rfl rfl ?_
        rw [tm_gR, if_pos ⟨rfl, rfl⟩]
        refine wq_calv [] rfl rfl rfl rfl rfl rfl rfl rfl rfl (th_voiceCount9) ?_
        rintro _ _ ⟨rfl, rfl⟩
        refine wp_reti rfl (th_nI rfl) ⟨⟨_, rfl⟩, h3, hn, tv_TY_lnk (tv_TY_lnk R.1 (Or.inr ⟨rfl, rfl⟩) (by decide) (by decide)) (Or.inl ⟨rfl, rfl⟩) (by decide) (by decide), k3, k4, ?_, ?_⟩
        · rw [tm_gR, if_pos ⟨rfl, rfl⟩]
          exact R.2.2.2.2
        · rw [tm_gR, if_neg (fun e => absurd e.1 (by decide)), tm_gR, if_pos ⟨rfl, rfl⟩, tm_gR, if_pos ⟨rfl, rfl⟩]
          decide
      · refine wq_con (x := (-1)) rfl (by decide) ?_
        exact wp_reti rfl (th_nI rfl) ⟨⟨_, rfl⟩, h3, hn, R.1, k3, k4, by rw [k1]; exact k2, by rw [k1, R.2.2.1]; decide⟩
    have fin2 : ∀ (z : Int32) (t : tm_S), (z = 0 ∨ z = 1) → th_RD9 n σ t → WP 54 97 26 [(1, .int z), (0, .ref 0)] [] (tm_sI t 7 1 0) (th_Qd n) := by
      intro z t hz R
      obtain ⟨k1, k2, k3, k4⟩ := keep t R
      have T2 : tv_TY (tc_T (n : Int)) (tm_sI t 7 1 0) := tv_TY_sI R.1 (by show (0 : Int) ≤ (0 : Int32).toInt; decide) (by show (0 : Int32).toInt ≤ (800 : Int); decide)
      have u2 : tv_un t (tm_sI t 7 1 0) [(7, 1)] := tv_un_fI rfl
      have CQ : th_CS n (tm_sI t 7 1 0) 10 := th_CSu10 k2 u2 rfl rfl rfl rfl rfl
      have CP : th_CS n (tm_sI t 7 1 0) 9 := th_CSu9 R.2.2.2.2 u2 rfl rfl rfl rfl rfl
      refine wp_ldi rfl tm_m0 ?_
      refine wq_ifne rfl (fun h27 => ?_) (fun h27 => ?_)
      · refine wp_lda rfl tm_m1 ?_
        refine wp_lda rfl tm_m1 ?_
        refine wq_getr (p := 6) rfl rfl (f := 6) rfl rfl ?_
        refine wp_lda rfl tm_m1 ?_
        refine wq_getv rfl rfl (f := 8) rfl rfl ?_
        rw [show (tm_sI t 7 1 0).2.2 0 8 = 10 from k1]
        refine wq_calv [.ref 10] rfl rfl rfl rfl rfl rfl rfl rfl rfl (th_exch9 (s := tm_sI t 7 1 0) R.2.2.1) ?_
        rintro _ _ ⟨rfl, rfl⟩
        refine wq_putr rfl rfl (f := 8) rfl rfl ?_
        refine wp_lda rfl tm_m1 ?_
        refine wq_getv rfl rfl (f := 8) rfl rfl ?_
        rw [tm_gR, if_pos ⟨rfl, rfl⟩]
        refine wq_calv [] rfl rfl rfl rfl rfl rfl rfl rfl rfl (th_voiceCount9) ?_
        rintro _ _ ⟨rfl, rfl⟩
        refine wp_reti rfl (th_nI rfl) ⟨⟨_, rfl⟩, h3, hn, tv_TY_lnk (tv_TY_lnk T2 (Or.inr ⟨rfl, rfl⟩) (by decide) (by decide)) (Or.inl ⟨rfl, rfl⟩) (by decide) (by decide), k3, k4, ?_, ?_⟩
        · rw [tm_gR, if_pos ⟨rfl, rfl⟩]
          exact CP
        · rw [tm_gR, if_neg (fun e => absurd e.1 (by decide)), tm_gR, if_pos ⟨rfl, rfl⟩, tm_gR, if_pos ⟨rfl, rfl⟩]
          decide
      · refine wq_con (x := (-1)) rfl (by decide) ?_
        exact wp_reti rfl (th_nI rfl) ⟨⟨_, rfl⟩, h3, hn, T2, k3, k4, by rw [show (tm_sI t 7 1 0).2.2 0 8 = 10 from k1]; exact CQ, by rw [show (tm_sI t 7 1 0).2.2 0 8 = 10 from k1, show (tm_sI t 7 1 0).2.2 6 1 = 9 from R.2.2.1]; decide⟩
    refine wp_lda rfl tm_m0 ?_
    refine wq_getr (p := 6) rfl rfl (f := 6) rfl rfl ?_
    refine wp_lda rfl tm_m0 ?_
    refine wq_getr (p := 1) rfl rfl (f := 0) rfl rfl ?_
    refine wq_calv [] rfl rfl rfl rfl rfl rfl rfl rfl rfl (th_size) ?_
    rintro _ _ ⟨rfl, rfl⟩
    rw [hN0]
    refine wq_calv [.int (nI n)] rfl rfl rfl rfl rfl rfl rfl rfl rfl (th_xread9 hn h3 hadv hT hm) ?_
    rintro r11 t ⟨R, hr11⟩
    obtain ⟨z11, rfl, hz11⟩ : ∃ z : Int32, r11 = some (.int z) ∧ (z = 0 ∨ z = 1) := by
      rcases hr11 with rfl | rfl
      · exact ⟨_, rfl, Or.inl rfl⟩
      · exact ⟨_, rfl, Or.inr rfl⟩
    refine wq_sti [(1, .int z11), (0, .ref 0)] rfl rfl ?_
    refine wp_lda rfl tm_m1 ?_
    refine wq_getr (p := 6) rfl rfl (f := 6) rfl rfl ?_
    refine wq_calv [] rfl rfl rfl rfl rfl rfl rfl rfl rfl (th_tape) ?_
    rintro _ _ ⟨rfl, rfl⟩
    refine wq_con (x := 0) rfl (by decide) ?_
    refine wq_calv [.int 0] rfl rfl rfl rfl rfl rfl rfl rfl rfl (th_cut0) ?_
    rintro _ t2 ⟨rfl, ht2⟩
    have R2 : th_RD9 n σ t2 ∨ True := Or.inr trivial
    rcases ht2 with rfl | rfl
    · exact fin z11 _ hz11 R
    · exact fin2 z11 t hz11 R
  · have hc2 : σ.2.2 0 8 = 9 := by omega
    have hC := hS.2.2.1
    rw [hc2] at hC
    have keep : ∀ t : tm_S, th_RD10 n σ t → (t.2.2 0 8 = 9 ∧ th_CS n t 9 ∧ (∀ k : Nat, t.2.1 12 k = -1 ∨ th_dg 12 (t.2.1 12 k)) ∧ ∀ i : Nat, th_dg 12 (t.2.1 24 i)) := by
      intro t R
      have hu := R.2.1
      refine ⟨by rw [tv_un_r hu rfl rfl]; exact hc2, th_CSu9 hC hu rfl rfl rfl rfl rfl, fun k => ?_, fun i => ?_⟩
      · rw [(tv_un_a hu (k := 12) rfl rfl).2]
        exact hS.1 k
      · rw [(tv_un_a hu (k := 24) rfl rfl).2]
        exact hS.2.1 i
    have fin : ∀ (z : Int32) (t : tm_S), (z = 0 ∨ z = 1) → th_RD10 n σ t → WP 54 97 26 [(1, .int z), (0, .ref 0)] [] t (th_Qd n) := by
      intro z t hz R
      obtain ⟨k1, k2, k3, k4⟩ := keep t R
      refine wp_ldi rfl tm_m0 ?_
      refine wq_ifne rfl (fun h27 => ?_) (fun h27 => ?_)
      · refine wp_lda rfl tm_m1 ?_
        refine wp_lda rfl tm_m1 ?_
        refine wq_getr (p := 6) rfl rfl (f := 6) rfl rfl ?_
        refine wp_lda rfl tm_m1 ?_
        refine wq_getv rfl rfl (f := 8) rfl rfl ?_
        rw [k1]
        refine wq_calv [.ref 9] rfl rfl rfl rfl rfl rfl rfl rfl rfl (th_exch10 R.2.2.1) ?_
        rintro _ _ ⟨rfl, rfl⟩
        refine wq_putr rfl rfl (f := 8) rfl rfl ?_
        refine wp_lda rfl tm_m1 ?_
        refine wq_getv rfl rfl (f := 8) rfl rfl ?_
        rw [tm_gR, if_pos ⟨rfl, rfl⟩]
        refine wq_calv [] rfl rfl rfl rfl rfl rfl rfl rfl rfl (th_voiceCount10) ?_
        rintro _ _ ⟨rfl, rfl⟩
        refine wp_reti rfl (th_nI rfl) ⟨⟨_, rfl⟩, h3, hn, tv_TY_lnk (tv_TY_lnk R.1 (Or.inr ⟨rfl, rfl⟩) (by decide) (by decide)) (Or.inl ⟨rfl, rfl⟩) (by decide) (by decide), k3, k4, ?_, ?_⟩
        · rw [tm_gR, if_pos ⟨rfl, rfl⟩]
          exact R.2.2.2.2
        · rw [tm_gR, if_neg (fun e => absurd e.1 (by decide)), tm_gR, if_pos ⟨rfl, rfl⟩, tm_gR, if_pos ⟨rfl, rfl⟩]
          decide
      · refine wq_con (x := (-1)) rfl (by decide) ?_
        exact wp_reti rfl (th_nI rfl) ⟨⟨_, rfl⟩, h3, hn, R.1, k3, k4, by rw [k1]; exact k2, by rw [k1, R.2.2.1]; decide⟩
    have fin2 : ∀ (z : Int32) (t : tm_S), (z = 0 ∨ z = 1) → th_RD10 n σ t → WP 54 97 26 [(1, .int z), (0, .ref 0)] [] (tm_sI t 7 1 0) (th_Qd n) := by
      intro z t hz R
      obtain ⟨k1, k2, k3, k4⟩ := keep t R
      have T2 : tv_TY (tc_T (n : Int)) (tm_sI t 7 1 0) := tv_TY_sI R.1 (by show (0 : Int) ≤ (0 : Int32).toInt; decide) (by show (0 : Int32).toInt ≤ (800 : Int); decide)
      have u2 : tv_un t (tm_sI t 7 1 0) [(7, 1)] := tv_un_fI rfl
      have CQ : th_CS n (tm_sI t 7 1 0) 9 := th_CSu9 k2 u2 rfl rfl rfl rfl rfl
      have CP : th_CS n (tm_sI t 7 1 0) 10 := th_CSu10 R.2.2.2.2 u2 rfl rfl rfl rfl rfl
      refine wp_ldi rfl tm_m0 ?_
      refine wq_ifne rfl (fun h27 => ?_) (fun h27 => ?_)
      · refine wp_lda rfl tm_m1 ?_
        refine wp_lda rfl tm_m1 ?_
        refine wq_getr (p := 6) rfl rfl (f := 6) rfl rfl ?_
        refine wp_lda rfl tm_m1 ?_
        refine wq_getv rfl rfl (f := 8) rfl rfl ?_
        rw [show (tm_sI t 7 1 0).2.2 0 8 = 9 from k1]
        refine wq_calv [.ref 9] rfl rfl rfl rfl rfl rfl rfl rfl rfl (th_exch10 (s := tm_sI t 7 1 0) R.2.2.1) ?_
        rintro _ _ ⟨rfl, rfl⟩
        refine wq_putr rfl rfl (f := 8) rfl rfl ?_
        refine wp_lda rfl tm_m1 ?_
        refine wq_getv rfl rfl (f := 8) rfl rfl ?_
        rw [tm_gR, if_pos ⟨rfl, rfl⟩]
        refine wq_calv [] rfl rfl rfl rfl rfl rfl rfl rfl rfl (th_voiceCount10) ?_
        rintro _ _ ⟨rfl, rfl⟩
        refine wp_reti rfl (th_nI rfl) ⟨⟨_, rfl⟩, h3, hn, tv_TY_lnk (tv_TY_lnk T2 (Or.inr ⟨rfl, rfl⟩) (by decide) (by decide)) (Or.inl ⟨rfl, rfl⟩) (by decide) (by decide), k3, k4, ?_, ?_⟩
        · rw [tm_gR, if_pos ⟨rfl, rfl⟩]
          exact CP
        · rw [tm_gR, if_neg (fun e => absurd e.1 (by decide)), tm_gR, if_pos ⟨rfl, rfl⟩, tm_gR, if_pos ⟨rfl, rfl⟩]
          decide
      · refine wq_con (x := (-1)) rfl (by decide) ?_
        exact wp_reti rfl (th_nI rfl) ⟨⟨_, rfl⟩, h3, hn, T2, k3, k4, by rw [show (tm_sI t 7 1 0).2.2 0 8 = 9 from k1]; exact CQ, by rw [show (tm_sI t 7 1 0).2.2 0 8 = 9 from k1, show (tm_sI t 7 1 0).2.2 6 1 = 10 from R.2.2.1]; decide⟩
    refine wp_lda rfl tm_m0 ?_
    refine wq_getr (p := 6) rfl rfl (f := 6) rfl rfl ?_
    refine wp_lda rfl tm_m0 ?_
    refine wq_getr (p := 1) rfl rfl (f := 0) rfl rfl ?_
    refine wq_calv [] rfl rfl rfl rfl rfl rfl rfl rfl rfl (th_size) ?_
    rintro _ _ ⟨rfl, rfl⟩
    rw [hN0]
    refine wq_calv [.int (nI n)] rfl rfl rfl rfl rfl rfl rfl rfl rfl (th_xread10 hn h3 hadv hT hm) ?_
    rintro r11 t ⟨R, hr11⟩
    obtain ⟨z11, rfl, hz11⟩ : ∃ z : Int32, r11 = some (.int z) ∧ (z = 0 ∨ z = 1) := by
      rcases hr11 with rfl | rfl
      · exact ⟨_, rfl, Or.inl rfl⟩
      · exact ⟨_, rfl, Or.inr rfl⟩
    refine wq_sti [(1, .int z11), (0, .ref 0)] rfl rfl ?_
    refine wp_lda rfl tm_m1 ?_
    refine wq_getr (p := 6) rfl rfl (f := 6) rfl rfl ?_
    refine wq_calv [] rfl rfl rfl rfl rfl rfl rfl rfl rfl (th_tape) ?_
    rintro _ _ ⟨rfl, rfl⟩
    refine wq_con (x := 0) rfl (by decide) ?_
    refine wq_calv [.int 0] rfl rfl rfl rfl rfl rfl rfl rfl rfl (th_cut0) ?_
    rintro _ t2 ⟨rfl, ht2⟩
    have R2 : th_RD10 n σ t2 ∨ True := Or.inr trivial
    rcases ht2 with rfl | rfl
    · exact fin z11 _ hz11 R
    · exact fin2 z11 t hz11 R
def tz_fli : tv_C := (62, [(2, 0, 0), (1, 3, 12)], [], [((1, (-2147483648), 2147483647), [])], [], 45)
theorem tq_fli {T : tv_TT} {a0 : Int64} {a1 : Int32} {σ σ' : tm_S} {r : Option Value} (h : tv_Qc T tz_fli [.long a0, .int a1] σ r σ') : tv_TY T σ' ∧ tv_un σ σ' [] ∧ ((∃ z : Int32, r = some (.int z) ∧ (-2147483648) ≤ z.toInt ∧ z.toInt ≤ 2147483647)) := by
  obtain ⟨h1, h2, q, hq, hr, hn⟩ := h
  refine ⟨h1, h2, ?_⟩
  change q ∈ [((1, (-2147483648), 2147483647), [])] at hq
  simp only [List.mem_cons, List.not_mem_nil, or_false] at hq
  rcases hq with rfl
  rcases hr with ⟨e, -⟩ | ⟨x, rfl, hx⟩
  · cases e
  · obtain ⟨z, rfl, g1, g2⟩ := hx
    exact ⟨z, rfl, g1, g2⟩
def tz_ifl : tv_C := (64, [(2, 0, 0), (1, 3, 12)], [], [((1, 0, 0), []), ((1, 1, 1), [])], [], 45)
theorem tq_ifl {T : tv_TT} {a0 : Int64} {a1 : Int32} {σ σ' : tm_S} {r : Option Value} (h : tv_Qc T tz_ifl [.long a0, .int a1] σ r σ') : tv_TY T σ' ∧ tv_un σ σ' [] ∧ ((∃ z : Int32, r = some (.int z) ∧ 0 ≤ z.toInt ∧ z.toInt ≤ 0) ∨ (∃ z : Int32, r = some (.int z) ∧ 1 ≤ z.toInt ∧ z.toInt ≤ 1)) := by
  obtain ⟨h1, h2, q, hq, hr, hn⟩ := h
  refine ⟨h1, h2, ?_⟩
  change q ∈ [((1, 0, 0), []), ((1, 1, 1), [])] at hq
  simp only [List.mem_cons, List.not_mem_nil, or_false] at hq
  rcases hq with rfl | rfl
  · rcases hr with ⟨e, -⟩ | ⟨x, rfl, hx⟩
    · cases e
    · obtain ⟨z, rfl, g1, g2⟩ := hx
      exact Or.inl (⟨z, rfl, g1, g2⟩)
  · rcases hr with ⟨e, -⟩ | ⟨x, rfl, hx⟩
    · cases e
    · obtain ⟨z, rfl, g1, g2⟩ := hx
      exact Or.inr (⟨z, rfl, g1, g2⟩)
set_option maxRecDepth 100000 in
set_option maxHeartbeats 4000000 in
theorem th_xabout {n : Nat} {s wh : Int32} {σ : tm_S} (hfli : tv_Snd (tc_T (n : Int)) tz_fli) (hifl : tv_Snd (tc_T (n : Int)) tz_ifl) (h : th_IV n σ) : WM 46 61 [.ref 0, .int s, .int wh] σ (th_Qd n) := by
  obtain ⟨h3, hn, hT, hS⟩ := h
  have hN0 := th_N0 hT hn
  have eN : (nI n).toInt = n := nI_toInt (by omega)
  show WP 46 61 0 [(0, .ref 0), (1, .int s), (2, .int wh)] [] σ _
  refine wp_lda rfl tm_m0 ?_
  refine wp_ldi rfl tm_m1 ?_
  refine wq_calv [.int s] rfl rfl rfl rfl rfl rfl rfl rfl rfl (th_hasr) ?_
  rintro r2 _ ⟨hr2, rfl⟩
  obtain ⟨z2, rfl, hz2⟩ : ∃ z : Int32, r2 = some (.int z) ∧ (¬ z = 0 → 0 ≤ s.toInt ∧ s.toInt < 6) := by
    rcases hr2 with ⟨rfl, g1, g2, -⟩ | rfl
    · exact ⟨_, rfl, fun _ => ⟨g1, g2⟩⟩
    · exact ⟨_, rfl, fun e => absurd rfl e⟩
  refine wq_ifne rfl (fun h5 => ?_) (fun h5 => ?_)
  · refine wp_lda rfl tm_m0 ?_
    refine wq_getr (p := 1) rfl rfl (f := 0) rfl rfl ?_
    refine wq_calv [] rfl rfl rfl rfl rfl rfl rfl rfl rfl (th_size) ?_
    rintro _ _ ⟨rfl, rfl⟩
    rw [hN0]
    refine wq_sti [(3, .int (nI n)), (0, .ref 0), (1, .int s), (2, .int wh)] rfl rfl ?_
    refine wp_ldi rfl tm_m3 ?_
    refine wp_sw rfl ?_
    rcases (by omega : wh.toInt = 0 ∨ wh.toInt = 1 ∨ wh.toInt = 2 ∨ (¬ wh.toInt = 0 ∧ ¬ wh.toInt = 1 ∧ ¬ wh.toInt = 2)) with e | e | e | ⟨e, e1, e2⟩
    · show WP 46 61 (tb_sw [(0, 44), (1, 55), (2, 74)] 102 wh.toInt) _ _ _ _
      rw [show tb_sw [(0, 44), (1, 55), (2, 74)] 102 wh.toInt = 44 from by rw [e]; rfl]
      refine wp_lda rfl tm_m1 ?_
      refine wq_getr (p := 12) rfl rfl (f := 5) rfl rfl ?_
      refine wp_ldi rfl tm_m2 ?_
      refine wp_lald rfl rfl (tn_in (hz2 h5).1 (hz2 h5).2) ?_
      refine wp_ldi rfl tm_m0 ?_
      refine wq_cals [.long (σ.2.1 12 s.toNatClampNeg), .int (nI n)] rfl rfl rfl rfl rfl rfl (WM.deep (hfli [.long (σ.2.1 12 s.toNatClampNeg), .int (nI n)] σ ⟨⟨_, rfl⟩, ⟨_, rfl, by rw [eN]; omega, by rw [eN]; omega⟩, trivial⟩ hT) (by decide)) ?_
      rintro r51 σ1 hq51
      obtain ⟨T1, u1, hz51⟩ := tq_fli hq51
      obtain ⟨z51, rfl⟩ : ∃ z : Int32, r51 = some (.int z) := by
        obtain ⟨z, e, -⟩ := hz51
        exact ⟨z, e⟩
      exact wp_reti rfl (th_nI rfl) ⟨⟨_, rfl⟩, h3, hn, T1, th_SLu hT hS u1 (by decide)⟩
    · show WP 46 61 (tb_sw [(0, 44), (1, 55), (2, 74)] 102 wh.toInt) _ _ _ _
      rw [show tb_sw [(0, 44), (1, 55), (2, 74)] 102 wh.toInt = 55 from by rw [e]; rfl]
      refine wp_lda rfl tm_m1 ?_
      refine wq_getr (p := 12) rfl rfl (f := 5) rfl rfl ?_
      refine wp_ldi rfl tm_m2 ?_
      refine wp_lald rfl rfl (tn_in (hz2 h5).1 (hz2 h5).2) ?_
      refine wp_ldi rfl tm_m0 ?_
      refine wq_cals [.long (σ.2.1 12 s.toNatClampNeg), .int (nI n)] rfl rfl rfl rfl rfl rfl (WM.deep (hifl [.long (σ.2.1 12 s.toNatClampNeg), .int (nI n)] σ ⟨⟨_, rfl⟩, ⟨_, rfl, by rw [eN]; omega, by rw [eN]; omega⟩, trivial⟩ hT) (by decide)) ?_
      rintro r62 σ1 hq62
      obtain ⟨T1, u1, hz62⟩ := tq_ifl hq62
      obtain ⟨z62, rfl⟩ : ∃ z : Int32, r62 = some (.int z) := by
        rcases hz62 with ⟨z, e, -⟩ | ⟨z, e, -⟩ <;> exact ⟨z, e⟩
      refine wq_ifeq rfl (fun h65 => ?_) (fun h65 => ?_)
      · refine wq_con (x := 0) rfl (by decide) ?_
        exact wp_reti rfl (th_nI rfl) ⟨⟨_, rfl⟩, h3, hn, T1, th_SLu hT hS u1 (by decide)⟩
      · refine wq_con (x := 1) rfl (by decide) ?_
        refine wp_go rfl ?_
        exact wp_reti rfl (th_nI rfl) ⟨⟨_, rfl⟩, h3, hn, T1, th_SLu hT hS u1 (by decide)⟩
    · show WP 46 61 (tb_sw [(0, 44), (1, 55), (2, 74)] 102 wh.toInt) _ _ _ _
      rw [show tb_sw [(0, 44), (1, 55), (2, 74)] 102 wh.toInt = 74 from by rw [e]; rfl]
      refine wp_lda rfl tm_m1 ?_
      refine wq_getr (p := 12) rfl rfl (f := 5) rfl rfl ?_
      refine wp_ldi rfl tm_m2 ?_
      refine wp_lald rfl rfl (tn_in (hz2 h5).1 (hz2 h5).2) ?_
      refine wp_ldi rfl tm_m0 ?_
      refine wq_cals [.long (σ.2.1 12 s.toNatClampNeg), .int (nI n)] rfl rfl rfl rfl rfl rfl (WM.deep (hfli [.long (σ.2.1 12 s.toNatClampNeg), .int (nI n)] σ ⟨⟨_, rfl⟩, ⟨_, rfl, by rw [eN]; omega, by rw [eN]; omega⟩, trivial⟩ hT) (by decide)) ?_
      rintro r81 σ1 hq81
      obtain ⟨T1, u1, hz81⟩ := tq_fli hq81
      obtain ⟨z81, rfl⟩ : ∃ z : Int32, r81 = some (.int z) := by
        obtain ⟨z, e, -⟩ := hz81
        exact ⟨z, e⟩
      refine wq_sti [(4, .int z81), (3, .int (nI n)), (0, .ref 0), (1, .int s), (2, .int wh)] rfl rfl ?_
      refine wp_ldi rfl tm_m0 ?_
      refine wq_ifne rfl (fun h88 => ?_) (fun h88 => ?_)
      · refine wq_con (x := 4) rfl (by decide) ?_
        refine wp_ldi rfl tm_m1 ?_
        refine wq_imul rfl ?_
        refine wp_ldi rfl tm_m0 ?_
        refine wp_div rfl (h88) ?_
        exact wp_reti rfl (th_nI rfl) ⟨⟨_, rfl⟩, h3, hn, T1, th_SLu hT hS u1 (by decide)⟩
      · refine wq_con (x := (-1)) rfl (by decide) ?_
        refine wp_go rfl ?_
        exact wp_reti rfl (th_nI rfl) ⟨⟨_, rfl⟩, h3, hn, T1, th_SLu hT hS u1 (by decide)⟩
    · show WP 46 61 (tb_sw [(0, 44), (1, 55), (2, 74)] 102 wh.toInt) _ _ _ _
      rw [show tb_sw [(0, 44), (1, 55), (2, 74)] 102 wh.toInt = 102 from by simp [tb_sw, show ¬ (0 : Int) = wh.toInt from fun x => e x.symm, show ¬ (1 : Int) = wh.toInt from fun x => e1 x.symm, show ¬ (2 : Int) = wh.toInt from fun x => e2 x.symm]]
      refine wq_con (x := (-1)) rfl (by decide) ?_
      exact wp_reti rfl (th_nI rfl) ⟨⟨_, rfl⟩, h3, hn, hT, hS⟩
  · refine wq_con (x := (-1)) rfl (by decide) ?_
    exact wp_reti rfl (th_nI rfl) ⟨⟨_, rfl⟩, h3, hn, hT, hS⟩
theorem tc_Tne {v w : Int} : ∀ a : Nat, ¬ a = 1 → ¬ a = 11 → (tc_T v)[a]? = (tc_T w)[a]?
  | 0, _, _ => rfl
  | 1, h, _ => absurd rfl h
  | 2, _, _ => rfl
  | 3, _, _ => rfl
  | 4, _, _ => rfl
  | 5, _, _ => rfl
  | 6, _, _ => rfl
  | 7, _, _ => rfl
  | 8, _, _ => rfl
  | 9, _, _ => rfl
  | 10, _, _ => rfl
  | 11, _, h => absurd rfl h
  | 12, _, _ => rfl
  | 13, _, _ => rfl
  | 14, _, _ => rfl
  | 15, _, _ => rfl
  | 16, _, _ => rfl
  | 17, _, _ => rfl
  | 18, _, _ => rfl
  | 19, _, _ => rfl
  | 20, _, _ => rfl
  | 21, _, _ => rfl
  | 22, _, _ => rfl
  | 23, _, _ => rfl
  | 24, _, _ => rfl
  | 25, _, _ => rfl
  | 26, _, _ => rfl
  | 27, _, _ => rfl
  | 28, _, _ => rfl
  | 29, _, _ => rfl
  | 30, _, _ => rfl
  | 31, _, _ => rfl
  | 32, _, _ => rfl
  | 33, _, _ => rfl
  | 34, _, _ => rfl
  | 35, _, _ => rfl
  | 36, _, _ => rfl
  | 37, _, _ => rfl
  | 38, _, _ => rfl
  | 39, _, _ => rfl
  | 40, _, _ => rfl
  | 41, _, _ => rfl
  | 42, _, _ => rfl
  | 43, _, _ => rfl
  | 44, _, _ => rfl
  | 45, _, _ => rfl
  | 46, _, _ => rfl
  | 47, _, _ => rfl
  | 48, _, _ => rfl
  | 49, _, _ => rfl
  | 50, _, _ => rfl
  | 51, _, _ => rfl
  | 52, _, _ => rfl
  | 53, _, _ => rfl
  | 54, _, _ => rfl
  | 55, _, _ => rfl
  | 56, _, _ => rfl
  | 57, _, _ => rfl
  | 58, _, _ => rfl
  | 59, _, _ => rfl
  | 60, _, _ => rfl
  | 61, _, _ => rfl
  | 62, _, _ => rfl
  | 63, _, _ => rfl
  | 64, _, _ => rfl
  | 65, _, _ => rfl
  | 66, _, _ => rfl
  | 67, _, _ => rfl
  | 68, _, _ => rfl
  | 69, _, _ => rfl
  | 70, _, _ => rfl
  | 71, _, _ => rfl
  | 72, _, _ => rfl
  | _ + 73, _, _ => rfl
theorem tc_Tn1 {v w : Int} : ∀ j : Nat, ¬ j = 0 → tv_ti (tc_T v) 1 j = tv_ti (tc_T w) 1 j
  | 0, h => absurd rfl h
  | 1, _ => rfl
  | 2, _ => rfl
  | _ + 3, _ => rfl
theorem tc_Tn11 {v w : Int} : ∀ j : Nat, ¬ j = 1 → tv_ti (tc_T v) 11 j = tv_ti (tc_T w) 11 j
  | 0, _ => rfl
  | 1, h => absurd rfl h
  | 2, _ => rfl
  | 3, _ => rfl
  | 4, _ => rfl
  | 5, _ => rfl
  | 6, _ => rfl
  | 7, _ => rfl
  | 8, _ => rfl
  | 9, _ => rfl
  | 10, _ => rfl
  | 11, _ => rfl
  | 12, _ => rfl
  | 13, _ => rfl
  | 14, _ => rfl
  | 15, _ => rfl
  | 16, _ => rfl
  | 17, _ => rfl
  | 18, _ => rfl
  | 19, _ => rfl
  | 20, _ => rfl
  | 21, _ => rfl
  | 22, _ => rfl
  | 23, _ => rfl
  | 24, _ => rfl
  | 25, _ => rfl
  | 26, _ => rfl
  | 27, _ => rfl
  | 28, _ => rfl
  | 29, _ => rfl
  | 30, _ => rfl
  | 31, _ => rfl
  | 32, _ => rfl
  | 33, _ => rfl
  | 34, _ => rfl
  | 35, _ => rfl
  | 36, _ => rfl
  | 37, _ => rfl
  | 38, _ => rfl
  | 39, _ => rfl
  | 40, _ => rfl
  | 41, _ => rfl
  | 42, _ => rfl
  | 43, _ => rfl
  | 44, _ => rfl
  | 45, _ => rfl
  | 46, _ => rfl
  | 47, _ => rfl
  | 48, _ => rfl
  | _ + 49, _ => rfl
theorem tc_Tti {v w : Int} {a j : Nat} (h1 : ¬ (a = 1 ∧ j = 0)) (h2 : ¬ (a = 11 ∧ j = 1)) : tv_ti (tc_T v) a j = tv_ti (tc_T w) a j := by
  by_cases e1 : a = 1
  · subst e1
    exact tc_Tn1 j (fun e => h1 ⟨rfl, e⟩)
  · by_cases e2 : a = 11
    · subst e2
      exact tc_Tn11 j (fun e => h2 ⟨rfl, e⟩)
    · unfold tv_ti
      rw [tc_Tne (v := v) (w := w) a e1 e2]
theorem th_both {n : Nat} {k : Int32} {σ σ1 σ2 : tm_S} (h : th_IV n σ) (h1 : (σ1 = σ ∧ (3 ≤ k.toInt → k.toInt ≤ 12 → σ.1 1 0 = k)) ∨ (3 ≤ k.toInt ∧ k.toInt ≤ 12 ∧ th_octS (σ.2.2 0 8) k σ σ1)) (h2 : σ2 = tm_sI σ1 11 0 0 ∧ ¬ (3 ≤ k.toInt ∧ k.toInt ≤ 12) ∨ (3 ≤ k.toInt ∧ k.toInt ≤ 12 ∧ ∃ τ, th_row0 50 (tm_sI (tm_sI σ1 11 0 0) 11 1 k) τ ∧ σ2 = tm_sI (tm_sI (tm_sI τ 11 23 0) 11 26 0) 11 11 0)) : ∃ m : Nat, th_IV m σ2 := by
  obtain ⟨h3, hn, hT, hS⟩ := h
  rcases h2 with ⟨rfl, hk⟩ | ⟨k1, k2, τ, hτ, rfl⟩
  · rcases h1 with ⟨rfl, -⟩ | ⟨k1, k2, -⟩
    · have hu : tv_un σ1 (tm_sI σ1 11 0 0) [(11, 0)] := tv_un_fI rfl
      exact ⟨n, h3, hn, tv_TY_sI hT tv_z0 tv_z1, th_SLu hT hS hu (by decide)⟩
    · exact absurd ⟨k1, k2⟩ hk
  · obtain ⟨m, m1, rfl⟩ := nI_of (x := k) (by rw [tn_ltI]; show ¬ k.toInt < 0; omega)
    rw [nI_toInt m1] at k1 k2
    have hc := th_cur hT
    -- the store of the class: all but N within the types; slots, rows and links as they were
    have a1 : (∀ a j : Nat, ¬ (a = 1 ∧ j = 0) → (tv_ti (tc_T (n : Int)) a j).1 ≤ (σ1.1 a j).toInt ∧ (σ1.1 a j).toInt ≤ (tv_ti (tc_T (n : Int)) a j).2) ∧ σ1.1 1 0 = nI m ∧ (∀ s : Nat, σ1.2.1 12 s = -1 ∨ th_dg 12 (σ1.2.1 12 s)) ∧ (∀ i : Nat, th_dg 12 (σ1.2.1 24 i)) ∧ σ1.2.2 = σ.2.2 ∧ th_CS m σ1 (σ.2.2 0 8) := by
      rcases h1 with ⟨rfl, he⟩ | ⟨-, -, q1, q2, q3, q4, q5, q6⟩
      · have e := he (by rw [nI_toInt m1]; omega) (by rw [nI_toInt m1]; omega)
        have e2 := th_N0 hT hn
        rw [e2] at e
        have e3 : n = m := (nI_eq (by omega) m1).mp e
        subst e3
        exact ⟨fun a j _ => hT.1 a j, e2, hS.1, hS.2.1, rfl, hS.2.2.1⟩
      · refine ⟨fun a j ha => ?_, q3, fun s => ?_, fun i => ?_, q6.1, fun r hr => ?_, fun u hu => ?_⟩
        · by_cases b1 : a = 17
          · rw [b1]
            have b0 : (tv_ti (tc_T (n : Int)) 17 j) = (0, 1) := rfl
            rcases q2 j with e | e
            · rw [e, b0]
              exact ⟨by decide, by decide⟩
            · rw [e]
              exact hT.1 17 j
          · by_cases b2 : a = σ.2.2 0 8 ∧ (j = 2 ∨ j = 7)
            · obtain ⟨rfl, b3⟩ := b2
              have z : (σ1.1 (σ.2.2 0 8) j).toInt = 0 := by
                rcases b3 with rfl | rfl
                · rw [q4]; rfl
                · rw [q5]; rfl
              rw [z]
              rcases hc with hc | hc <;> rw [hc] <;> rcases b3 with rfl | rfl
              · exact ⟨show (0 : Int) ≤ 0 by decide, show (0 : Int) ≤ 6 by decide⟩
              · exact ⟨show (0 : Int) ≤ 0 by decide, show (0 : Int) ≤ 8 by decide⟩
              · exact ⟨show (0 : Int) ≤ 0 by decide, show (0 : Int) ≤ 6 by decide⟩
              · exact ⟨show (0 : Int) ≤ 0 by decide, show (0 : Int) ≤ 8 by decide⟩
            · rw [q1 a j b1 ha b2]
              exact hT.1 a j
        · rcases q6.2.2 s with e | e
          · rw [e]
            exact hS.1 s
          · exact Or.inl e
        · rw [q6.2.1 24 (by decide)]
          exact hS.2.1 i
        · rw [q4] at hr
          change (r : Int) < 0 at hr
          omega
        · rw [q5] at hu
          change (u : Int) < 0 at hu
          omega
    obtain ⟨b1, b2, b3, b4, b5, b6⟩ := a1
    obtain ⟨t1, t2, t3⟩ := hτ
    have E : ∀ a j : Nat, (tm_sI (tm_sI (tm_sI τ 11 23 0) 11 26 0) 11 11 0).1 a j = if a = 11 ∧ (j = 23 ∨ j = 26 ∨ j = 11) then 0 else τ.1 a j := by
      intro a j
      rw [tm_gI, tm_gI, tm_gI]
      by_cases ha : a = 11
      · by_cases c1 : j = 11
        · rw [if_pos ⟨ha, c1⟩, if_pos ⟨ha, Or.inr (Or.inr c1)⟩]
        · rw [if_neg (fun e => c1 e.2)]
          by_cases c2 : j = 26
          · rw [if_pos ⟨ha, c2⟩, if_pos ⟨ha, Or.inr (Or.inl c2)⟩]
          · rw [if_neg (fun e => c2 e.2)]
            by_cases c3 : j = 23
            · rw [if_pos ⟨ha, c3⟩, if_pos ⟨ha, Or.inl c3⟩]
            · rw [if_neg (fun e => c3 e.2), if_neg (fun e => by omega)]
      · rw [if_neg (fun e => ha e.1), if_neg (fun e => ha e.1), if_neg (fun e => ha e.1), if_neg (fun e => ha e.1)]
    have E2 : ∀ a j : Nat, a ≠ 50 → ¬ (a = 11 ∧ j = 1) → ¬ (a = 11 ∧ j = 0) → τ.1 a j = σ1.1 a j := by
      intro a j c1 c2 c3
      rw [t1 a j c1, tm_gI, if_neg c2, tm_gI, if_neg c3]
    have c0 : ¬ (σ.2.2 0 8) = 11 ∧ ¬ (σ.2.2 0 8) = 50 := by omega
    refine ⟨m, by omega, by omega, ⟨fun a j => ?_, fun w hw => ?_⟩, fun s => ?_, fun i => ?_, ?_, ?_⟩
    · rw [E]
      by_cases c1 : a = 11 ∧ (j = 23 ∨ j = 26 ∨ j = 11)
      · rw [if_pos c1]
        obtain ⟨rfl, c2⟩ := c1
        rcases c2 with rfl | rfl | rfl
        · exact ⟨show (0 : Int) ≤ 0 by decide, show (0 : Int) ≤ 6 by decide⟩
        · exact ⟨show (0 : Int) ≤ 0 by decide, show (0 : Int) ≤ 8 by decide⟩
        · exact ⟨show (-2147483648 : Int) ≤ 0 by decide, show (0 : Int) ≤ 2147483647 by decide⟩
      · rw [if_neg c1]
        by_cases c2 : a = 50
        · subst c2
          have b0 : (tv_ti (tc_T (m : Int)) 50 j) = (0, 1) := rfl
          rcases t2 j with e | e
          · rw [e, b0]
            exact ⟨by decide, by decide⟩
          · rw [e, tm_gI, if_neg (fun e => absurd e.1 (by decide)), tm_gI, if_neg (fun e => absurd e.1 (by decide))]
            exact b1 50 j (fun e => absurd e.1 (by decide))
        · by_cases c3 : a = 11 ∧ j = 1
          · obtain ⟨rfl, rfl⟩ := c3
            rw [t1 11 1 c2, tm_gI, if_pos ⟨rfl, rfl⟩, nI_toInt m1]
            exact ⟨show (m : Int) ≤ m from Int.le_refl _, show (m : Int) ≤ m from Int.le_refl _⟩
          · by_cases c4 : a = 11 ∧ j = 0
            · obtain ⟨rfl, rfl⟩ := c4
              rw [t1 11 0 c2, tm_gI, if_neg c3, tm_gI, if_pos ⟨rfl, rfl⟩]
              exact ⟨show (-2147483648 : Int) ≤ 0 by decide, show (0 : Int) ≤ 2147483647 by decide⟩
            · rw [E2 a j c2 c3 c4]
              by_cases c5 : a = 1 ∧ j = 0
              · obtain ⟨rfl, rfl⟩ := c5
                rw [b2, nI_toInt m1]
                exact ⟨show (m : Int) ≤ m from Int.le_refl _, show (m : Int) ≤ m from Int.le_refl _⟩
              · rw [tc_Tti (v := (m : Int)) (w := (n : Int)) c5 c3]
                exact b1 a j c5
    · show w.2.1 ≤ τ.2.2 w.1.1 w.1.2 ∧ τ.2.2 w.1.1 w.1.2 ≤ w.2.2.1
      rw [t3]
      show w.2.1 ≤ σ1.2.2 w.1.1 w.1.2 ∧ σ1.2.2 w.1.1 w.1.2 ≤ w.2.2.1
      rw [b5]
      exact hT.2 w hw
    · show τ.2.1 12 s = -1 ∨ th_dg 12 (τ.2.1 12 s)
      rw [t3]
      exact b3 s
    · show th_dg 12 (τ.2.1 24 i)
      rw [t3]
      exact b4 i
    · have e8 : (tm_sI (tm_sI (tm_sI τ 11 23 0) 11 26 0) 11 11 0).2.2 0 8 = σ.2.2 0 8 := by
        show τ.2.2 0 8 = _
        rw [t3]
        show σ1.2.2 0 8 = _
        rw [b5]
      have e2 : ∀ a j : Nat, ¬ a = 11 → ¬ a = 50 → (tm_sI (tm_sI (tm_sI τ 11 23 0) 11 26 0) 11 11 0).1 a j = σ1.1 a j := fun a j x1 x2 => by
        rw [E, if_neg (fun e => x1 e.1), E2 a j x2 (fun e => x1 e.1) (fun e => x1 e.1)]
      rw [e8]
      refine ⟨fun r hr => ?_, fun u hu => ?_⟩
      · rw [e2 _ _ c0.1 c0.2] at hr
        have := b6.1 r hr
        show ∀ i : Nat, i < m → th_nb (τ.2.1 _ r) i < m
        rw [t3]
        exact this
      · rw [e2 _ _ c0.1 c0.2] at hu
        rw [e2 _ _ c0.1 c0.2, e2 _ _ (by omega) (by omega), e2 _ _ (by omega) (by omega)]
        exact b6.2 u hu
    · show ¬ τ.2.2 6 1 = τ.2.2 0 8
      rw [t3]
      show ¬ σ1.2.2 6 1 = σ1.2.2 0 8
      rw [b5]
      exact hS.2.2.2
