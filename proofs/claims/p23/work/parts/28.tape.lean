/-! ===== the tape and what is written, of the reference ===== -/
def th_tp (v : Int) (σ0 : tm_S) (m : Int) (σ : tm_S) : Prop := tv_TY (tc_T v) σ ∧ tv_un σ0 σ [(11, 0), (11, 32), (65, 64)] ∧ (σ.1 11 32).toInt ≤ m
def th_ou (v : Int) (σ0 : tm_S) (m : Int) (σ : tm_S) : Prop := tv_TY (tc_T v) σ ∧ tv_un σ0 σ [(11, 0), (11, 34), (66, 64)] ∧ (σ.1 11 34).toInt ≤ m
theorem th_tp_st {v : Int} {σ0 σ : tm_S} {m : Int} {k : Nat} {x : Int32} (h : th_tp v σ0 m σ) (hm : m < 800) : th_tp v σ0 (m + 1) (tm_sI (tm_sI σ 65 k x) 11 32 (σ.1 11 32 + 1)) := by
  obtain ⟨h1, h2, h3⟩ := h
  have g : 0 ≤ (σ.1 11 32).toInt ∧ (σ.1 11 32).toInt ≤ 800 := h1.1 11 32
  have e := tn_add1 (x := σ.1 11 32) (by omega)
  refine ⟨tv_TY_sI (tv_TY_row h1 (ty := (tv_lo, tv_hi)) (fun _ => rfl) (tn_rng x).1 (tn_rng x).2) (by show (0 : Int) ≤ _; omega) (by show _ ≤ (800 : Int); omega), tv_un_tr (tv_un_tr h2 (tv_un_ar rfl rfl)) (tv_un_fI rfl), ?_⟩
  rw [tm_gI, if_pos ⟨rfl, rfl⟩]
  omega
theorem th_ou_st {v : Int} {σ0 σ : tm_S} {m : Int} {k : Nat} {x : Int32} (h : th_ou v σ0 m σ) (hm : m < 1000) : th_ou v σ0 (m + 1) (tm_sI (tm_sI σ 66 k x) 11 34 (σ.1 11 34 + 1)) := by
  obtain ⟨h1, h2, h3⟩ := h
  have g : 0 ≤ (σ.1 11 34).toInt ∧ (σ.1 11 34).toInt ≤ 1000 := h1.1 11 34
  have e := tn_add1 (x := σ.1 11 34) (by omega)
  refine ⟨tv_TY_sI (tv_TY_row h1 (ty := (tv_lo, tv_hi)) (fun _ => rfl) (tn_rng x).1 (tn_rng x).2) (by show (0 : Int) ≤ _; omega) (by show _ ≤ (1000 : Int); omega), tv_un_tr (tv_un_tr h2 (tv_un_ar rfl rfl)) (tv_un_fI rfl), ?_⟩
  rw [tm_gI, if_pos ⟨rfl, rfl⟩]
  omega
set_option maxRecDepth 100000 in
set_option maxHeartbeats 4000000 in
theorem th_lay_l {d : Nat} {v : Int} {w : Int32} {σ0 : tm_S} {a : Int} : ∀ (m : Nat) (z : Int32) (σ : tm_S), th_tp v σ0 (a - m) σ → a ≤ 800 → z.toInt + 8 = 8 * m → WP d 224 3 [(2, .int z), (0, .ref 11), (1, .int w)] [] σ (fun r σ' => r = none ∧ th_tp v σ0 (a) σ') := by
  intro m
  induction m with
  | zero =>
    intro z σ h ha hz
    refine wp_ldi rfl tm_m0 ?_
    refine wq_iflt rfl (fun h4 => ?_) (fun h4 => absurd (tn_ltI.mpr (by show z.toInt < 0; omega)) h4)
    exact wp_retv rfl ⟨rfl, by simpa using h⟩
  | succ m ih =>
    intro z σ h ha hz
    have hg : 0 ≤ (σ.1 11 32).toInt ∧ (σ.1 11 32).toInt ≤ 800 := h.1.1 11 32
    have hl := h.2.2
    have e8 : (z + (-8)).toInt = z.toInt - 8 := by rw [tn_add (by show -2147483648 ≤ z.toInt + (-8); omega) (by show z.toInt + (-8) ≤ 2147483647; omega)]; rfl
    refine wp_ldi rfl tm_m0 ?_
    refine wq_iflt rfl (fun h4 => absurd (tn_ltI.mp h4) (by show ¬ z.toInt < 0; omega)) (fun h4 => ?_)
    refine wp_lda rfl tm_m1 ?_
    refine wq_getr (p := 65) rfl rfl (f := 31) rfl rfl ?_
    refine wp_lda rfl tm_m1 ?_
    refine wq_geti rfl rfl (f := 32) rfl rfl (Or.inl rfl) ?_
    refine wp_ldi rfl tm_m2 ?_
    refine wp_ldi rfl tm_m0 ?_
    refine wq_ishr rfl ?_
    refine wq_con (x := 255) rfl (by decide) ?_
    refine wq_iand rfl ?_
    refine wp_iast rfl rfl (tn_in hg.1 (by omega)) ?_
    refine wp_lda rfl tm_m1 ?_
    refine wp_lda rfl tm_m1 ?_
    refine wq_geti rfl rfl (f := 32) rfl rfl (Or.inl rfl) ?_
    refine wq_con (x := 1) rfl (by decide) ?_
    refine wq_iadd rfl ?_
    refine wq_puti rfl rfl (f := 32) rfl rfl ?_
    refine wq_inc (c := (-8)) [(2, .int (z + (-8))), (0, .ref 11), (1, .int w)] rfl tm_m0 rfl rfl ?_
    refine wp_go rfl ?_
    have hn := th_tp_st (k := (σ.1 11 32).toNatClampNeg) (x := w >>> (z &&& 31) &&& 255) h (by omega)
    exact WP.less (ih (z + (-8)) _ (by rw [show a - (m : Nat) = a - ((m + 1 : Nat) : Int) + 1 by omega]; exact hn) ha (by omega)) (by simp)
set_option maxRecDepth 100000 in
set_option maxHeartbeats 4000000 in
theorem th_lay {d : Nat} {v : Int} {w : Int32} {σ0 σ : tm_S} {a : Int} (h : th_tp v σ0 a σ) (ha : a ≤ 796) : WM d 224 [.ref 11, .int w] σ (fun r σ' => r = none ∧ th_tp v σ0 (a + 4) σ') := by
  show WP d 224 0 [(0, .ref 11), (1, .int w)] [] σ _
  refine wq_con (x := 24) rfl (by decide) ?_
  refine wq_sti [(2, .int 24), (0, .ref 11), (1, .int w)] rfl rfl ?_
  exact WP.less (th_lay_l (w := w) (a := a + 4) 4 24 σ (by simpa using h) (by omega) (by decide)) (by simp)
set_option maxRecDepth 100000 in
set_option maxHeartbeats 4000000 in
theorem th_feed {d : Nat} {v : Int} {a1 a2 a3 a4 a5 : Int32} {σ : tm_S} (hT : tv_TY (tc_T v) σ) : WM (d + 1) 223 [.ref 11, .int a1, .int a2, .int a3, .int a4, .int a5] σ (fun r σ' => (∃ z : Int32, r = some (.int z)) ∧ tv_TY (tc_T v) σ') := by
  show WP (d + 1) 223 0 [(0, .ref 11), (1, .int a1), (2, .int a2), (3, .int a3), (4, .int a4), (5, .int a5)] [] σ _
  have g : 0 ≤ (σ.1 11 32).toInt ∧ (σ.1 11 32).toInt ≤ 800 := hT.1 11 32
  have hT0 : tv_TY (tc_T v) (tm_sI σ 11 0 0) := tv_TY_sI hT tv_z0 tv_z1
  have eT : (tm_sI σ 11 0 0).1 11 32 = σ.1 11 32 := by rw [tm_gI, if_neg (fun e => absurd e.2 (by decide))]
  refine wp_lda rfl tm_m0 ?_
  refine wq_con (x := 0) rfl (by decide) ?_
  refine wq_puti rfl rfl (f := 0) rfl rfl ?_
  refine wp_lda rfl tm_m0 ?_
  refine wq_geti rfl rfl (f := 32) rfl rfl (Or.inl rfl) ?_
  refine wq_con (x := 20) rfl (by decide) ?_
  refine wq_iadd rfl ?_
  refine wq_con (x := 800) rfl (by decide) ?_
  refine wq_icle rfl (fun h15 => ?_) (fun h15 => ?_)
  · rw [eT] at h15
    have e20 : (σ.1 11 32 + 20).toInt = (σ.1 11 32).toInt + 20 := by rw [tn_add (by show -2147483648 ≤ (σ.1 11 32).toInt + 20; omega) (by show (σ.1 11 32).toInt + 20 ≤ 2147483647; omega)]; rfl
    have l0 : (σ.1 11 32).toInt ≤ 780 := by
      have g2 := tn_leI.mp h15
      rw [e20] at g2
      change _ ≤ (800 : Int) at g2
      omega
    have h0 : th_tp v σ 780 (tm_sI σ 11 0 0) := ⟨hT0, tv_un_fI rfl, by rw [eT]; exact l0⟩
    refine wp_lda rfl tm_m0 ?_
    refine wp_ldi rfl tm_m1 ?_
    refine wq_calv [.int a1] rfl rfl rfl rfl rfl rfl rfl rfl rfl (th_lay h0 (by omega)) ?_
    rintro _ s1 ⟨rfl, h1⟩
    refine wp_lda rfl tm_m0 ?_
    refine wp_ldi rfl tm_m2 ?_
    refine wq_calv [.int a2] rfl rfl rfl rfl rfl rfl rfl rfl rfl (th_lay h1 (by omega)) ?_
    rintro _ s2 ⟨rfl, h2⟩
    refine wp_lda rfl tm_m0 ?_
    refine wp_ldi rfl tm_m3 ?_
    refine wq_calv [.int a3] rfl rfl rfl rfl rfl rfl rfl rfl rfl (th_lay h2 (by omega)) ?_
    rintro _ s3 ⟨rfl, h3⟩
    refine wp_lda rfl tm_m0 ?_
    refine wp_ldi rfl tm_m4 ?_
    refine wq_calv [.int a4] rfl rfl rfl rfl rfl rfl rfl rfl rfl (th_lay h3 (by omega)) ?_
    rintro _ s4 ⟨rfl, h4⟩
    refine wp_lda rfl tm_m0 ?_
    refine wp_ldi rfl tm_m5 ?_
    refine wq_calv [.int a5] rfl rfl rfl rfl rfl rfl rfl rfl rfl (th_lay h4 (by omega)) ?_
    rintro _ s5 ⟨rfl, h5⟩
    refine wp_lda rfl tm_m0 ?_
    refine wq_geti rfl rfl (f := 32) rfl rfl (Or.inl rfl) ?_
    exact wp_reti rfl (th_nI rfl) ⟨⟨_, rfl⟩, h5.1⟩
  · refine wq_con (x := (-1)) rfl (by decide) ?_
    exact wp_reti rfl (th_nI rfl) ⟨⟨_, rfl⟩, hT0⟩
set_option maxRecDepth 100000 in
set_option maxHeartbeats 4000000 in
theorem th_say {d : Nat} {v : Int} {c : Int32} {σ0 σ : tm_S} {a : Int} (h : th_ou v σ0 a σ) (ha : a < 1000) : WM d 229 [.ref 11, .int c] σ (fun r σ' => r = none ∧ th_ou v σ0 (a + 1) σ') := by
  have hg : 0 ≤ (σ.1 11 34).toInt ∧ (σ.1 11 34).toInt ≤ 1000 := h.1.1 11 34
  have hl := h.2.2
  show WP d 229 0 [(0, .ref 11), (1, .int c)] [] σ _
  refine wp_lda rfl tm_m0 ?_
  refine wq_getr (p := 66) rfl rfl (f := 33) rfl rfl ?_
  refine wp_lda rfl tm_m0 ?_
  refine wq_geti rfl rfl (f := 34) rfl rfl (Or.inl rfl) ?_
  refine wp_ldi rfl tm_m1 ?_
  refine wp_iast rfl rfl (tn_in hg.1 (by omega)) ?_
  refine wp_lda rfl tm_m0 ?_
  refine wp_lda rfl tm_m0 ?_
  refine wq_geti rfl rfl (f := 34) rfl rfl (Or.inl rfl) ?_
  refine wq_con (x := 1) rfl (by decide) ?_
  refine wq_iadd rfl ?_
  refine wq_puti rfl rfl (f := 34) rfl rfl ?_
  exact wp_retv rfl ⟨rfl, th_ou_st h ha⟩
theorem th_ou_mo {v : Int} {σ0 σ : tm_S} {m m2 : Int} (h : th_ou v σ0 m σ) (hm : m ≤ m2) : th_ou v σ0 m2 σ := ⟨h.1, h.2.1, Int.le_trans h.2.2 hm⟩
set_option maxRecDepth 100000 in
set_option maxHeartbeats 4000000 in
theorem th_sayL {d : Nat} {v : Int} {c : Int32} {σ0 σ : tm_S} {a : Int} (h : th_ou v σ0 a σ) (ha : a < 999) : WM (d + 1) 230 [.ref 11, .int c] σ (fun r σ' => r = none ∧ th_ou v σ0 (a + 2) σ') := by
  show WP (d + 1) 230 0 [(0, .ref 11), (1, .int c)] [] σ _
  refine wp_lda rfl tm_m0 ?_
  refine wp_ldi rfl tm_m1 ?_
  refine wq_calv [.int c] rfl rfl rfl rfl rfl rfl rfl rfl rfl (th_say h (by omega)) ?_
  rintro _ s1 ⟨rfl, h1⟩
  refine wp_lda rfl tm_m0 ?_
  refine wq_con (x := 32) rfl (by decide) ?_
  refine wq_calv [.int 32] rfl rfl rfl rfl rfl rfl rfl rfl rfl (th_say h1 (by omega)) ?_
  rintro _ s2 ⟨rfl, h2⟩
  exact wp_retv rfl ⟨rfl, th_ou_mo h2 (by omega)⟩
set_option maxRecDepth 100000 in
set_option maxHeartbeats 4000000 in
theorem th_sayN {d : Nat} {v : Int} {c : Int32} {σ0 σ : tm_S} {a : Int} (h : th_ou v σ0 a σ) (ha : a < 998) : WM (d + 1) 231 [.ref 11, .int c] σ (fun r σ' => r = none ∧ th_ou v σ0 (a + 3) σ') := by
  have k17 : ∀ (s : tm_S), th_ou v σ0 (a + 1) s → WP (d + 1) 231 17 [(0, .ref 11), (1, .int c)] [] s (fun r σ' => r = none ∧ th_ou v σ0 (a + 3) σ') := by
    intro s h0
    refine wp_lda rfl tm_m0 ?_
    refine wq_con (x := 48) rfl (by decide) ?_
    refine wp_ldi rfl tm_m1 ?_
    refine wq_con (x := 10) rfl (by decide) ?_
    refine wp_rem rfl (by decide) ?_
    refine wq_iadd rfl ?_
    refine wq_calv [.int (48 + (c - c / 10 * 10))] rfl rfl rfl rfl rfl rfl rfl rfl rfl (th_say h0 (by omega)) ?_
    rintro _ s1 ⟨rfl, h1⟩
    refine wp_lda rfl tm_m0 ?_
    refine wq_con (x := 32) rfl (by decide) ?_
    refine wq_calv [.int 32] rfl rfl rfl rfl rfl rfl rfl rfl rfl (th_say h1 (by omega)) ?_
    rintro _ s2 ⟨rfl, h2⟩
    exact wp_retv rfl ⟨rfl, th_ou_mo h2 (by omega)⟩
  show WP (d + 1) 231 0 [(0, .ref 11), (1, .int c)] [] σ _
  refine wp_ldi rfl tm_m1 ?_
  refine wq_con (x := 9) rfl (by decide) ?_
  refine wq_icle rfl (fun h3 => ?_) (fun h3 => ?_)
  · exact k17 _ (th_ou_mo h (by omega))
  · refine wp_lda rfl tm_m0 ?_
    refine wq_con (x := 48) rfl (by decide) ?_
    refine wp_ldi rfl tm_m1 ?_
    refine wq_con (x := 10) rfl (by decide) ?_
    refine wp_div rfl (by decide) ?_
    refine wq_iadd rfl ?_
    refine wq_calv [.int (48 + (c / 10))] rfl rfl rfl rfl rfl rfl rfl rfl rfl (th_say h (by omega)) ?_
    rintro _ s1 ⟨rfl, h1⟩
    exact k17 _ h1
set_option maxRecDepth 100000 in
set_option maxHeartbeats 4000000 in
theorem th_write {d : Nat} {v : Int} (hv0 : 0 ≤ v) (hv : v ≤ 12) {σ : tm_S} (hT : tv_TY (tc_T v) σ) : WM (d + 2) 228 [.ref 11] σ (fun r σ' => (∃ z : Int32, r = some (.int z)) ∧ tv_TY (tc_T v) σ') := by
  have k105 : ∀ (m : Nat) (r : Int32) (s : tm_S), th_ou v σ (276 + 21 * r.toInt) s → 0 ≤ r.toInt → 8 ≤ r.toInt + m → r.toInt ≤ 8 → WP (d + 2) 228 105 [(1, .int r), (0, .ref 11)] [] s (fun r σ' => (∃ z : Int32, r = some (.int z)) ∧ tv_TY (tc_T v) σ') := by
    intro m
    induction m with
    | zero =>
      intro r s h hr1 hr2 hr3
      have gv : 0 ≤ (s.1 11 26).toInt ∧ (s.1 11 26).toInt ≤ 8 := h.1.1 11 26
      refine wp_ldi rfl tm_m0 ?_
      refine wp_lda rfl tm_m1 ?_
      refine wq_geti rfl rfl (f := 26) rfl rfl (Or.inl rfl) ?_
      refine wq_icge rfl (fun h110 => ?_) (fun h110 => absurd (tn_leI.mpr (by omega)) h110)
      refine wp_lda rfl tm_m1 ?_
      refine wq_geti rfl rfl (f := 34) rfl rfl (Or.inl rfl) ?_
      exact wp_reti rfl (th_nI rfl) ⟨⟨_, rfl⟩, h.1⟩
    | succ m ih =>
      intro r s h hr1 hr2 hr3
      have gv : 0 ≤ (s.1 11 26).toInt ∧ (s.1 11 26).toInt ≤ 8 := h.1.1 11 26
      have er := tn_add1 (x := r) (by omega)
      have k205 : ∀ (c : Int32) (s2 : tm_S), r.toInt ≤ 7 → th_ou v σ (276 + 21 * r.toInt + 8) s2 → WP (d + 2) 228 205 [(1, .int r), (0, .ref 11)] [.int c, .ref 11] s2 (fun r σ' => (∃ z : Int32, r = some (.int z)) ∧ tv_TY (tc_T v) σ') := by
        intro c s2 hr h0
        refine wq_calv [.int c] rfl rfl rfl rfl rfl rfl rfl rfl rfl (th_sayL h0 (by omega)) ?_
        rintro _ s1 ⟨rfl, h1⟩
        refine wp_lda rfl tm_m1 ?_
        refine wp_lda rfl tm_m1 ?_
        refine wq_getr (p := 63) rfl rfl (f := 29) rfl rfl ?_
        refine wp_ldi rfl tm_m0 ?_
        refine wp_iald rfl rfl (tn_in hr1 (by omega)) ?_
        refine wq_calv [.int (s1.1 63 r.toNatClampNeg)] rfl rfl rfl rfl rfl rfl rfl rfl rfl (th_sayN h1 (by omega)) ?_
        rintro _ s2 ⟨rfl, h2⟩
        refine wp_lda rfl tm_m1 ?_
        refine wq_con (x := 97) rfl (by decide) ?_
        refine wq_calv [.int 97] rfl rfl rfl rfl rfl rfl rfl rfl rfl (th_say h2 (by omega)) ?_
        rintro _ s3 ⟨rfl, h3⟩
        refine wp_lda rfl tm_m1 ?_
        refine wq_con (x := 116) rfl (by decide) ?_
        refine wq_calv [.int 116] rfl rfl rfl rfl rfl rfl rfl rfl rfl (th_sayL h3 (by omega)) ?_
        rintro _ s4 ⟨rfl, h4⟩
        refine wp_lda rfl tm_m1 ?_
        refine wp_lda rfl tm_m1 ?_
        refine wq_getr (p := 64) rfl rfl (f := 30) rfl rfl ?_
        refine wp_ldi rfl tm_m0 ?_
        refine wp_iald rfl rfl (tn_in hr1 (by omega)) ?_
        refine wq_calv [.int (s4.1 64 r.toNatClampNeg)] rfl rfl rfl rfl rfl rfl rfl rfl rfl (th_sayN h4 (by omega)) ?_
        rintro _ s5 ⟨rfl, h5⟩
        refine wp_lda rfl tm_m1 ?_
        refine wq_con (x := 59) rfl (by decide) ?_
        refine wq_calv [.int 59] rfl rfl rfl rfl rfl rfl rfl rfl rfl (th_say h5 (by omega)) ?_
        rintro _ s6 ⟨rfl, h6⟩
        refine wp_lda rfl tm_m1 ?_
        refine wq_con (x := 10) rfl (by decide) ?_
        refine wq_calv [.int 10] rfl rfl rfl rfl rfl rfl rfl rfl rfl (th_say h6 (by omega)) ?_
        rintro _ s7 ⟨rfl, h7⟩
        refine wq_inc (c := 1) [(1, .int (r + 1)), (0, .ref 11)] rfl tm_m0 rfl rfl ?_
        refine wp_go rfl ?_
        exact WP.less (ih (r + 1) _ (th_ou_mo h7 (by omega)) (by omega) (by omega) (by omega)) (by simp)
      refine wp_ldi rfl tm_m0 ?_
      refine wp_lda rfl tm_m1 ?_
      refine wq_geti rfl rfl (f := 26) rfl rfl (Or.inl rfl) ?_
      refine wq_icge rfl (fun h110 => ?_) (fun h110 => ?_)
      · refine wp_lda rfl tm_m1 ?_
        refine wq_geti rfl rfl (f := 34) rfl rfl (Or.inl rfl) ?_
        exact wp_reti rfl (th_nI rfl) ⟨⟨_, rfl⟩, h.1⟩
      · have e110 : r.toInt < (s.1 11 26).toInt := by rw [tn_leI] at h110; omega
        refine wp_lda rfl tm_m1 ?_
        refine wq_con (x := 118) rfl (by decide) ?_
        refine wq_calv [.int 118] rfl rfl rfl rfl rfl rfl rfl rfl rfl (th_say h (by omega)) ?_
        rintro _ s1 ⟨rfl, h1⟩
        refine wp_lda rfl tm_m1 ?_
        refine wq_con (x := 111) rfl (by decide) ?_
        refine wq_calv [.int 111] rfl rfl rfl rfl rfl rfl rfl rfl rfl (th_say h1 (by omega)) ?_
        rintro _ s2 ⟨rfl, h2⟩
        refine wp_lda rfl tm_m1 ?_
        refine wq_con (x := 105) rfl (by decide) ?_
        refine wq_calv [.int 105] rfl rfl rfl rfl rfl rfl rfl rfl rfl (th_say h2 (by omega)) ?_
        rintro _ s3 ⟨rfl, h3⟩
        refine wp_lda rfl tm_m1 ?_
        refine wq_con (x := 99) rfl (by decide) ?_
        refine wq_calv [.int 99] rfl rfl rfl rfl rfl rfl rfl rfl rfl (th_say h3 (by omega)) ?_
        rintro _ s4 ⟨rfl, h4⟩
        refine wp_lda rfl tm_m1 ?_
        refine wq_con (x := 101) rfl (by decide) ?_
        refine wq_calv [.int 101] rfl rfl rfl rfl rfl rfl rfl rfl rfl (th_sayL h4 (by omega)) ?_
        rintro _ s5 ⟨rfl, h5⟩
        refine wp_lda rfl tm_m1 ?_
        refine wp_lda rfl tm_m1 ?_
        refine wq_getr (p := 59) rfl rfl (f := 24) rfl rfl ?_
        refine wp_lda rfl tm_m1 ?_
        refine wq_getr (p := 61) rfl rfl (f := 27) rfl rfl ?_
        refine wp_ldi rfl tm_m0 ?_
        refine wp_iald rfl rfl (tn_in hr1 (by omega)) ?_
        refine wp_iald rfl rfl (tn_in (h5.1.1 61 _).1 (by have g6 : (s5.1 61 r.toNatClampNeg).toInt ≤ 5 := (h5.1.1 61 _).2; omega)) ?_
        refine wq_calv [.int (s5.1 59 (s5.1 61 r.toNatClampNeg).toNatClampNeg)] rfl rfl rfl rfl rfl rfl rfl rfl rfl (th_sayL h5 (by omega)) ?_
        rintro _ s6 ⟨rfl, h6⟩
        refine wp_lda rfl tm_m1 ?_
        refine wp_lda rfl tm_m1 ?_
        refine wq_getr (p := 62) rfl rfl (f := 28) rfl rfl ?_
        refine wp_ldi rfl tm_m0 ?_
        refine wp_iald rfl rfl (tn_in hr1 (by omega)) ?_
        refine wq_ifne rfl (fun h165 => ?_) (fun h165 => ?_)
        · refine wp_lda rfl tm_m1 ?_
          refine wq_getr (p := 62) rfl rfl (f := 28) rfl rfl ?_
          refine wp_ldi rfl tm_m0 ?_
          refine wp_iald rfl rfl (tn_in hr1 (by omega)) ?_
          refine wq_con (x := 1) rfl (by decide) ?_
          refine wq_icne rfl (fun h180 => ?_) (fun h180 => ?_)
          · refine wp_lda rfl tm_m1 ?_
            refine wq_getr (p := 62) rfl rfl (f := 28) rfl rfl ?_
            refine wp_ldi rfl tm_m0 ?_
            refine wp_iald rfl rfl (tn_in hr1 (by omega)) ?_
            refine wq_con (x := 2) rfl (by decide) ?_
            refine wq_icne rfl (fun h195 => ?_) (fun h195 => ?_)
            · refine wq_con (x := 117) rfl (by decide) ?_
              exact k205 _ _ (by omega) (th_ou_mo h6 (by omega))
            · refine wq_con (x := 114) rfl (by decide) ?_
              refine wp_go rfl ?_
              exact k205 _ _ (by omega) (th_ou_mo h6 (by omega))
          · refine wq_con (x := 105) rfl (by decide) ?_
            refine wp_go rfl ?_
            exact k205 _ _ (by omega) (th_ou_mo h6 (by omega))
        · refine wq_con (x := 112) rfl (by decide) ?_
          refine wp_go rfl ?_
          exact k205 _ _ (by omega) (th_ou_mo h6 (by omega))
  have k12 : ∀ (m : Nat) (r : Int32) (s : tm_S), th_ou v σ (46 * r.toInt) s → 0 ≤ r.toInt → 6 ≤ r.toInt + m → r.toInt ≤ 6 → WP (d + 2) 228 12 [(1, .int r), (0, .ref 11)] [] s (fun r σ' => (∃ z : Int32, r = some (.int z)) ∧ tv_TY (tc_T v) σ') := by
    intro m
    induction m with
    | zero =>
      intro r s h hr1 hr2 hr3
      have gv : 0 ≤ (s.1 11 23).toInt ∧ (s.1 11 23).toInt ≤ 6 := h.1.1 11 23
      refine wp_ldi rfl tm_m0 ?_
      refine wp_lda rfl tm_m1 ?_
      refine wq_geti rfl rfl (f := 23) rfl rfl (Or.inl rfl) ?_
      refine wq_icge rfl (fun h17 => ?_) (fun h17 => absurd (tn_leI.mpr (by omega)) h17)
      refine wq_con (x := 0) rfl (by decide) ?_
      refine wq_sti [(1, .int 0), (0, .ref 11)] rfl rfl ?_
      exact WP.less (k105 8 0 _ (th_ou_mo h (by show 46 * r.toInt ≤ 276 + 21 * 0; omega)) (by decide) (by decide) (by decide)) (by simp)
    | succ m ih =>
      intro r s h hr1 hr2 hr3
      have gv : 0 ≤ (s.1 11 23).toInt ∧ (s.1 11 23).toInt ≤ 6 := h.1.1 11 23
      have er := tn_add1 (x := r) (by omega)
      have k56 : ∀ (m2 : Nat) (i : Int32) (s : tm_S), r.toInt ≤ 5 → th_ou v σ (46 * r.toInt + 8 + 3 * i.toInt) s → 0 ≤ i.toInt → v ≤ i.toInt + m2 → i.toInt ≤ v → WP (d + 2) 228 56 [(2, .int i), (1, .int r), (0, .ref 11)] [] s (fun r σ' => (∃ z : Int32, r = some (.int z)) ∧ tv_TY (tc_T v) σ') := by
        intro m2
        induction m2 with
        | zero =>
          intro i s hr h hi1 hi2 hi3
          have gn : v ≤ (s.1 11 1).toInt ∧ (s.1 11 1).toInt ≤ v := h.1.1 11 1
          refine wp_ldi rfl tm_m0 ?_
          refine wp_lda rfl tm_m2 ?_
          refine wq_geti rfl rfl (f := 1) rfl rfl (Or.inl rfl) ?_
          refine wq_icge rfl (fun h61 => ?_) (fun h61 => absurd (tn_leI.mpr (by omega)) h61)
          refine wp_lda rfl tm_m2 ?_
          refine wq_con (x := 59) rfl (by decide) ?_
          refine wq_calv [.int 59] rfl rfl rfl rfl rfl rfl rfl rfl rfl (th_say h (by omega)) ?_
          rintro _ s1 ⟨rfl, h1⟩
          refine wp_lda rfl tm_m2 ?_
          refine wq_con (x := 10) rfl (by decide) ?_
          refine wq_calv [.int 10] rfl rfl rfl rfl rfl rfl rfl rfl rfl (th_say h1 (by omega)) ?_
          rintro _ s2 ⟨rfl, h2⟩
          refine wq_inc (c := 1) [(1, .int (r + 1)), (2, .int i), (0, .ref 11)] rfl tm_m1 rfl rfl ?_
          refine wp_go rfl ?_
          exact WP.less (ih (r + 1) _ (th_ou_mo h2 (by omega)) (by omega) (by omega) (by omega)) (by simp)
        | succ m2 ih2 =>
          intro i s hr h hi1 hi2 hi3
          have gn : v ≤ (s.1 11 1).toInt ∧ (s.1 11 1).toInt ≤ v := h.1.1 11 1
          have ei := tn_add1 (x := i) (by omega)
          have e12 : (12 * r).toInt = 12 * r.toInt := by rw [tn_mul (by show -2147483648 ≤ 12 * r.toInt; omega) (by show 12 * r.toInt ≤ 2147483647; omega)]; rfl
          have e13 : (12 * r + i).toInt = 12 * r.toInt + i.toInt := by rw [tn_add (by omega) (by omega), e12]
          refine wp_ldi rfl tm_m0 ?_
          refine wp_lda rfl tm_m2 ?_
          refine wq_geti rfl rfl (f := 1) rfl rfl (Or.inl rfl) ?_
          refine wq_icge rfl (fun h61 => ?_) (fun h61 => ?_)
          · refine wp_lda rfl tm_m2 ?_
            refine wq_con (x := 59) rfl (by decide) ?_
            refine wq_calv [.int 59] rfl rfl rfl rfl rfl rfl rfl rfl rfl (th_say h (by omega)) ?_
            rintro _ s1 ⟨rfl, h1⟩
            refine wp_lda rfl tm_m2 ?_
            refine wq_con (x := 10) rfl (by decide) ?_
            refine wq_calv [.int 10] rfl rfl rfl rfl rfl rfl rfl rfl rfl (th_say h1 (by omega)) ?_
            rintro _ s2 ⟨rfl, h2⟩
            refine wq_inc (c := 1) [(1, .int (r + 1)), (2, .int i), (0, .ref 11)] rfl tm_m1 rfl rfl ?_
            refine wp_go rfl ?_
            exact WP.less (ih (r + 1) _ (th_ou_mo h2 (by omega)) (by omega) (by omega) (by omega)) (by simp)
          · have e61 : i.toInt < (s.1 11 1).toInt := by rw [tn_leI] at h61; omega
            refine wp_lda rfl tm_m2 ?_
            refine wp_lda rfl tm_m2 ?_
            refine wq_getr (p := 60) rfl rfl (f := 25) rfl rfl ?_
            refine wq_con (x := 12) rfl (by decide) ?_
            refine wp_ldi rfl tm_m1 ?_
            refine wq_imul rfl ?_
            refine wp_ldi rfl tm_m0 ?_
            refine wq_iadd rfl ?_
            refine wp_iald rfl rfl (tn_in (by omega) (by omega)) ?_
            refine wq_calv [.int (s.1 60 ((12 * r) + i).toNatClampNeg)] rfl rfl rfl rfl rfl rfl rfl rfl rfl (th_sayN h (by omega)) ?_
            rintro _ s3 ⟨rfl, h3⟩
            refine wq_inc (c := 1) [(2, .int (i + 1)), (1, .int r), (0, .ref 11)] rfl tm_m0 rfl rfl ?_
            refine wp_go rfl ?_
            exact WP.less (ih2 (i + 1) _ hr (th_ou_mo h3 (by omega)) (by omega) (by omega) (by omega)) (by simp)
      refine wp_ldi rfl tm_m0 ?_
      refine wp_lda rfl tm_m1 ?_
      refine wq_geti rfl rfl (f := 23) rfl rfl (Or.inl rfl) ?_
      refine wq_icge rfl (fun h17 => ?_) (fun h17 => ?_)
      · refine wq_con (x := 0) rfl (by decide) ?_
        refine wq_sti [(1, .int 0), (0, .ref 11)] rfl rfl ?_
        exact WP.less (k105 8 0 _ (th_ou_mo h (by show 46 * r.toInt ≤ 276 + 21 * 0; omega)) (by decide) (by decide) (by decide)) (by simp)
      · have e17 : r.toInt < (s.1 11 23).toInt := by rw [tn_leI] at h17; omega
        refine wp_lda rfl tm_m1 ?_
        refine wq_con (x := 114) rfl (by decide) ?_
        refine wq_calv [.int 114] rfl rfl rfl rfl rfl rfl rfl rfl rfl (th_say h (by omega)) ?_
        rintro _ s1 ⟨rfl, h1⟩
        refine wp_lda rfl tm_m1 ?_
        refine wq_con (x := 111) rfl (by decide) ?_
        refine wq_calv [.int 111] rfl rfl rfl rfl rfl rfl rfl rfl rfl (th_say h1 (by omega)) ?_
        rintro _ s2 ⟨rfl, h2⟩
        refine wp_lda rfl tm_m1 ?_
        refine wq_con (x := 119) rfl (by decide) ?_
        refine wq_calv [.int 119] rfl rfl rfl rfl rfl rfl rfl rfl rfl (th_sayL h2 (by omega)) ?_
        rintro _ s3 ⟨rfl, h3⟩
        refine wp_lda rfl tm_m1 ?_
        refine wp_lda rfl tm_m1 ?_
        refine wq_getr (p := 59) rfl rfl (f := 24) rfl rfl ?_
        refine wp_ldi rfl tm_m0 ?_
        refine wp_iald rfl rfl (tn_in hr1 (by omega)) ?_
        refine wq_calv [.int (s3.1 59 r.toNatClampNeg)] rfl rfl rfl rfl rfl rfl rfl rfl rfl (th_sayL h3 (by omega)) ?_
        rintro _ s4 ⟨rfl, h4⟩
        refine wp_lda rfl tm_m1 ?_
        refine wq_con (x := 61) rfl (by decide) ?_
        refine wq_calv [.int 61] rfl rfl rfl rfl rfl rfl rfl rfl rfl (th_sayL h4 (by omega)) ?_
        rintro _ s5 ⟨rfl, h5⟩
        refine wq_con (x := 0) rfl (by decide) ?_
        refine wq_sti [(2, .int 0), (1, .int r), (0, .ref 11)] rfl rfl ?_
        exact WP.less (k56 12 0 _ (by omega) (th_ou_mo h5 (by show _ ≤ 46 * r.toInt + 8 + 3 * (0 : Int); omega)) (by decide) (by show v ≤ (0 : Int) + 12; omega) (by show (0 : Int) ≤ v; omega)) (by simp)
  show WP (d + 2) 228 0 [(0, .ref 11)] [] σ _
  refine wp_lda rfl tm_m0 ?_
  refine wq_con (x := 0) rfl (by decide) ?_
  refine wq_puti rfl rfl (f := 0) rfl rfl ?_
  refine wp_lda rfl tm_m0 ?_
  refine wq_con (x := 0) rfl (by decide) ?_
  refine wq_puti rfl rfl (f := 34) rfl rfl ?_
  refine wq_con (x := 0) rfl (by decide) ?_
  refine wq_sti [(1, .int 0), (0, .ref 11)] rfl rfl ?_
  exact WP.less (k12 6 0 _ ⟨tv_TY_sI (tv_TY_sI hT tv_z0 tv_z1) tv_zz (by show (0 : Int) ≤ 1000; decide), tv_un_tr (tv_un_fI rfl) (tv_un_fI rfl), by rw [tm_gI, if_pos ⟨rfl, rfl⟩]; decide⟩ (by decide) (by decide) (by decide)) (by simp)
