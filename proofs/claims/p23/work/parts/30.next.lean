/-! ===== reading, of the reference: next ===== -/
def th_NI (v : Int) (σ s : tm_S) : Prop := tv_TY (tc_T v) s ∧ tv_un σ s [(11, 35), (11, 36), (11, 37), (11, 38)]
theorem th_NI_k {v : Int} {σ s : tm_S} {x : Int32} (h : th_NI v σ s) : th_NI v σ (tm_sI s 11 37 x) := ⟨tv_TY_sI h.1 (tn_rng x).1 (tn_rng x).2, tv_un_tr h.2 (tv_un_fI rfl)⟩
theorem th_NI_w {v : Int} {σ s : tm_S} {x : Int32} (h : th_NI v σ s) : th_NI v σ (tm_sI s 11 38 x) := ⟨tv_TY_sI h.1 (tn_rng x).1 (tn_rng x).2, tv_un_tr h.2 (tv_un_fI rfl)⟩
theorem th_NI_f {v : Int} {σ s : tm_S} {x : Int32} (h : th_NI v σ s) (h1 : 0 ≤ x.toInt) (h2 : x.toInt ≤ 800) : th_NI v σ (tm_sI s 11 36 x) := ⟨tv_TY_sI h.1 h1 h2, tv_un_tr h.2 (tv_un_fI rfl)⟩
theorem th_NI_r {v : Int} {σ s : tm_S} {x : Int32} (h : th_NI v σ s) (h1 : 0 ≤ x.toInt) (h2 : x.toInt ≤ 800) : th_NI v σ (tm_sI s 11 35 x) := ⟨tv_TY_sI h.1 h1 h2, tv_un_tr h.2 (tv_un_fI rfl)⟩
theorem th_NI_g {v : Int} {σ s : tm_S} (h : th_NI v σ s) : (0 ≤ (s.1 11 35).toInt ∧ (s.1 11 35).toInt ≤ 800) ∧ 0 ≤ (s.1 11 32).toInt ∧ (s.1 11 32).toInt ≤ 800 := ⟨h.1.1 11 35, h.1.1 11 32⟩
/-- within a word: the token isn't a number's, so many places on -/
def th_NW (v : Int) (σ : tm_S) (lg : Int32) (s : tm_S) : Prop := th_NI v σ s ∧ (s.1 11 35).toInt + lg.toInt ≤ 800 ∧ ¬ s.1 11 37 = 6
theorem th_NW_k {v : Int} {σ s : tm_S} {lg x : Int32} (h : th_NW v σ lg s) (hx : ¬ x = 6) : th_NW v σ lg (tm_sI s 11 37 x) := by
  refine ⟨th_NI_k h.1, ?_, ?_⟩
  · rw [tm_gI, if_neg (fun e => absurd e.2 (by decide))]
    exact h.2.1
  · rw [tm_gI, if_pos ⟨rfl, rfl⟩]
    exact hx
theorem th_NW_w {v : Int} {σ s : tm_S} {lg x : Int32} (h : th_NW v σ lg s) : th_NW v σ lg (tm_sI s 11 38 x) := by
  refine ⟨th_NI_w h.1, ?_, ?_⟩
  · rw [tm_gI, if_neg (fun e => absurd e.2 (by decide))]
    exact h.2.1
  · rw [tm_gI, if_neg (fun e => absurd e.2 (by decide))]
    exact h.2.2
set_option maxRecDepth 100000 in
set_option maxHeartbeats 4000000 in
theorem th_next {d : Nat} {v : Int} {σ : tm_S} (hT : tv_TY (tc_T v) σ) : WM (d + 1) 234 [.ref 11] σ (fun r σ' => r = none ∧ th_NI v σ σ' ∧ (σ'.1 11 37 = 6 → 0 ≤ (σ'.1 11 38).toInt)) := by
  have k233 : ∀ (c lg : Int32) (s : tm_S), 0 ≤ lg.toInt → th_NW v σ lg s → WP (d + 1) 234 233 [(2, .int lg), (1, .int c), (0, .ref 11)] [] s (fun r σ' => r = none ∧ th_NI v σ σ' ∧ (σ'.1 11 37 = 6 → 0 ≤ (σ'.1 11 38).toInt)) := by
    intro c lg s hl h
    have hg := th_NI_g h.1
    have hs := h.2.1
    have e1 : (s.1 11 35 + lg).toInt = (s.1 11 35).toInt + lg.toInt := tn_add (by omega) (by omega)
    refine wp_lda rfl tm_m2 ?_
    refine wp_lda rfl tm_m2 ?_
    refine wq_geti rfl rfl (f := 35) rfl rfl (Or.inl rfl) ?_
    refine wp_ldi rfl tm_m0 ?_
    refine wq_iadd rfl ?_
    refine wq_puti rfl rfl (f := 35) rfl rfl ?_
    refine wp_go rfl ?_
    refine wp_retv rfl ⟨rfl, th_NI_r h.1 (by omega) (by omega), fun e => ?_⟩
    rw [tm_gI, if_neg (fun e => absurd e.2 (by decide))] at e
    exact absurd e h.2.2
  have k207 : ∀ (c lg : Int32) (s : tm_S), 0 ≤ lg.toInt → th_NW v σ lg s → WP (d + 1) 234 207 [(2, .int lg), (1, .int c), (0, .ref 11)] [] s (fun r σ' => r = none ∧ th_NI v σ σ' ∧ (σ'.1 11 37 = 6 → 0 ≤ (σ'.1 11 38).toInt)) := by
    intro c lg s hl h
    refine wp_ldi rfl tm_m0 ?_
    refine wq_con (x := 2) rfl (by decide) ?_
    refine wq_icne rfl (fun h209 => ?_) (fun h209 => ?_)
    · exact k233 c lg _ hl h
    · refine wp_ldi rfl tm_m1 ?_
      refine wq_con (x := 97) rfl (by decide) ?_
      refine wq_icne rfl (fun h215 => ?_) (fun h215 => ?_)
      · exact k233 c lg _ hl h
      · refine wp_lda rfl tm_m2 ?_
        refine wq_con (x := 1) rfl (by decide) ?_
        refine wq_calv [.int 1] rfl rfl rfl rfl rfl rfl rfl rfl rfl (th_raw (h.1.1) (by decide) (by decide)) ?_
        rintro _ _ ⟨rfl, rfl⟩
        refine wq_con (x := 116) rfl (by decide) ?_
        refine wq_icne rfl (fun h225 => ?_) (fun h225 => ?_)
        · exact k233 c lg _ hl h
        · refine wp_lda rfl tm_m2 ?_
          refine wq_con (x := 4) rfl (by decide) ?_
          refine wq_puti rfl rfl (f := 37) rfl rfl ?_
          exact k233 c lg _ hl (th_NW_k h (by decide))
  have k151 : ∀ (c lg : Int32) (s : tm_S), 0 ≤ lg.toInt → th_NW v σ lg s → WP (d + 1) 234 151 [(2, .int lg), (1, .int c), (0, .ref 11)] [] s (fun r σ' => r = none ∧ th_NI v σ σ' ∧ (σ'.1 11 37 = 6 → 0 ≤ (σ'.1 11 38).toInt)) := by
    intro c lg s hl h
    refine wp_ldi rfl tm_m0 ?_
    refine wq_con (x := 5) rfl (by decide) ?_
    refine wq_icne rfl (fun h153 => ?_) (fun h153 => ?_)
    · exact k207 c lg _ hl h
    · refine wp_ldi rfl tm_m1 ?_
      refine wq_con (x := 118) rfl (by decide) ?_
      refine wq_icne rfl (fun h159 => ?_) (fun h159 => ?_)
      · exact k207 c lg _ hl h
      · refine wp_lda rfl tm_m2 ?_
        refine wq_con (x := 1) rfl (by decide) ?_
        refine wq_calv [.int 1] rfl rfl rfl rfl rfl rfl rfl rfl rfl (th_raw (h.1.1) (by decide) (by decide)) ?_
        rintro _ _ ⟨rfl, rfl⟩
        refine wq_con (x := 111) rfl (by decide) ?_
        refine wq_icne rfl (fun h169 => ?_) (fun h169 => ?_)
        · exact k207 c lg _ hl h
        · refine wp_lda rfl tm_m2 ?_
          refine wq_con (x := 2) rfl (by decide) ?_
          refine wq_calv [.int 2] rfl rfl rfl rfl rfl rfl rfl rfl rfl (th_raw (h.1.1) (by decide) (by decide)) ?_
          rintro _ _ ⟨rfl, rfl⟩
          refine wq_con (x := 105) rfl (by decide) ?_
          refine wq_icne rfl (fun h179 => ?_) (fun h179 => ?_)
          · exact k207 c lg _ hl h
          · refine wp_lda rfl tm_m2 ?_
            refine wq_con (x := 3) rfl (by decide) ?_
            refine wq_calv [.int 3] rfl rfl rfl rfl rfl rfl rfl rfl rfl (th_raw (h.1.1) (by decide) (by decide)) ?_
            rintro _ _ ⟨rfl, rfl⟩
            refine wq_con (x := 99) rfl (by decide) ?_
            refine wq_icne rfl (fun h189 => ?_) (fun h189 => ?_)
            · exact k207 c lg _ hl h
            · refine wp_lda rfl tm_m2 ?_
              refine wq_con (x := 4) rfl (by decide) ?_
              refine wq_calv [.int 4] rfl rfl rfl rfl rfl rfl rfl rfl rfl (th_raw (h.1.1) (by decide) (by decide)) ?_
              rintro _ _ ⟨rfl, rfl⟩
              refine wq_con (x := 101) rfl (by decide) ?_
              refine wq_icne rfl (fun h199 => ?_) (fun h199 => ?_)
              · exact k207 c lg _ hl h
              · refine wp_lda rfl tm_m2 ?_
                refine wq_con (x := 3) rfl (by decide) ?_
                refine wq_puti rfl rfl (f := 37) rfl rfl ?_
                exact k207 c lg _ hl (th_NW_k h (by decide))
  have k115 : ∀ (c lg : Int32) (s : tm_S), 0 ≤ lg.toInt → th_NW v σ lg s → WP (d + 1) 234 115 [(2, .int lg), (1, .int c), (0, .ref 11)] [] s (fun r σ' => r = none ∧ th_NI v σ σ' ∧ (σ'.1 11 37 = 6 → 0 ≤ (σ'.1 11 38).toInt)) := by
    intro c lg s hl h
    refine wp_ldi rfl tm_m0 ?_
    refine wq_con (x := 3) rfl (by decide) ?_
    refine wq_icne rfl (fun h117 => ?_) (fun h117 => ?_)
    · exact k151 c lg _ hl h
    · refine wp_ldi rfl tm_m1 ?_
      refine wq_con (x := 114) rfl (by decide) ?_
      refine wq_icne rfl (fun h123 => ?_) (fun h123 => ?_)
      · exact k151 c lg _ hl h
      · refine wp_lda rfl tm_m2 ?_
        refine wq_con (x := 1) rfl (by decide) ?_
        refine wq_calv [.int 1] rfl rfl rfl rfl rfl rfl rfl rfl rfl (th_raw (h.1.1) (by decide) (by decide)) ?_
        rintro _ _ ⟨rfl, rfl⟩
        refine wq_con (x := 111) rfl (by decide) ?_
        refine wq_icne rfl (fun h133 => ?_) (fun h133 => ?_)
        · exact k151 c lg _ hl h
        · refine wp_lda rfl tm_m2 ?_
          refine wq_con (x := 2) rfl (by decide) ?_
          refine wq_calv [.int 2] rfl rfl rfl rfl rfl rfl rfl rfl rfl (th_raw (h.1.1) (by decide) (by decide)) ?_
          rintro _ _ ⟨rfl, rfl⟩
          refine wq_con (x := 119) rfl (by decide) ?_
          refine wq_icne rfl (fun h143 => ?_) (fun h143 => ?_)
          · exact k151 c lg _ hl h
          · refine wp_lda rfl tm_m2 ?_
            refine wq_con (x := 2) rfl (by decide) ?_
            refine wq_puti rfl rfl (f := 37) rfl rfl ?_
            exact k151 c lg _ hl (th_NW_k h (by decide))
  have k99 : ∀ (c lg : Int32) (s : tm_S), 0 ≤ lg.toInt → th_NW v σ lg s → WP (d + 1) 234 99 [(2, .int lg), (1, .int c), (0, .ref 11)] [] s (fun r σ' => r = none ∧ th_NI v σ σ' ∧ (σ'.1 11 37 = 6 → 0 ≤ (σ'.1 11 38).toInt)) := by
    intro c lg s hl h
    refine wp_ldi rfl tm_m0 ?_
    refine wq_con (x := 1) rfl (by decide) ?_
    refine wq_icne rfl (fun h101 => ?_) (fun h101 => ?_)
    · exact k115 c lg _ hl h
    · refine wp_ldi rfl tm_m1 ?_
      refine wq_con (x := 97) rfl (by decide) ?_
      refine wq_iclt rfl (fun h107 => ?_) (fun h107 => ?_)
      · exact k115 c lg _ hl h
      · refine wp_lda rfl tm_m2 ?_
        refine wq_con (x := 5) rfl (by decide) ?_
        refine wq_puti rfl rfl (f := 37) rfl rfl ?_
        exact k115 c lg _ hl (th_NW_k h (by decide))
  have k75 : ∀ (m : Nat) (c lg : Int32) (s : tm_S), 0 ≤ lg.toInt → th_NW v σ lg s → 800 ≤ (s.1 11 35).toInt + lg.toInt + m → WP (d + 1) 234 75 [(2, .int lg), (1, .int c), (0, .ref 11)] [] s (fun r σ' => r = none ∧ th_NI v σ σ' ∧ (σ'.1 11 37 = 6 → 0 ≤ (σ'.1 11 38).toInt)) := by
    intro m
    induction m with
    | zero =>
      intro c lg s hl h hm
      have hg := th_NI_g h.1
      have hs := h.2.1
      refine wp_lda rfl tm_m2 ?_
      refine wp_lda rfl tm_m2 ?_
      refine wp_ldi rfl tm_m0 ?_
      refine wq_calv [.int lg] rfl rfl rfl rfl rfl rfl rfl rfl rfl (th_raw (h.1.1) (by omega) (by omega)) ?_
      rintro _ _ ⟨rfl, rfl⟩
      refine wq_calv [.int (th_rw s lg)] rfl rfl rfl rfl rfl rfl rfl rfl rfl (th_mlet) ?_
      rintro r1 _ ⟨hr1, rfl⟩
      obtain ⟨z1, rfl, hz1⟩ : ∃ z : Int32, r1 = some (.int z) ∧ (¬ z = 0 → 65 ≤ (th_rw s lg).toInt ∧ (th_rw s lg).toInt ≤ 122) := by
        rcases hr1 with ⟨rfl, g1, g2⟩ | rfl
        · exact ⟨_, rfl, fun _ => ⟨g1, g2⟩⟩
        · exact ⟨_, rfl, fun e => absurd rfl e⟩
      refine wq_ifeq rfl (fun h84 => ?_) (fun h84 => ?_)
      · refine wp_lda rfl tm_m2 ?_
        refine wp_ldi rfl tm_m1 ?_
        refine wq_puti rfl rfl (f := 38) rfl rfl ?_
        exact k99 c lg _ hl (th_NW_w h)
      · refine wp_ldi rfl tm_m0 ?_
        refine wq_con (x := 1) rfl (by decide) ?_
        refine wq_iadd rfl ?_
        refine wq_sti [(2, .int (lg + 1)), (1, .int c), (0, .ref 11)] rfl rfl ?_
        refine wp_go rfl ?_
        exact absurd (th_rw_ne h.1.1 (by omega) (by omega) (fun e => by have g3 := (hz1 h84).1; rw [e] at g3; exact absurd g3 (by decide))) (by omega)
    | succ m ih =>
      intro c lg s hl h hm
      have hg := th_NI_g h.1
      have hs := h.2.1
      refine wp_lda rfl tm_m2 ?_
      refine wp_lda rfl tm_m2 ?_
      refine wp_ldi rfl tm_m0 ?_
      refine wq_calv [.int lg] rfl rfl rfl rfl rfl rfl rfl rfl rfl (th_raw (h.1.1) (by omega) (by omega)) ?_
      rintro _ _ ⟨rfl, rfl⟩
      refine wq_calv [.int (th_rw s lg)] rfl rfl rfl rfl rfl rfl rfl rfl rfl (th_mlet) ?_
      rintro r1 _ ⟨hr1, rfl⟩
      obtain ⟨z1, rfl, hz1⟩ : ∃ z : Int32, r1 = some (.int z) ∧ (¬ z = 0 → 65 ≤ (th_rw s lg).toInt ∧ (th_rw s lg).toInt ≤ 122) := by
        rcases hr1 with ⟨rfl, g1, g2⟩ | rfl
        · exact ⟨_, rfl, fun _ => ⟨g1, g2⟩⟩
        · exact ⟨_, rfl, fun e => absurd rfl e⟩
      refine wq_ifeq rfl (fun h84 => ?_) (fun h84 => ?_)
      · refine wp_lda rfl tm_m2 ?_
        refine wp_ldi rfl tm_m1 ?_
        refine wq_puti rfl rfl (f := 38) rfl rfl ?_
        exact k99 c lg _ hl (th_NW_w h)
      · refine wp_ldi rfl tm_m0 ?_
        refine wq_con (x := 1) rfl (by decide) ?_
        refine wq_iadd rfl ?_
        refine wq_sti [(2, .int (lg + 1)), (1, .int c), (0, .ref 11)] rfl rfl ?_
        refine wp_go rfl ?_
        have g4 := th_rw_ne h.1.1 (by omega) (by omega) (fun e => by have g3 := (hz1 h84).1; rw [e] at g3; exact absurd g3 (by decide))
        have e2 := tn_add1 (x := lg) (by omega)
        exact WP.less (ih c (lg + 1) _ (by omega) ⟨h.1, by omega, h.2.2⟩ (by omega)) (by simp)
  have k261 : ∀ (m : Nat) (c mn : Int32) (s : tm_S), th_NI v σ s → ¬ s.1 11 37 = 6 → 0 ≤ mn.toInt → mn.toInt ≤ (s.1 11 35).toInt → 0 ≤ (s.1 11 38).toInt → (s.1 11 38).toInt ≤ 99 → (mn.toInt = 0 → (s.1 11 38).toInt = 0) → (mn.toInt ≤ 1 → (s.1 11 38).toInt ≤ 9) → 800 ≤ (s.1 11 35).toInt + m → WP (d + 1) 234 261 [(2, .int mn), (1, .int c), (0, .ref 11)] [] s (fun r σ' => r = none ∧ th_NI v σ σ' ∧ (σ'.1 11 37 = 6 → 0 ≤ (σ'.1 11 38).toInt)) := by
    intro m
    induction m with
    | zero =>
      intro c mn s h ht hn0 hn1 hw0 hw1 hw2 hw3 hm
      have hg := th_NI_g h
      refine wp_lda rfl tm_m2 ?_
      refine wp_lda rfl tm_m2 ?_
      refine wq_con (x := 0) rfl (by decide) ?_
      refine wq_calv [.int 0] rfl rfl rfl rfl rfl rfl rfl rfl rfl (th_raw (h.1) (by decide) (by decide)) ?_
      rintro _ _ ⟨rfl, rfl⟩
      refine wq_calv [.int (th_rw s 0)] rfl rfl rfl rfl rfl rfl rfl rfl rfl (th_mdig) ?_
      rintro r1 _ ⟨hr1, rfl⟩
      obtain ⟨z1, rfl, hz1⟩ : ∃ z : Int32, r1 = some (.int z) ∧ (¬ z = 0 → 48 ≤ (th_rw s 0).toInt ∧ (th_rw s 0).toInt ≤ 57) := by
        rcases hr1 with ⟨rfl, g1, g2⟩ | rfl
        · exact ⟨_, rfl, fun _ => ⟨g1, g2⟩⟩
        · exact ⟨_, rfl, fun e => absurd rfl e⟩
      refine wq_ifeq rfl (fun h270 => ?_) (fun h270 => ?_)
      · have g270 : (z1).toInt = 0 := congrArg Int32.toInt h270
        refine wp_ldi rfl tm_m0 ?_
        refine wq_con (x := 3) rfl (by decide) ?_
        refine wq_icge rfl (fun h317 => ?_) (fun h317 => ?_)
        · have g317 : 3 ≤ (mn).toInt := tn_leI.mp h317
          refine wp_go rfl ?_
          exact wp_retv rfl ⟨rfl, h, fun e => absurd e ht⟩
        · have g317 : ¬ 3 ≤ (mn).toInt := fun g => h317 (tn_leI.mpr g)
          refine wp_lda rfl tm_m2 ?_
          refine wq_con (x := 6) rfl (by decide) ?_
          refine wq_puti rfl rfl (f := 37) rfl rfl ?_
          refine wp_go rfl ?_
          refine wp_retv rfl ⟨rfl, th_NI_k h, fun _ => ?_⟩
          rw [tm_gI, if_neg (fun e => absurd e.2 (by decide))]
          exact hw0
      · exact absurd (th_rw_ne (k := 0) h.1 (by decide) (by decide) (fun e => by have g3 := (hz1 h270).1; rw [e] at g3; exact absurd g3 (by decide))) (by show ¬ (s.1 11 35).toInt + 0 < _; omega)
    | succ m ih =>
      intro c mn s h ht hn0 hn1 hw0 hw1 hw2 hw3 hm
      have hg := th_NI_g h
      have k298 : ∀ s2 : tm_S, th_NI v σ s2 → ¬ s2.1 11 37 = 6 → (s2.1 11 35).toInt < 800 → s2.1 11 35 = s.1 11 35 → 0 ≤ (s2.1 11 38).toInt → (s2.1 11 38).toInt ≤ 99 → (mn.toInt = 0 → (s2.1 11 38).toInt ≤ 9) → WP (d + 1) 234 298 [(2, .int mn), (1, .int c), (0, .ref 11)] [] s2 (fun r σ' => r = none ∧ th_NI v σ σ' ∧ (σ'.1 11 37 = 6 → 0 ≤ (σ'.1 11 38).toInt)) := by
        intro s2 h2 ht2 hr2 er hv0 hv1 hv2
        have hg2 := th_NI_g h2
        have e1 := tn_add1 (x := s2.1 11 35) (by omega)
        have e2 := tn_add1 (x := mn) (by omega)
        refine wp_ldi rfl tm_m0 ?_
        refine wq_con (x := 1) rfl (by decide) ?_
        refine wq_iadd rfl ?_
        refine wq_sti [(2, .int (mn + 1)), (1, .int c), (0, .ref 11)] rfl rfl ?_
        refine wp_lda rfl tm_m2 ?_
        refine wp_lda rfl tm_m2 ?_
        refine wq_geti rfl rfl (f := 35) rfl rfl (Or.inl rfl) ?_
        refine wq_con (x := 1) rfl (by decide) ?_
        refine wq_iadd rfl ?_
        refine wq_puti rfl rfl (f := 35) rfl rfl ?_
        refine wp_go rfl ?_
        exact WP.less (ih c (mn + 1) _ (th_NI_r h2 (by omega) (by omega)) (by rw [tm_gI, if_neg (fun e => absurd e.2 (by decide))]; exact ht2) (by omega) (by rw [tm_gI, if_pos ⟨rfl, rfl⟩, e1, e2, er]; omega) (by rw [tm_gI, if_neg (fun e => absurd e.2 (by decide))]; exact hv0) (by rw [tm_gI, if_neg (fun e => absurd e.2 (by decide))]; exact hv1) (fun e => by omega) (fun e => by rw [tm_gI, if_neg (fun e => absurd e.2 (by decide))]; have g9 := hv2 (by omega); omega) (by rw [tm_gI, if_pos ⟨rfl, rfl⟩, e1, er]; omega)) (by simp)
      refine wp_lda rfl tm_m2 ?_
      refine wp_lda rfl tm_m2 ?_
      refine wq_con (x := 0) rfl (by decide) ?_
      refine wq_calv [.int 0] rfl rfl rfl rfl rfl rfl rfl rfl rfl (th_raw (h.1) (by decide) (by decide)) ?_
      rintro _ _ ⟨rfl, rfl⟩
      refine wq_calv [.int (th_rw s 0)] rfl rfl rfl rfl rfl rfl rfl rfl rfl (th_mdig) ?_
      rintro r1 _ ⟨hr1, rfl⟩
      obtain ⟨z1, rfl, hz1⟩ : ∃ z : Int32, r1 = some (.int z) ∧ (¬ z = 0 → 48 ≤ (th_rw s 0).toInt ∧ (th_rw s 0).toInt ≤ 57) := by
        rcases hr1 with ⟨rfl, g1, g2⟩ | rfl
        · exact ⟨_, rfl, fun _ => ⟨g1, g2⟩⟩
        · exact ⟨_, rfl, fun e => absurd rfl e⟩
      refine wq_ifeq rfl (fun h270 => ?_) (fun h270 => ?_)
      · have g270 : (z1).toInt = 0 := congrArg Int32.toInt h270
        refine wp_ldi rfl tm_m0 ?_
        refine wq_con (x := 3) rfl (by decide) ?_
        refine wq_icge rfl (fun h317 => ?_) (fun h317 => ?_)
        · have g317 : 3 ≤ (mn).toInt := tn_leI.mp h317
          refine wp_go rfl ?_
          exact wp_retv rfl ⟨rfl, h, fun e => absurd e ht⟩
        · have g317 : ¬ 3 ≤ (mn).toInt := fun g => h317 (tn_leI.mpr g)
          refine wp_lda rfl tm_m2 ?_
          refine wq_con (x := 6) rfl (by decide) ?_
          refine wq_puti rfl rfl (f := 37) rfl rfl ?_
          refine wp_go rfl ?_
          refine wp_retv rfl ⟨rfl, th_NI_k h, fun _ => ?_⟩
          rw [tm_gI, if_neg (fun e => absurd e.2 (by decide))]
          exact hw0
      · have g4 : (s.1 11 35).toInt < 800 := by
          have g5 := th_rw_ne (k := 0) h.1 (by decide) (by decide) (fun e => by have g3 := (hz1 h270).1; rw [e] at g3; exact absurd g3 (by decide))
          change (s.1 11 35).toInt + 0 < _ at g5
          omega
        have g6 := hz1 h270
        refine wp_ldi rfl tm_m0 ?_
        refine wq_con (x := 2) rfl (by decide) ?_
        refine wq_icge rfl (fun h275 => ?_) (fun h275 => ?_)
        · have g275 : 2 ≤ (mn).toInt := tn_leI.mp h275
          exact k298 s h ht g4 rfl hw0 hw1 (fun e => by omega)
        · have g275 : ¬ 2 ≤ (mn).toInt := fun g => h275 (tn_leI.mpr g)
          have x1 : (10 * s.1 11 38).toInt = 10 * (s.1 11 38).toInt := by rw [tn_mul (by show -2147483648 ≤ 10 * (s.1 11 38).toInt; omega) (by show 10 * (s.1 11 38).toInt ≤ 2147483647; omega)]; rfl
          have x2 : (10 * s.1 11 38 + th_rw s 0).toInt = 10 * (s.1 11 38).toInt + (th_rw s 0).toInt := by rw [tn_add (by rw [x1]; omega) (by rw [x1]; omega), x1]
          have x3 : (10 * s.1 11 38 + th_rw s 0 - 48).toInt = 10 * (s.1 11 38).toInt + (th_rw s 0).toInt - 48 := by rw [tn_sub (by rw [x2]; show -2147483648 ≤ _ - (48 : Int); omega) (by rw [x2]; show _ - (48 : Int) ≤ 2147483647; omega), x2]; rfl
          have x4 := hw3 (by omega)
          refine wp_lda rfl tm_m2 ?_
          refine wq_con (x := 10) rfl (by decide) ?_
          refine wp_lda rfl tm_m2 ?_
          refine wq_geti rfl rfl (f := 38) rfl rfl (Or.inl rfl) ?_
          refine wq_imul rfl ?_
          refine wp_lda rfl tm_m2 ?_
          refine wq_con (x := 0) rfl (by decide) ?_
          refine wq_calv [.int 0] rfl rfl rfl rfl rfl rfl rfl rfl rfl (th_raw (h.1) (by decide) (by decide)) ?_
          rintro _ _ ⟨rfl, rfl⟩
          refine wq_iadd rfl ?_
          refine wq_con (x := 48) rfl (by decide) ?_
          refine wq_isub rfl ?_
          refine wq_puti rfl rfl (f := 38) rfl rfl ?_
          exact k298 _ (th_NI_w h) (by rw [tm_gI, if_neg (fun e => absurd e.2 (by decide))]; exact ht) (by rw [tm_gI, if_neg (fun e => absurd e.2 (by decide))]; exact g4) (by rw [tm_gI, if_neg (fun e => absurd e.2 (by decide))]) (by rw [tm_gI, if_pos ⟨rfl, rfl⟩]; omega) (by rw [tm_gI, if_pos ⟨rfl, rfl⟩]; omega) (fun e => by rw [tm_gI, if_pos ⟨rfl, rfl⟩]; have := hw2 e; omega)
  have k352 : ∀ (c : Int32) (s : tm_S), th_NI v σ s → ¬ s.1 11 37 = 6 → (s.1 11 35).toInt < 800 → WP (d + 1) 234 352 [(1, .int c), (0, .ref 11)] [] s (fun r σ' => r = none ∧ th_NI v σ σ' ∧ (σ'.1 11 37 = 6 → 0 ≤ (σ'.1 11 38).toInt)) := by
    intro c s h ht hr
    have hg := th_NI_g h
    have e1 := tn_add1 (x := s.1 11 35) (by omega)
    refine wp_lda rfl tm_m1 ?_
    refine wp_lda rfl tm_m1 ?_
    refine wq_geti rfl rfl (f := 35) rfl rfl (Or.inl rfl) ?_
    refine wq_con (x := 1) rfl (by decide) ?_
    refine wq_iadd rfl ?_
    refine wq_puti rfl rfl (f := 35) rfl rfl ?_
    refine wp_retv rfl ⟨rfl, th_NI_r h (by omega) (by omega), fun e => ?_⟩
    rw [tm_gI, if_neg (fun e => absurd e.2 (by decide))] at e
    exact absurd e ht
  have k46 : ∀ s : tm_S, th_NI v σ s → ¬ s.1 11 37 = 6 → WP (d + 1) 234 46 [(0, .ref 11)] [] s (fun r σ' => r = none ∧ th_NI v σ σ' ∧ (σ'.1 11 37 = 6 → 0 ≤ (σ'.1 11 38).toInt)) := by
    intro s h ht
    have hg := th_NI_g h
    refine wp_lda rfl tm_m0 ?_
    refine wq_con (x := 0) rfl (by decide) ?_
    refine wq_calv [.int 0] rfl rfl rfl rfl rfl rfl rfl rfl rfl (th_raw (h.1) (by decide) (by decide)) ?_
    rintro _ _ ⟨rfl, rfl⟩
    refine wq_sti [(1, .int (th_rw s 0)), (0, .ref 11)] rfl rfl ?_
    refine wp_ldi rfl tm_m0 ?_
    refine wq_con (x := (-1)) rfl (by decide) ?_
    refine wq_icne rfl (fun h54 => ?_) (fun h54 => ?_)
    · have g4 : (s.1 11 35).toInt < 800 := by
        have g5 := th_rw_ne (k := 0) h.1 (by decide) (by decide) h54
        change (s.1 11 35).toInt + 0 < _ at g5
        omega
      refine wp_lda rfl tm_m1 ?_
      refine wp_ldi rfl tm_m0 ?_
      refine wq_calv [.int (th_rw s 0)] rfl rfl rfl rfl rfl rfl rfl rfl rfl (th_mlet) ?_
      rintro r1 _ ⟨hr1, rfl⟩
      obtain ⟨z1, rfl, hz1⟩ : ∃ z : Int32, r1 = some (.int z) ∧ (¬ z = 0 → 65 ≤ (th_rw s 0).toInt ∧ (th_rw s 0).toInt ≤ 122) := by
        rcases hr1 with ⟨rfl, g1, g2⟩ | rfl
        · exact ⟨_, rfl, fun _ => ⟨g1, g2⟩⟩
        · exact ⟨_, rfl, fun e => absurd rfl e⟩
      refine wq_ifeq rfl (fun h70 => ?_) (fun h70 => ?_)
      · refine wp_lda rfl tm_m1 ?_
        refine wp_ldi rfl tm_m0 ?_
        refine wq_calv [.int (th_rw s 0)] rfl rfl rfl rfl rfl rfl rfl rfl rfl (th_mdig) ?_
        rintro r2 _ ⟨hr2, rfl⟩
        obtain ⟨z2, rfl, hz2⟩ : ∃ z : Int32, r2 = some (.int z) ∧ (¬ z = 0 → 48 ≤ (th_rw s 0).toInt ∧ (th_rw s 0).toInt ≤ 57) := by
          rcases hr2 with ⟨rfl, g1, g2⟩ | rfl
          · exact ⟨_, rfl, fun _ => ⟨g1, g2⟩⟩
          · exact ⟨_, rfl, fun e => absurd rfl e⟩
        refine wq_ifeq rfl (fun h251 => ?_) (fun h251 => ?_)
        · refine wp_lda rfl tm_m1 ?_
          refine wp_ldi rfl tm_m0 ?_
          refine wq_puti rfl rfl (f := 38) rfl rfl ?_
          refine wp_ldi rfl tm_m0 ?_
          refine wq_con (x := 61) rfl (by decide) ?_
          refine wq_iceq rfl (fun h337 => ?_) (fun h337 => ?_)
          · refine wp_lda rfl tm_m1 ?_
            refine wq_con (x := 7) rfl (by decide) ?_
            refine wq_puti rfl rfl (f := 37) rfl rfl ?_
            exact k352 _ _ (th_NI_k (th_NI_w h)) (by rw [tm_gI, if_pos ⟨rfl, rfl⟩]; decide) (by rw [tm_gI, if_neg (fun e => absurd e.2 (by decide)), tm_gI, if_neg (fun e => absurd e.2 (by decide))]; exact g4)
          · refine wp_ldi rfl tm_m0 ?_
            refine wq_con (x := 59) rfl (by decide) ?_
            refine wq_icne rfl (fun h343 => ?_) (fun h343 => ?_)
            · exact k352 _ _ (th_NI_w h) (by rw [tm_gI, if_neg (fun e => absurd e.2 (by decide))]; exact ht) (by rw [tm_gI, if_neg (fun e => absurd e.2 (by decide))]; exact g4)
            · refine wp_lda rfl tm_m1 ?_
              refine wq_con (x := 7) rfl (by decide) ?_
              refine wq_puti rfl rfl (f := 37) rfl rfl ?_
              exact k352 _ _ (th_NI_k (th_NI_w h)) (by rw [tm_gI, if_pos ⟨rfl, rfl⟩]; decide) (by rw [tm_gI, if_neg (fun e => absurd e.2 (by decide)), tm_gI, if_neg (fun e => absurd e.2 (by decide))]; exact g4)
        · refine wq_con (x := 0) rfl (by decide) ?_
          refine wq_sti [(2, .int 0), (1, .int (th_rw s 0)), (0, .ref 11)] rfl rfl ?_
          refine wp_lda rfl tm_m2 ?_
          refine wq_con (x := 0) rfl (by decide) ?_
          refine wq_puti rfl rfl (f := 38) rfl rfl ?_
          exact WP.less (k261 800 (th_rw s 0) 0 _ (th_NI_w h) (by rw [tm_gI, if_neg (fun e => absurd e.2 (by decide))]; exact ht) (by decide) (by rw [tm_gI, if_neg (fun e => absurd e.2 (by decide))]; exact hg.1.1) (by rw [tm_gI, if_pos ⟨rfl, rfl⟩]; decide) (by rw [tm_gI, if_pos ⟨rfl, rfl⟩]; decide) (fun _ => by rw [tm_gI, if_pos ⟨rfl, rfl⟩]; rfl) (fun _ => by rw [tm_gI, if_pos ⟨rfl, rfl⟩]; decide) (by rw [tm_gI, if_neg (fun e => absurd e.2 (by decide))]; show (800 : Int) ≤ _ + 800; omega)) (by simp)
      · refine wq_con (x := 0) rfl (by decide) ?_
        refine wq_sti [(2, .int 0), (1, .int (th_rw s 0)), (0, .ref 11)] rfl rfl ?_
        exact WP.less (k75 800 (th_rw s 0) 0 s (by decide) ⟨h, by show (s.1 11 35).toInt + 0 ≤ 800; omega, ht⟩ (by show (800 : Int) ≤ _ + 0 + 800; omega)) (by simp)
    · refine wp_lda rfl tm_m1 ?_
      refine wq_con (x := 0) rfl (by decide) ?_
      refine wq_puti rfl rfl (f := 37) rfl rfl ?_
      refine wp_go rfl ?_
      refine wp_retv rfl ⟨rfl, th_NI_k h, fun e => ?_⟩
      rw [tm_gI, if_pos ⟨rfl, rfl⟩] at e
      exact absurd e (by decide)
  have k33 : ∀ s : tm_S, th_NI v σ s → WP (d + 1) 234 33 [(0, .ref 11)] [] s (fun r σ' => r = none ∧ th_NI v σ σ' ∧ (σ'.1 11 37 = 6 → 0 ≤ (σ'.1 11 38).toInt)) := by
    intro s h
    have hg := th_NI_g h
    refine wp_lda rfl tm_m0 ?_
    refine wp_lda rfl tm_m0 ?_
    refine wq_geti rfl rfl (f := 35) rfl rfl (Or.inl rfl) ?_
    refine wq_puti rfl rfl (f := 36) rfl rfl ?_
    refine wp_lda rfl tm_m0 ?_
    refine wq_con (x := 1) rfl (by decide) ?_
    refine wq_puti rfl rfl (f := 37) rfl rfl ?_
    exact k46 _ (th_NI_k (th_NI_f h hg.1.1 hg.1.2)) (by rw [tm_gI, if_pos ⟨rfl, rfl⟩]; decide)
  have k0 : ∀ (m : Nat) (s : tm_S), th_NI v σ s → 800 ≤ (s.1 11 35).toInt + m → WP (d + 1) 234 0 [(0, .ref 11)] [] s (fun r σ' => r = none ∧ th_NI v σ σ' ∧ (σ'.1 11 37 = 6 → 0 ≤ (σ'.1 11 38).toInt)) := by
    intro m
    induction m with
    | zero =>
      intro s h hm
      have hg := th_NI_g h
      have k20 : ¬ th_rw s 0 = -1 → WP (d + 1) 234 20 [(0, .ref 11)] [] s (fun r σ' => r = none ∧ th_NI v σ σ' ∧ (σ'.1 11 37 = 6 → 0 ≤ (σ'.1 11 38).toInt)) := by
        intro hne
        have g5 := th_rw_ne (k := 0) h.1 (by decide) (by decide) hne
        change (s.1 11 35).toInt + 0 < _ at g5
        omega
      refine wp_lda rfl tm_m0 ?_
      refine wq_con (x := 0) rfl (by decide) ?_
      refine wq_calv [.int 0] rfl rfl rfl rfl rfl rfl rfl rfl rfl (th_raw (h.1) (by decide) (by decide)) ?_
      rintro _ _ ⟨rfl, rfl⟩
      refine wq_con (x := 32) rfl (by decide) ?_
      refine wq_iceq rfl (fun h7 => ?_) (fun h7 => ?_)
      · exact k20 (fun e => by rw [e] at h7; exact absurd h7 (by decide))
      · refine wp_lda rfl tm_m0 ?_
        refine wq_con (x := 0) rfl (by decide) ?_
        refine wq_calv [.int 0] rfl rfl rfl rfl rfl rfl rfl rfl rfl (th_raw (h.1) (by decide) (by decide)) ?_
        rintro _ _ ⟨rfl, rfl⟩
        refine wq_con (x := 10) rfl (by decide) ?_
        refine wq_icne rfl (fun h17 => ?_) (fun h17 => ?_)
        · exact k33 s h
        · exact k20 (fun e => h17 (by rw [e]; decide))
    | succ m ih =>
      intro s h hm
      have hg := th_NI_g h
      have k20 : ¬ th_rw s 0 = -1 → WP (d + 1) 234 20 [(0, .ref 11)] [] s (fun r σ' => r = none ∧ th_NI v σ σ' ∧ (σ'.1 11 37 = 6 → 0 ≤ (σ'.1 11 38).toInt)) := by
        intro hne
        have g5 := th_rw_ne (k := 0) h.1 (by decide) (by decide) hne
        change (s.1 11 35).toInt + 0 < _ at g5
        have e1 := tn_add1 (x := s.1 11 35) (by omega)
        refine wp_lda rfl tm_m0 ?_
        refine wp_lda rfl tm_m0 ?_
        refine wq_geti rfl rfl (f := 35) rfl rfl (Or.inl rfl) ?_
        refine wq_con (x := 1) rfl (by decide) ?_
        refine wq_iadd rfl ?_
        refine wq_puti rfl rfl (f := 35) rfl rfl ?_
        refine wp_go rfl ?_
        exact ih _ (th_NI_r h (by omega) (by omega)) (by rw [tm_gI, if_pos ⟨rfl, rfl⟩]; omega)
      refine wp_lda rfl tm_m0 ?_
      refine wq_con (x := 0) rfl (by decide) ?_
      refine wq_calv [.int 0] rfl rfl rfl rfl rfl rfl rfl rfl rfl (th_raw (h.1) (by decide) (by decide)) ?_
      rintro _ _ ⟨rfl, rfl⟩
      refine wq_con (x := 32) rfl (by decide) ?_
      refine wq_iceq rfl (fun h7 => ?_) (fun h7 => ?_)
      · exact k20 (fun e => by rw [e] at h7; exact absurd h7 (by decide))
      · refine wp_lda rfl tm_m0 ?_
        refine wq_con (x := 0) rfl (by decide) ?_
        refine wq_calv [.int 0] rfl rfl rfl rfl rfl rfl rfl rfl rfl (th_raw (h.1) (by decide) (by decide)) ?_
        rintro _ _ ⟨rfl, rfl⟩
        refine wq_con (x := 10) rfl (by decide) ?_
        refine wq_icne rfl (fun h17 => ?_) (fun h17 => ?_)
        · exact k33 s h
        · exact k20 (fun e => h17 (by rw [e]; decide))
  show WP (d + 1) 234 0 [(0, .ref 11)] [] σ _
  have hg := th_NI_g (v := v) (σ := σ) (s := σ) ⟨hT, tv_un_rf⟩
  exact k0 800 σ ⟨hT, tv_un_rf⟩ (by omega)
