/-! ===== the fresh object: the reference ===== -/
theorem tF_m_form {a1 a2 a3 a4 : Int32} {σ : tm_S} (hT : tv_TY tF_T σ) : WM 90 187 [.ref 11, .int a1, .int a2, .int a3, .int a4] σ (fun r σ' => r = some (.int (-1)) ∧ tv_TY tF_T σ') := tF_one (R := 90) (a := [(3, 11, 11), (1, (-2147483648), 2147483647), (1, (-2147483648), 2147483647), (1, (-2147483648), 2147483647), (1, (-2147483648), 2147483647)]) (z := (-1)) (ws := [(11, 0)]) (by decide +kernel) (by decide) ⟨⟨_, rfl, by decide, by decide⟩, ⟨_, rfl, (tn_rng _).1, (tn_rng _).2⟩, ⟨_, rfl, (tn_rng _).1, (tn_rng _).2⟩, ⟨_, rfl, (tn_rng _).1, (tn_rng _).2⟩, ⟨_, rfl, (tn_rng _).1, (tn_rng _).2⟩, trivial⟩ hT
theorem tF_m_about {a1 a2 : Int32} {σ : tm_S} (hT : tv_TY tF_T σ) : WM 90 192 [.ref 11, .int a1, .int a2] σ (fun r σ' => r = some (.int (-1)) ∧ tv_TY tF_T σ') := tF_one (R := 90) (a := [(3, 11, 11), (1, (-2147483648), 2147483647), (1, (-2147483648), 2147483647)]) (z := (-1)) (ws := [(11, 0)]) (by decide +kernel) (by decide) ⟨⟨_, rfl, by decide, by decide⟩, ⟨_, rfl, (tn_rng _).1, (tn_rng _).2⟩, ⟨_, rfl, (tn_rng _).1, (tn_rng _).2⟩, trivial⟩ hT
theorem tF_m_partners {a1 a2 : Int32} {σ : tm_S} (hT : tv_TY tF_T σ) : WM 90 195 [.ref 11, .int a1, .int a2] σ (fun r σ' => r = some (.int (-1)) ∧ tv_TY tF_T σ') := tF_one (R := 90) (a := [(3, 11, 11), (1, (-2147483648), 2147483647), (1, (-2147483648), 2147483647)]) (z := (-1)) (ws := [(11, 0)]) (by decide +kernel) (by decide) ⟨⟨_, rfl, by decide, by decide⟩, ⟨_, rfl, (tn_rng _).1, (tn_rng _).2⟩, ⟨_, rfl, (tn_rng _).1, (tn_rng _).2⟩, trivial⟩ hT
theorem tF_m_split {a1 a2 : Int32} {σ : tm_S} (hT : tv_TY tF_T σ) : WM 90 196 [.ref 11, .int a1, .int a2] σ (fun r σ' => r = some (.int (-1)) ∧ tv_TY tF_T σ') := tF_one (R := 90) (a := [(3, 11, 11), (1, (-2147483648), 2147483647), (1, (-2147483648), 2147483647)]) (z := (-1)) (ws := [(11, 0)]) (by decide +kernel) (by decide) ⟨⟨_, rfl, by decide, by decide⟩, ⟨_, rfl, (tn_rng _).1, (tn_rng _).2⟩, ⟨_, rfl, (tn_rng _).1, (tn_rng _).2⟩, trivial⟩ hT
theorem tF_m_rank {a1 : Int32} {σ : tm_S} (hT : tv_TY tF_T σ) : WM 90 200 [.ref 11, .int a1] σ (fun r σ' => r = some (.int (-1)) ∧ tv_TY tF_T σ') := tF_one (R := 90) (a := [(3, 11, 11), (1, (-2147483648), 2147483647)]) (z := (-1)) (ws := [(11, 0)]) (by decide +kernel) (by decide) ⟨⟨_, rfl, by decide, by decide⟩, ⟨_, rfl, (tn_rng _).1, (tn_rng _).2⟩, trivial⟩ hT
theorem tF_m_voice {a1 a2 : Int32} {σ : tm_S} (hT : tv_TY tF_T σ) : WM 90 215 [.ref 11, .int a1, .int a2] σ (fun r σ' => r = some (.int (-1)) ∧ tv_TY tF_T σ') := tF_one (R := 90) (a := [(3, 11, 11), (1, (-2147483648), 2147483647), (1, (-2147483648), 2147483647)]) (z := (-1)) (ws := [(11, 0)]) (by decide +kernel) (by decide) ⟨⟨_, rfl, by decide, by decide⟩, ⟨_, rfl, (tn_rng _).1, (tn_rng _).2⟩, ⟨_, rfl, (tn_rng _).1, (tn_rng _).2⟩, trivial⟩ hT
theorem tF_m_sings {a1 a2 : Int32} {σ : tm_S} (hT : tv_TY tF_T σ) : WM 90 218 [.ref 11, .int a1, .int a2] σ (fun r σ' => r = some (.int (-1)) ∧ tv_TY tF_T σ') := tF_one (R := 90) (a := [(3, 11, 11), (1, (-2147483648), 2147483647), (1, (-2147483648), 2147483647)]) (z := (-1)) (ws := [(11, 0)]) (by decide +kernel) (by decide) ⟨⟨_, rfl, by decide, by decide⟩, ⟨_, rfl, (tn_rng _).1, (tn_rng _).2⟩, ⟨_, rfl, (tn_rng _).1, (tn_rng _).2⟩, trivial⟩ hT
theorem tF_m_chord {a1 : Int32} {σ : tm_S} (hT : tv_TY tF_T σ) : WM 90 220 [.ref 11, .int a1] σ (fun r σ' => r = some (.int 0) ∧ tv_TY tF_T σ') := tF_one (R := 90) (a := [(3, 11, 11), (1, (-2147483648), 2147483647)]) (z := 0) (ws := [(11, 0)]) (by decide +kernel) (by decide) ⟨⟨_, rfl, by decide, by decide⟩, ⟨_, rfl, (tn_rng _).1, (tn_rng _).2⟩, trivial⟩ hT
theorem tF_m_fit {a1 a2 : Int32} {σ : tm_S} (hT : tv_TY tF_T σ) : WM 90 221 [.ref 11, .int a1, .int a2] σ (fun r σ' => r = some (.int (-1)) ∧ tv_TY tF_T σ') := tF_one (R := 90) (a := [(3, 11, 11), (1, (-2147483648), 2147483647), (1, (-2147483648), 2147483647)]) (z := (-1)) (ws := [(11, 0)]) (by decide +kernel) (by decide) ⟨⟨_, rfl, by decide, by decide⟩, ⟨_, rfl, (tn_rng _).1, (tn_rng _).2⟩, ⟨_, rfl, (tn_rng _).1, (tn_rng _).2⟩, trivial⟩ hT
theorem tF_m_keep {a1 a2 : Int32} {σ : tm_S} (hT : tv_TY tF_T σ) : WM 90 222 [.ref 11, .int a1, .int a2] σ (fun r σ' => r = some (.int 0) ∧ tv_TY tF_T σ') := tF_one (R := 90) (a := [(3, 11, 11), (1, (-2147483648), 2147483647), (1, (-2147483648), 2147483647)]) (z := 0) (ws := [(11, 0)]) (by decide +kernel) (by decide) ⟨⟨_, rfl, by decide, by decide⟩, ⟨_, rfl, (tn_rng _).1, (tn_rng _).2⟩, ⟨_, rfl, (tn_rng _).1, (tn_rng _).2⟩, trivial⟩ hT
theorem tF_m_write {σ : tm_S} (hT : tv_TY tF_T σ) : WM 90 228 [.ref 11] σ (fun r σ' => r = some (.int 0) ∧ tv_TY tF_T σ') := tF_one (R := 90) (a := [(3, 11, 11)]) (z := 0) (ws := [(11, 0), (11, 34)]) (by decide +kernel) (by decide) ⟨⟨_, rfl, by decide, by decide⟩, trivial⟩ hT
theorem tF_m_out {a1 : Int32} {σ : tm_S} (hT : tv_TY tF_T σ) : WM 90 227 [.ref 11, .int a1] σ (fun r σ' => r = some (.int (-1)) ∧ tv_TY tF_T σ') := tF_one (R := 90) (a := [(3, 11, 11), (1, (-2147483648), 2147483647)]) (z := (-1)) (ws := [(11, 0)]) (by decide +kernel) (by decide) ⟨⟨_, rfl, by decide, by decide⟩, ⟨_, rfl, (tn_rng _).1, (tn_rng _).2⟩, trivial⟩ hT
theorem tF_m_take {σ : tm_S} (hT : tv_TY tF_T σ) : WM 90 226 [.ref 11] σ (fun r σ' => r = some (.int 0) ∧ tv_TY tF_T σ') := tF_one (R := 90) (a := [(3, 11, 11)]) (z := 0) (ws := [(11, 0), (11, 32)]) (by decide +kernel) (by decide) ⟨⟨_, rfl, by decide, by decide⟩, trivial⟩ hT
theorem tF_m_end {a1 : Int32} {σ : tm_S} (hT : tv_TY tF_T σ) : WM 90 225 [.ref 11, .int a1] σ (fun r σ' => r = some (.int (tF_end a1)) ∧ tv_TY tF_T σ') := by
  have g := tn_rng a1
  by_cases h0 : a1.toInt < 0
  · rw [show tF_end a1 = (-1) from if_neg (fun e => by omega)]
    exact tF_one (R := 90) (a := [(3, 11, 11), (1, (-2147483648), (-1))]) (z := (-1)) (ws := [(11, 0)]) (by decide +kernel) (by decide) ⟨⟨_, rfl, by decide, by decide⟩, ⟨_, rfl, by omega, by omega⟩, trivial⟩ hT
  · by_cases h1 : a1.toInt ≤ 0
    · rw [show tF_end a1 = 0 from if_pos (by omega)]
      exact tF_one (R := 90) (a := [(3, 11, 11), (1, 0, 0)]) (z := 0) (ws := [(11, 0), (11, 32)]) (by decide +kernel) (by decide) ⟨⟨_, rfl, by decide, by decide⟩, ⟨_, rfl, by omega, by omega⟩, trivial⟩ hT
    · rw [show tF_end a1 = (-1) from if_neg (fun e => by omega)]
      exact tF_one (R := 90) (a := [(3, 11, 11), (1, 1, 2147483647)]) (z := (-1)) (ws := [(11, 0)]) (by decide +kernel) (by decide) ⟨⟨_, rfl, by decide, by decide⟩, ⟨_, rfl, by omega, by omega⟩, trivial⟩ hT
theorem tF_m_fault {a1 : Int32} {σ : tm_S} (hT : tv_TY tF_T σ) : WM 90 243 [.ref 11, .int a1] σ (fun r σ' => r = some (.int (tF_fault a1)) ∧ tv_TY tF_T σ') := by
  have g := tn_rng a1
  by_cases h0 : a1.toInt < 0
  · rw [show tF_fault a1 = (-1) from if_neg (fun e => by omega)]
    exact tF_one (R := 90) (a := [(3, 11, 11), (1, (-2147483648), (-1))]) (z := (-1)) (ws := [(11, 0)]) (by decide +kernel) (by decide) ⟨⟨_, rfl, by decide, by decide⟩, ⟨_, rfl, by omega, by omega⟩, trivial⟩ hT
  · by_cases h1 : a1.toInt ≤ 0
    · rw [show tF_fault a1 = 0 from if_pos (by omega)]
      exact tF_one (R := 90) (a := [(3, 11, 11), (1, 0, 0)]) (z := 0) (ws := [(11, 0)]) (by decide +kernel) (by decide) ⟨⟨_, rfl, by decide, by decide⟩, ⟨_, rfl, by omega, by omega⟩, trivial⟩ hT
    · rw [show tF_fault a1 = (-1) from if_neg (fun e => by omega)]
      exact tF_one (R := 90) (a := [(3, 11, 11), (1, 1, 2147483647)]) (z := (-1)) (ws := [(11, 0)]) (by decide +kernel) (by decide) ⟨⟨_, rfl, by decide, by decide⟩, ⟨_, rfl, by omega, by omega⟩, trivial⟩ hT
theorem tF_m_score {a1 : Int32} {σ : tm_S} (hT : tv_TY tF_T σ) : WM 90 211 [.ref 11, .int a1] σ (fun r σ' => r = some (.int (tF_score a1)) ∧ tv_TY tF_T σ') := by
  have g := tn_rng a1
  by_cases h0 : a1.toInt < 0
  · rw [show tF_score a1 = (-1) from if_neg (fun e => by omega)]
    exact tF_one (R := 90) (a := [(3, 11, 11), (1, (-2147483648), (-1))]) (z := (-1)) (ws := [(11, 0)]) (by decide +kernel) (by decide) ⟨⟨_, rfl, by decide, by decide⟩, ⟨_, rfl, by omega, by omega⟩, trivial⟩ hT
  · by_cases h1 : a1.toInt ≤ 3
    · rw [show tF_score a1 = 0 from if_pos ⟨by omega, by omega⟩]
      exact tF_one (R := 90) (a := [(3, 11, 11), (1, 0, 3)]) (z := 0) (ws := [(11, 0)]) (by decide +kernel) (by decide) ⟨⟨_, rfl, by decide, by decide⟩, ⟨_, rfl, by omega, by omega⟩, trivial⟩ hT
    · rw [show tF_score a1 = (-1) from if_neg (fun e => by omega)]
      exact tF_one (R := 90) (a := [(3, 11, 11), (1, 4, 2147483647)]) (z := (-1)) (ws := [(11, 0)]) (by decide +kernel) (by decide) ⟨⟨_, rfl, by decide, by decide⟩, ⟨_, rfl, by omega, by omega⟩, trivial⟩ hT
set_option maxRecDepth 100000 in
set_option maxHeartbeats 4000000 in
theorem tF_lay_l {d : Nat} {w : Int32} {a : Nat} (ha : a ≤ 800) : ∀ (m : Nat) (z : Int32) (σ : tm_S), m ≤ a → σ.1 11 32 = nI (a - m) → z.toInt + 8 = 8 * m → WP d 224 3 [(2, .int z), (0, .ref 11), (1, .int w)] [] σ (fun r σ' => r = none ∧ σ'.1 11 32 = nI a) := by
  intro m
  induction m with
  | zero =>
    intro z σ hm h hz
    refine wp_ldi rfl tm_m0 ?_
    refine wq_iflt rfl (fun h4 => ?_) (fun h4 => absurd (tn_ltI.mpr (by show z.toInt < 0; omega)) h4)
    exact wp_retv rfl ⟨rfl, h⟩
  | succ m ih =>
    intro z σ hm h hz
    have e8 : (z + (-8)).toInt = z.toInt - 8 := by rw [tn_add (by show -2147483648 ≤ z.toInt + (-8); omega) (by show z.toInt + (-8) ≤ 2147483647; omega)]; rfl
    refine wp_ldi rfl tm_m0 ?_
    refine wq_iflt rfl (fun h4 => absurd (tn_ltI.mp h4) (by show ¬ z.toInt < 0; omega)) (fun h4 => ?_)
    refine wp_lda rfl tm_m1 ?_
    refine wq_getr (p := 65) rfl rfl (f := 31) rfl rfl ?_
    refine wp_lda rfl tm_m1 ?_
    refine wq_geti rfl rfl (f := 32) rfl rfl (Or.inl rfl) ?_
    rw [h]
    refine wp_ldi rfl tm_m2 ?_
    refine wp_ldi rfl tm_m0 ?_
    refine wq_ishr rfl ?_
    refine wq_con (x := 255) rfl (by decide) ?_
    refine wq_iand rfl ?_
    refine wp_iast rfl rfl (vp_in_nI (by omega) (by decide)) ?_
    refine wp_lda rfl tm_m1 ?_
    refine wp_lda rfl tm_m1 ?_
    refine wq_geti rfl rfl (f := 32) rfl rfl (Or.inl rfl) ?_
    rw [show (tm_sI σ 65 (nI (a - (m + 1))).toNatClampNeg (w >>> (z &&& 31) &&& 255)).1 11 32 = nI (a - (m + 1)) from h]
    refine wq_con (x := 1) rfl (by decide) ?_
    refine wq_iadd rfl ?_
    refine wq_puti rfl rfl (f := 32) rfl rfl ?_
    refine wq_inc (c := (-8)) [(2, .int (z + (-8))), (0, .ref 11), (1, .int w)] rfl tm_m0 rfl rfl ?_
    refine wp_go rfl ?_
    exact WP.less (ih (z + (-8)) _ (by omega) (by rw [tm_gI, if_pos ⟨rfl, rfl⟩, show (1 : Int32) = nI 1 by decide, nI_add, show a - (m + 1) + 1 = a - m by omega]) (by omega)) (by simp)
set_option maxRecDepth 100000 in
set_option maxHeartbeats 4000000 in
theorem tF_lay {d : Nat} {w : Int32} {σ : tm_S} {a : Nat} (h : σ.1 11 32 = nI a) (ha : a + 4 ≤ 800) : WM d 224 [.ref 11, .int w] σ (fun r σ' => r = none ∧ σ'.1 11 32 = nI (a + 4)) := by
  show WP d 224 0 [(0, .ref 11), (1, .int w)] [] σ _
  refine wq_con (x := 24) rfl (by decide) ?_
  refine wq_sti [(2, .int 24), (0, .ref 11), (1, .int w)] rfl rfl ?_
  exact WP.less (tF_lay_l (w := w) (a := a + 4) ha 4 24 σ (by omega) (by rw [show a + 4 - 4 = a by omega]; exact h) (by decide)) (by simp)
set_option maxRecDepth 100000 in
set_option maxHeartbeats 4000000 in
theorem tF_m_feed {d : Nat} {a1 a2 a3 a4 a5 : Int32} {σ : tm_S} (et : σ.1 11 32 = 0) : WM (d + 1) 223 [.ref 11, .int a1, .int a2, .int a3, .int a4, .int a5] σ (fun r σ' => r = some (.int 20) ∧ True) := by
  have h0 : (tm_sI σ 11 0 0).1 11 32 = nI 0 := et
  show WP (d + 1) 223 0 [(0, .ref 11), (1, .int a1), (2, .int a2), (3, .int a3), (4, .int a4), (5, .int a5)] [] σ _
  refine wp_lda rfl tm_m0 ?_
  refine wq_con (x := 0) rfl (by decide) ?_
  refine wq_puti rfl rfl (f := 0) rfl rfl ?_
  refine wp_lda rfl tm_m0 ?_
  refine wq_geti rfl rfl (f := 32) rfl rfl (Or.inl rfl) ?_
  rw [show ((tm_sI σ 11 0 0).1 11 32) = 0 from et]
  refine wq_con (x := 20) rfl (by decide) ?_
  refine wq_iadd rfl ?_
  refine wq_con (x := 800) rfl (by decide) ?_
  refine wq_icle rfl (fun h15 => ?_) (fun h15 => absurd (by decide) h15)
  refine wp_lda rfl tm_m0 ?_
  refine wp_ldi rfl tm_m1 ?_
  refine wq_calv [.int a1] rfl rfl rfl rfl rfl rfl rfl rfl rfl (tF_lay h0 (by decide)) ?_
  rintro _ s1 ⟨rfl, h1⟩
  refine wp_lda rfl tm_m0 ?_
  refine wp_ldi rfl tm_m2 ?_
  refine wq_calv [.int a2] rfl rfl rfl rfl rfl rfl rfl rfl rfl (tF_lay h1 (by decide)) ?_
  rintro _ s2 ⟨rfl, h2⟩
  refine wp_lda rfl tm_m0 ?_
  refine wp_ldi rfl tm_m3 ?_
  refine wq_calv [.int a3] rfl rfl rfl rfl rfl rfl rfl rfl rfl (tF_lay h2 (by decide)) ?_
  rintro _ s3 ⟨rfl, h3⟩
  refine wp_lda rfl tm_m0 ?_
  refine wp_ldi rfl tm_m4 ?_
  refine wq_calv [.int a4] rfl rfl rfl rfl rfl rfl rfl rfl rfl (tF_lay h3 (by decide)) ?_
  rintro _ s4 ⟨rfl, h4⟩
  refine wp_lda rfl tm_m0 ?_
  refine wp_ldi rfl tm_m5 ?_
  refine wq_calv [.int a5] rfl rfl rfl rfl rfl rfl rfl rfl rfl (tF_lay h4 (by decide)) ?_
  rintro _ s5 ⟨rfl, h5⟩
  refine wp_lda rfl tm_m0 ?_
  refine wq_geti rfl rfl (f := 32) rfl rfl (Or.inl rfl) ?_
  rw [show (s5.1 11 32) = 20 from h5.trans (by decide)]
  exact wp_reti rfl (th_nI rfl) ⟨rfl, trivial⟩
set_option maxRecDepth 100000 in
set_option maxHeartbeats 4000000 in
theorem tF_raw {d : Nat} {σ : tm_S} (hr : σ.1 11 35 = 0) (et : σ.1 11 32 = 0) : WM d 235 [.ref 11, .int 0] σ (fun r σ' => r = some (.int (-1)) ∧ σ = σ') := by
  show WP d 235 0 [(0, .ref 11), (1, .int 0)] [] σ _
  refine wp_lda rfl tm_m0 ?_
  refine wq_geti rfl rfl (f := 35) rfl rfl (Or.inl rfl) ?_
  rw [show (σ.1 11 35) = 0 from hr]
  refine wp_ldi rfl tm_m1 ?_
  refine wq_iadd rfl ?_
  refine wp_lda rfl tm_m0 ?_
  refine wq_geti rfl rfl (f := 32) rfl rfl (Or.inl rfl) ?_
  rw [show (σ.1 11 32) = 0 from et]
  refine wq_icge rfl (fun h10 => ?_) (fun h10 => absurd (by decide) h10)
  refine wq_con (x := (-1)) rfl (by decide) ?_
  exact wp_reti rfl (th_nI rfl) ⟨rfl, rfl⟩
def tF_nx (σ : tm_S) : tm_S := tm_sI (tm_sI (tm_sI σ 11 36 0) 11 37 1) 11 37 0
set_option maxRecDepth 100000 in
set_option maxHeartbeats 4000000 in
theorem tF_next {d : Nat} {σ : tm_S} (hr : σ.1 11 35 = 0) (et : σ.1 11 32 = 0) : WM (d + 1) 234 [.ref 11] σ (fun r σ' => r = none ∧ σ' = tF_nx σ) := by
  show WP (d + 1) 234 0 [(0, .ref 11)] [] σ _
  refine wp_lda rfl tm_m0 ?_
  refine wq_con (x := 0) rfl (by decide) ?_
  refine wq_calv [.int 0] rfl rfl rfl rfl rfl rfl rfl rfl rfl (tF_raw (show _ = _ from hr) (show _ = _ from et)) ?_
  rintro _ _ ⟨rfl, rfl⟩
  refine wq_con (x := 32) rfl (by decide) ?_
  refine wq_iceq rfl (fun h7 => absurd h7 (by decide)) (fun h7 => ?_)
  refine wp_lda rfl tm_m0 ?_
  refine wq_con (x := 0) rfl (by decide) ?_
  refine wq_calv [.int 0] rfl rfl rfl rfl rfl rfl rfl rfl rfl (tF_raw (show _ = _ from hr) (show _ = _ from et)) ?_
  rintro _ _ ⟨rfl, rfl⟩
  refine wq_con (x := 10) rfl (by decide) ?_
  refine wq_icne rfl (fun h17 => ?_) (fun h17 => absurd (by decide) h17)
  refine wp_lda rfl tm_m0 ?_
  refine wp_lda rfl tm_m0 ?_
  refine wq_geti rfl rfl (f := 35) rfl rfl (Or.inl rfl) ?_
  rw [show (σ.1 11 35) = 0 from hr]
  refine wq_puti rfl rfl (f := 36) rfl rfl ?_
  refine wp_lda rfl tm_m0 ?_
  refine wq_con (x := 1) rfl (by decide) ?_
  refine wq_puti rfl rfl (f := 37) rfl rfl ?_
  refine wp_lda rfl tm_m0 ?_
  refine wq_con (x := 0) rfl (by decide) ?_
  refine wq_calv [.int 0] rfl rfl rfl rfl rfl rfl rfl rfl rfl (tF_raw (show _ = _ from hr) (show _ = _ from et)) ?_
  rintro _ _ ⟨rfl, rfl⟩
  refine wq_sti [(1, .int ((-1))), (0, .ref 11)] rfl rfl ?_
  refine wp_ldi rfl tm_m0 ?_
  refine wq_con (x := (-1)) rfl (by decide) ?_
  refine wq_icne rfl (fun h54 => absurd rfl h54) (fun h54 => ?_)
  refine wp_lda rfl tm_m1 ?_
  refine wq_con (x := 0) rfl (by decide) ?_
  refine wq_puti rfl rfl (f := 37) rfl rfl ?_
  refine wp_go rfl ?_
  exact wp_retv rfl ⟨rfl, rfl⟩
def tF_rg (σ : tm_S) : tm_S := tF_nx (tm_sI (tm_sI (tm_sI σ 11 35 0) 11 41 0) 11 42 0)
set_option maxRecDepth 100000 in
set_option maxHeartbeats 4000000 in
theorem tF_reading {d : Nat} {σ : tm_S} (et : σ.1 11 32 = 0) : WM (d + 2) 233 [.ref 11] σ (fun r σ' => r = some (.int 1) ∧ σ' = tF_rg σ) := by
  show WP (d + 2) 233 0 [(0, .ref 11)] [] σ _
  refine wp_lda rfl tm_m0 ?_
  refine wq_con (x := 0) rfl (by decide) ?_
  refine wq_puti rfl rfl (f := 35) rfl rfl ?_
  refine wp_lda rfl tm_m0 ?_
  refine wq_con (x := 0) rfl (by decide) ?_
  refine wq_puti rfl rfl (f := 41) rfl rfl ?_
  refine wp_lda rfl tm_m0 ?_
  refine wq_con (x := 0) rfl (by decide) ?_
  refine wq_puti rfl rfl (f := 42) rfl rfl ?_
  refine wp_lda rfl tm_m0 ?_
  refine wq_calv [] rfl rfl rfl rfl rfl rfl rfl rfl rfl (tF_next (show _ = _ from rfl) (show _ = _ from et)) ?_
  rintro _ _ ⟨rfl, rfl⟩
  refine wp_lda rfl tm_m0 ?_
  refine wq_geti rfl rfl (f := 37) rfl rfl (Or.inl rfl) ?_
  rw [show ((tF_nx (tm_sI (tm_sI (tm_sI σ 11 35 0) 11 41 0) 11 42 0)).1 11 37) = 0 from rfl]
  refine wq_con (x := 2) rfl (by decide) ?_
  refine wq_icne rfl (fun h24 => ?_) (fun h24 => absurd (by decide) h24)
  refine wp_lda rfl tm_m0 ?_
  refine wq_geti rfl rfl (f := 37) rfl rfl (Or.inl rfl) ?_
  rw [show ((tF_nx (tm_sI (tm_sI (tm_sI σ 11 35 0) 11 41 0) 11 42 0)).1 11 37) = 0 from rfl]
  refine wq_con (x := 3) rfl (by decide) ?_
  refine wq_icne rfl (fun h41 => ?_) (fun h41 => absurd (by decide) h41)
  refine wp_lda rfl tm_m0 ?_
  refine wq_geti rfl rfl (f := 37) rfl rfl (Or.inl rfl) ?_
  rw [show ((tF_nx (tm_sI (tm_sI (tm_sI σ 11 35 0) 11 41 0) 11 42 0)).1 11 37) = 0 from rfl]
  refine wq_ifeq rfl (fun h57 => ?_) (fun h57 => absurd rfl h57)
  refine wq_con (x := 1) rfl (by decide) ?_
  refine wp_go rfl ?_
  exact wp_reti rfl (th_n1 rfl) ⟨rfl, rfl⟩
set_option maxRecDepth 100000 in
set_option maxHeartbeats 4000000 in
theorem tF_m_load {d : Nat} {σ : tm_S} (et : σ.1 11 32 = 0) : WM (d + 3) 232 [.ref 11] σ (fun r σ' => r = some (.int 0) ∧ True) := by
  show WP (d + 3) 232 0 [(0, .ref 11)] [] σ _
  refine wp_lda rfl tm_m0 ?_
  refine wq_con (x := 0) rfl (by decide) ?_
  refine wq_puti rfl rfl (f := 0) rfl rfl ?_
  refine wp_lda rfl tm_m0 ?_
  refine wq_calv [] rfl rfl rfl rfl rfl rfl rfl rfl rfl (tF_reading (show _ = _ from et)) ?_
  rintro _ _ ⟨rfl, rfl⟩
  refine wq_sti [(1, .int 1), (0, .ref 11)] rfl rfl ?_
  refine wp_lda rfl tm_m1 ?_
  refine wq_con (x := 0) rfl (by decide) ?_
  refine wq_puti rfl rfl (f := 32) rfl rfl ?_
  refine wp_ldi rfl tm_m0 ?_
  refine wq_ifne rfl (fun h16 => ?_) (fun h16 => absurd (by decide) h16)
  refine wp_lda rfl tm_m1 ?_
  refine wq_con (x := 0) rfl (by decide) ?_
  refine wq_puti rfl rfl (f := 39) rfl rfl ?_
  refine wp_lda rfl tm_m1 ?_
  refine wq_con (x := (-1)) rfl (by decide) ?_
  refine wq_puti rfl rfl (f := 40) rfl rfl ?_
  refine wp_lda rfl tm_m1 ?_
  refine wp_lda rfl tm_m1 ?_
  refine wq_geti rfl rfl (f := 41) rfl rfl (Or.inl rfl) ?_
  rw [show ((tm_sI (tm_sI (tm_sI (tF_rg (tm_sI σ 11 0 0)) 11 32 0) 11 39 0) 11 40 (-1)).1 11 41) = 0 from rfl]
  refine wq_puti rfl rfl (f := 23) rfl rfl ?_
  refine wp_lda rfl tm_m1 ?_
  refine wp_lda rfl tm_m1 ?_
  refine wq_geti rfl rfl (f := 42) rfl rfl (Or.inl rfl) ?_
  rw [show ((tm_sI (tm_sI (tm_sI (tm_sI (tF_rg (tm_sI σ 11 0 0)) 11 32 0) 11 39 0) 11 40 (-1)) 11 23 0).1 11 42) = 0 from rfl]
  refine wq_puti rfl rfl (f := 26) rfl rfl ?_
  refine wq_con (x := 0) rfl (by decide) ?_
  refine wq_sti [(2, .int 0), (1, .int 1), (0, .ref 11)] rfl rfl ?_
  refine wp_ldi rfl tm_m0 ?_
  refine wp_lda rfl tm_m2 ?_
  refine wq_geti rfl rfl (f := 23) rfl rfl (Or.inl rfl) ?_
  rw [show ((tm_sI (tm_sI (tm_sI (tm_sI (tm_sI (tF_rg (tm_sI σ 11 0 0)) 11 32 0) 11 39 0) 11 40 (-1)) 11 23 0) 11 26 0).1 11 23) = 0 from rfl]
  refine wq_icge rfl (fun h54 => ?_) (fun h54 => absurd (by decide) h54)
  refine wq_con (x := 0) rfl (by decide) ?_
  refine wq_sti [(2, .int 0), (1, .int 1), (0, .ref 11)] rfl rfl ?_
  refine wp_ldi rfl tm_m0 ?_
  refine wp_lda rfl tm_m2 ?_
  refine wq_geti rfl rfl (f := 26) rfl rfl (Or.inl rfl) ?_
  rw [show ((tm_sI (tm_sI (tm_sI (tm_sI (tm_sI (tF_rg (tm_sI σ 11 0 0)) 11 32 0) 11 39 0) 11 40 (-1)) 11 23 0) 11 26 0).1 11 26) = 0 from rfl]
  refine wq_icge rfl (fun h120 => ?_) (fun h120 => absurd (by decide) h120)
  refine wp_lda rfl tm_m2 ?_
  refine wq_geti rfl rfl (f := 26) rfl rfl (Or.inl rfl) ?_
  rw [show ((tm_sI (tm_sI (tm_sI (tm_sI (tm_sI (tF_rg (tm_sI σ 11 0 0)) 11 32 0) 11 39 0) 11 40 (-1)) 11 23 0) 11 26 0).1 11 26) = 0 from rfl]
  exact wp_reti rfl (th_nI rfl) ⟨rfl, trivial⟩
