/-! ===== the fresh object: the class reads an empty tape ===== -/
set_option maxRecDepth 100000 in
set_option maxHeartbeats 4000000 in
theorem tF_cut {d : Nat} {n : Int32} {σ : tm_S} (h : σ.1 7 1 = 0) : WM d 96 [.ref 7, .int n] σ (fun r σ' => r = none ∧ σ = σ') := by
  have t0 : (0 : Int32).toInt = 0 := by decide
  show WP d 96 0 [(0, .ref 7), (1, .int n)] [] σ _
  refine wp_ldi rfl tm_m1 ?_
  refine wq_iflt rfl (fun h1 => ?_) (fun h1 => ?_)
  · exact wp_retv rfl ⟨rfl, rfl⟩
  · refine wp_ldi rfl tm_m1 ?_
    refine wp_lda rfl tm_m0 ?_
    refine wq_geti rfl rfl (f := 1) rfl rfl (Or.inl rfl) ?_
    rw [show (σ.1 7 1) = 0 from h]
    refine wq_icge rfl (fun h9 => ?_) (fun h9 => absurd (tn_leI.mpr (by rw [t0]; have := mt tn_ltI.mpr h1; rw [t0] at this; omega)) h9)
    exact wp_retv rfl ⟨rfl, rfl⟩
set_option maxRecDepth 100000 in
set_option maxHeartbeats 4000000 in
theorem tF_getb {d : Nat} {n : Int32} {σ : tm_S} (h : σ.1 7 1 = 0) : WM d 100 [.ref 7, .int n] σ (fun r σ' => r = some (.int (-1)) ∧ σ = σ') := by
  have t0 : (0 : Int32).toInt = 0 := by decide
  show WP d 100 0 [(0, .ref 7), (1, .int n)] [] σ _
  refine wp_ldi rfl tm_m1 ?_
  refine wq_iflt rfl (fun h1 => ?_) (fun h1 => ?_)
  · refine wq_con (x := (-1)) rfl (by decide) ?_
    exact wp_reti rfl (th_nI rfl) ⟨rfl, rfl⟩
  · refine wp_ldi rfl tm_m1 ?_
    refine wp_lda rfl tm_m0 ?_
    refine wq_geti rfl rfl (f := 1) rfl rfl (Or.inl rfl) ?_
    rw [show (σ.1 7 1) = 0 from h]
    refine wq_icge rfl (fun h9 => ?_) (fun h9 => absurd (tn_leI.mpr (by rw [t0]; have := mt tn_ltI.mpr h1; rw [t0] at this; omega)) h9)
    refine wq_con (x := (-1)) rfl (by decide) ?_
    exact wp_reti rfl (th_nI rfl) ⟨rfl, rfl⟩
set_option maxRecDepth 100000 in
set_option maxHeartbeats 4000000 in
theorem tF_blank {d : Nat} {σ : tm_S} : WM d 101 [.int (-1)] σ (fun r σ' => r = some (.int 0) ∧ σ = σ') := by
  show WP d 101 0 [(0, .int (-1))] [] σ _
  refine wp_ldi rfl tm_m0 ?_
  refine wq_con (x := 32) rfl (by decide) ?_
  refine wq_iceq rfl (fun h3 => absurd h3 (by decide)) (fun h3 => ?_)
  refine wp_ldi rfl tm_m0 ?_
  refine wq_con (x := 10) rfl (by decide) ?_
  refine wq_icne rfl (fun h9 => ?_) (fun h9 => absurd (by decide) h9)
  refine wq_con (x := 0) rfl (by decide) ?_
  exact wp_reti rfl (th_n0 rfl) ⟨rfl, rfl⟩
set_option maxRecDepth 100000 in
set_option maxHeartbeats 4000000 in
theorem tF_holds {d : Nat} {σ : tm_S} : WM d 116 [.ref 6, .int 1, .int 1] σ (fun r σ' => r = some (.int 1) ∧ σ = σ') := by
  show WP d 116 0 [(0, .ref 6), (1, .int 1), (2, .int 1)] [] σ _
  refine wp_ldi rfl tm_m1 ?_
  refine wq_ifne rfl (fun h1 => ?_) (fun h1 => absurd (by decide) h1)
  refine wp_ldi rfl tm_m1 ?_
  exact wp_reti rfl (th_n1 rfl) ⟨rfl, rfl⟩
/-- what advance leaves: the end -/
def tF_av (σ : tm_S) : tm_S := tm_sI (tm_sR (tm_sI (tm_sI (tm_sI σ 6 5 0) 6 6 1) 6 4 0) 6 3 80) 6 6 0
set_option maxRecDepth 100000 in
set_option maxHeartbeats 4000000 in
theorem tF_adv {d : Nat} {σ : tm_S} (h7 : σ.1 7 1 = 0) (h6 : σ.1 6 6 = 0) : WM (d + 1) 99 [.ref 6] σ (fun r σ' => r = none ∧ σ' = tF_av σ) := by
  show WP (d + 1) 99 0 [(0, .ref 6)] [] σ _
  refine wp_lda rfl tm_m0 ?_
  refine wp_lda rfl tm_m0 ?_
  refine wq_geti rfl rfl (f := 6) rfl rfl (Or.inl rfl) ?_
  rw [show (σ.1 6 6) = 0 from h6]
  refine wq_puti rfl rfl (f := 5) rfl rfl ?_
  refine wq_con (x := 0) rfl (by decide) ?_
  refine wq_sti [(1, .int 0), (0, .ref 6)] rfl rfl ?_
  refine wp_ldi rfl tm_m0 ?_
  refine wq_con (x := 800) rfl (by decide) ?_
  refine wq_icge rfl (fun h14 => absurd h14 (by decide)) (fun h14 => ?_)
  refine wp_lda rfl tm_m1 ?_
  refine wq_getr (p := 7) rfl rfl (f := 0) rfl rfl ?_
  refine wp_lda rfl tm_m1 ?_
  refine wq_geti rfl rfl (f := 5) rfl rfl (Or.inl rfl) ?_
  rw [show ((tm_sI σ 6 5 0).1 6 5) = 0 from rfl]
  refine wq_calv [.int 0] rfl rfl rfl rfl rfl rfl rfl rfl rfl (tF_getb h7) ?_
  rintro _ _ ⟨rfl, rfl⟩
  refine wq_cals [.int ((-1))] rfl rfl rfl rfl rfl rfl (tF_blank) ?_
  rintro _ _ ⟨rfl, rfl⟩
  refine wq_ifeq rfl (fun h31 => ?_) (fun h31 => absurd rfl h31)
  refine wp_lda rfl tm_m1 ?_
  refine wq_getr (p := 7) rfl rfl (f := 0) rfl rfl ?_
  refine wp_lda rfl tm_m1 ?_
  refine wq_geti rfl rfl (f := 5) rfl rfl (Or.inl rfl) ?_
  rw [show ((tm_sI σ 6 5 0).1 6 5) = 0 from rfl]
  refine wq_calv [.int 0] rfl rfl rfl rfl rfl rfl rfl rfl rfl (tF_getb h7) ?_
  rintro _ _ ⟨rfl, rfl⟩
  refine wq_sti [(1, .int ((-1))), (0, .ref 6)] rfl rfl ?_
  refine wp_lda rfl tm_m1 ?_
  refine wp_lda rfl tm_m1 ?_
  refine wq_geti rfl rfl (f := 5) rfl rfl (Or.inl rfl) ?_
  rw [show ((tm_sI σ 6 5 0).1 6 5) = 0 from rfl]
  refine wq_con (x := 1) rfl (by decide) ?_
  refine wq_iadd rfl ?_
  refine wq_puti rfl rfl (f := 6) rfl rfl ?_
  refine wp_lda rfl tm_m1 ?_
  refine wq_con (x := 0) rfl (by decide) ?_
  refine wq_puti rfl rfl (f := 4) rfl rfl ?_
  refine wp_ldi rfl tm_m0 ?_
  refine wq_con (x := (-1)) rfl (by decide) ?_
  refine wq_icne rfl (fun h79 => absurd rfl h79) (fun h79 => ?_)
  refine wp_lda rfl tm_m1 ?_
  refine wp_gsE rfl ?_
  refine wq_putr rfl rfl (f := 3) rfl rfl ?_
  refine wp_lda rfl tm_m1 ?_
  refine wp_lda rfl tm_m1 ?_
  refine wq_geti rfl rfl (f := 5) rfl rfl (Or.inl rfl) ?_
  rw [show ((tm_sR (tm_sI (tm_sI (tm_sI σ 6 5 0) 6 6 (0 + 1)) 6 4 0) 6 3 80).1 6 5) = 0 from rfl]
  refine wq_puti rfl rfl (f := 6) rfl rfl ?_
  refine wp_go rfl ?_
  exact wp_retv rfl ⟨rfl, rfl⟩
/-- what reading an empty tape leaves -/
def tF_rd (σ : tm_S) : tm_S := tF_av (tm_sI (tm_sI (tm_sI (tm_sI (tm_sI (tm_sI σ 6 2 12) 6 6 0) 6 7 0) 6 8 (-1)) 10 2 0) 10 7 0)
theorem tF_rd_ty {σ : tm_S} (hT : tv_TY tF_T σ) : tv_TY tF_T (tF_rd σ) := by
  unfold tF_rd tF_av
  exact tv_TY_sI (tv_TY_tok (tv_TY_sI (tv_TY_sI (tv_TY_sI (tv_TY_sI (tv_TY_sI (tv_TY_sI (tv_TY_sI (tv_TY_sI (tv_TY_sI hT (by decide) (by decide)) (by decide) (by decide)) (by decide) (by decide)) (by decide) (by decide)) (by decide) (by decide)) (by decide) (by decide)) (by decide) (by decide)) (by decide) (by decide)) (by decide) (by decide)) (by decide) (by decide)) (by decide) (by decide)
set_option maxRecDepth 100000 in
set_option maxHeartbeats 4000000 in
theorem tF_read {d : Nat} {σ : tm_S} (h7 : σ.1 7 1 = 0) (hm : σ.2.2 6 1 = 10) : WM (d + 2) 98 [.ref 6, .int 12] σ (fun r σ' => r = some (.int 1) ∧ σ' = tF_rd σ) := by
  show WP (d + 2) 98 0 [(0, .ref 6), (1, .int 12)] [] σ _
  refine wp_lda rfl tm_m0 ?_
  refine wp_ldi rfl tm_m1 ?_
  refine wq_puti rfl rfl (f := 2) rfl rfl ?_
  refine wp_lda rfl tm_m0 ?_
  refine wq_con (x := 0) rfl (by decide) ?_
  refine wq_puti rfl rfl (f := 6) rfl rfl ?_
  refine wp_lda rfl tm_m0 ?_
  refine wq_con (x := 0) rfl (by decide) ?_
  refine wq_puti rfl rfl (f := 7) rfl rfl ?_
  refine wp_lda rfl tm_m0 ?_
  refine wq_con (x := (-1)) rfl (by decide) ?_
  refine wq_puti rfl rfl (f := 8) rfl rfl ?_
  refine wp_lda rfl tm_m0 ?_
  refine wq_getv rfl rfl (f := 1) rfl rfl ?_
  rw [show ((tm_sI (tm_sI (tm_sI (tm_sI σ 6 2 12) 6 6 0) 6 7 0) 6 8 (-1)).2.2 6 1) = 10 from hm]
  refine wq_calv [] rfl rfl rfl rfl rfl rfl rfl rfl rfl (th_clear10) ?_
  rintro _ _ ⟨rfl, rfl⟩
  refine wp_lda rfl tm_m0 ?_
  refine wq_calv [] rfl rfl rfl rfl rfl rfl rfl rfl rfl (tF_adv (show _ = _ from h7) (show _ = _ from rfl)) ?_
  rintro _ _ ⟨rfl, rfl⟩
  refine wq_con (x := 1) rfl (by decide) ?_
  refine wq_sti [(2, .int 1), (0, .ref 6), (1, .int 12)] rfl rfl ?_
  refine wq_con (x := 0) rfl (by decide) ?_
  refine wq_sti [(3, .int 0), (2, .int 1), (0, .ref 6), (1, .int 12)] rfl rfl ?_
  refine wp_ldi rfl tm_m0 ?_
  refine wq_con (x := 6) rfl (by decide) ?_
  refine wq_icgt rfl (fun h38 => absurd h38 (by decide)) (fun h38 => ?_)
  refine wp_ldi rfl tm_m1 ?_
  refine wq_ifeq rfl (fun h42 => absurd h42 (by decide)) (fun h42 => ?_)
  refine wp_lda rfl tm_m2 ?_
  refine wq_getv rfl rfl (f := 3) rfl rfl ?_
  rw [show ((tF_av (tm_sI (tm_sI (tm_sI (tm_sI (tm_sI (tm_sI σ 6 2 12) 6 6 0) 6 7 0) 6 8 (-1)) 10 2 0) 10 7 0)).2.2 6 3) = 80 from rfl]
  refine wp_gsE rfl ?_
  refine wp_ac rfl (by decide) (by decide) (fun _ => ?_) (fun h52 => absurd (by decide) h52)
  refine wq_con (x := 0) rfl (by decide) ?_
  refine wq_sti [(3, .int 0), (2, .int 1), (0, .ref 6), (1, .int 12)] rfl rfl ?_
  refine wp_ldi rfl tm_m0 ?_
  refine wq_con (x := 8) rfl (by decide) ?_
  refine wq_icgt rfl (fun h71 => absurd h71 (by decide)) (fun h71 => ?_)
  refine wp_ldi rfl tm_m1 ?_
  refine wq_ifeq rfl (fun h75 => absurd h75 (by decide)) (fun h75 => ?_)
  refine wp_lda rfl tm_m2 ?_
  refine wq_getv rfl rfl (f := 3) rfl rfl ?_
  rw [show ((tF_av (tm_sI (tm_sI (tm_sI (tm_sI (tm_sI (tm_sI σ 6 2 12) 6 6 0) 6 7 0) 6 8 (-1)) 10 2 0) 10 7 0)).2.2 6 3) = 80 from rfl]
  refine wp_gsE rfl ?_
  refine wp_ac rfl (by decide) (by decide) (fun _ => ?_) (fun h85 => absurd (by decide) h85)
  refine wp_ldi rfl tm_m1 ?_
  refine wq_ifeq rfl (fun h100 => absurd h100 (by decide)) (fun h100 => ?_)
  refine wp_lda rfl tm_m2 ?_
  refine wp_lda rfl tm_m2 ?_
  refine wq_getv rfl rfl (f := 3) rfl rfl ?_
  rw [show ((tF_av (tm_sI (tm_sI (tm_sI (tm_sI (tm_sI (tm_sI σ 6 2 12) 6 6 0) 6 7 0) 6 8 (-1)) 10 2 0) 10 7 0)).2.2 6 3) = 80 from rfl]
  refine wp_gsE rfl ?_
  refine wp_ac rfl (by decide) (by decide) (fun h111 => absurd h111 (by decide)) (fun _ => ?_)
  refine wq_con (x := 1) rfl (by decide) ?_
  refine wp_go rfl ?_
  refine wq_con (x := 1) rfl (by decide) ?_
  refine wq_calv [.int 1, .int 1] rfl rfl rfl rfl rfl rfl rfl rfl rfl (tF_holds) ?_
  rintro _ _ ⟨rfl, rfl⟩
  refine wq_ifeq rfl (fun h123 => absurd h123 (by decide)) (fun h123 => ?_)
  refine wq_con (x := 1) rfl (by decide) ?_
  refine wp_go rfl ?_
  exact wp_reti rfl (th_n1 rfl) ⟨rfl, rfl⟩
set_option maxRecDepth 100000 in
set_option maxHeartbeats 4000000 in
theorem tF_x_load {σ : tm_S} (hT : tv_TY tF_T σ) (hc : σ.2.2 0 8 = 9) (hm : σ.2.2 6 1 = 10) : WM 90 97 [.ref 0] σ (fun r σ' => r = some (.int 0) ∧ tv_TY tF_T σ') := by
  have h7 : σ.1 7 1 = 0 := tF_v hT rfl
  have eN : σ.1 1 0 = 12 := tF_v hT rfl
  have hT1 := tF_rd_ty hT
  have h71 : (tF_rd σ).1 7 1 = 0 := tF_v hT1 rfl
  have hm1 : (tF_rd σ).2.2 6 1 = 10 := hm
  have hc1 : (tF_rd σ).2.2 0 8 = 9 := hc
  have hT : tv_TY tF_T (tm_sR (tm_sR (tF_rd σ) 6 1 9) 0 8 10) := tv_TY_lnk (tv_TY_lnk hT1 (Or.inr ⟨rfl, rfl⟩) (by decide) (by decide)) (Or.inl ⟨rfl, rfl⟩) (by decide) (by decide)
  show WP 90 97 0 [(0, .ref 0)] [] σ _
  refine wp_lda rfl tm_m0 ?_
  refine wq_getr (p := 6) rfl rfl (f := 6) rfl rfl ?_
  refine wp_lda rfl tm_m0 ?_
  refine wq_getr (p := 1) rfl rfl (f := 0) rfl rfl ?_
  refine wq_calv [] rfl rfl rfl rfl rfl rfl rfl rfl rfl (th_size) ?_
  rintro _ _ ⟨rfl, rfl⟩
  rw [eN]
  refine wq_calv [.int 12] rfl rfl rfl rfl rfl rfl rfl rfl rfl (tF_read h7 hm) ?_
  rintro _ _ ⟨rfl, rfl⟩
  refine wq_sti [(1, .int 1), (0, .ref 0)] rfl rfl ?_
  refine wp_lda rfl tm_m1 ?_
  refine wq_getr (p := 6) rfl rfl (f := 6) rfl rfl ?_
  refine wq_calv [] rfl rfl rfl rfl rfl rfl rfl rfl rfl (tF_tape) ?_
  rintro _ _ ⟨rfl, rfl⟩
  refine wq_con (x := 0) rfl (by decide) ?_
  refine wq_calv [.int 0] rfl rfl rfl rfl rfl rfl rfl rfl rfl (tF_cut h71) ?_
  rintro _ _ ⟨rfl, rfl⟩
  refine wp_ldi rfl tm_m0 ?_
  refine wq_ifne rfl (fun h27 => ?_) (fun h27 => absurd (by decide) h27)
  refine wp_lda rfl tm_m1 ?_
  refine wp_lda rfl tm_m1 ?_
  refine wq_getr (p := 6) rfl rfl (f := 6) rfl rfl ?_
  refine wp_lda rfl tm_m1 ?_
  refine wq_getv rfl rfl (f := 8) rfl rfl ?_
  rw [hc1]
  refine wq_calv [.ref 9] rfl rfl rfl rfl rfl rfl rfl rfl rfl (th_exch10 hm1) ?_
  rintro _ _ ⟨rfl, rfl⟩
  refine wq_putr rfl rfl (f := 8) rfl rfl ?_
  refine wp_lda rfl tm_m1 ?_
  refine wq_getv rfl rfl (f := 8) rfl rfl ?_
  rw [show ((tm_sR (tm_sR (tF_rd σ) 6 1 9) 0 8 10).2.2 0 8) = 10 from rfl]
  refine wq_calv [] rfl rfl rfl rfl rfl rfl rfl rfl rfl (tF_one (w := 0) (R := 89) (a := [(3, 10, 10)]) (z := 0) (ws := []) (by decide +kernel) (by decide) ⟨⟨_, rfl, by decide, by decide⟩, trivial⟩ hT) ?_
  rintro _ σ' ⟨rfl, hT'⟩
  exact wp_reti rfl (th_nI rfl) ⟨rfl, hT'⟩
