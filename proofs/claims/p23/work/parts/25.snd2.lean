/-! ===== more contexts by hand ===== -/
theorem tv_z0 : (-2147483648 : Int) ≤ (0 : Int32).toInt := by decide
theorem tv_z1 : (0 : Int32).toInt ≤ (2147483647 : Int) := by decide
theorem tv_zz : (0 : Int) ≤ (0 : Int32).toInt := by decide
set_option maxRecDepth 100000 in
set_option maxHeartbeats 4000000 in
theorem th_spells_l {d : Nat} {σ : tm_S} {q : Nat} (hq : q < tt_NS) (hn : tt_len.getD q 0 ≤ 100) {f t : Int32} (hf : 0 ≤ f.toInt) (hft : f.toInt + (tt_len.getD q 0 : Nat) ≤ 800) : ∀ (m : Nat) (i : Int32), 0 ≤ i.toInt → (tt_len.getD q 0 : Int) ≤ i.toInt + m → WP (d + 4) 104 27 [(4, .int i), (0, .ref 7), (1, .ref (tt_ST + q)), (2, .int f), (3, .int t)] [] σ (fun r σ' => (r = some (.int 0) ∨ r = some (.int 1)) ∧ σ = σ') := by
  have eL : (Int32.ofNat (tt_len.getD q 0)).toInt = (tt_len.getD q 0 : Nat) := tn_ofNat (by omega)
  intro m
  induction m with
  | zero =>
    intro i h1 h2
    refine wp_ldi rfl tm_m0 ?_
    refine wp_lda rfl tm_m2 ?_
    refine wq_calS [] rfl rfl rfl rfl rfl rfl rfl hq (th_len hq) ?_
    rintro _ _ ⟨rfl, rfl⟩
    refine wq_icge rfl (fun h33 => ?_) (fun h33 => absurd (tn_leI.mpr (by omega)) h33)
    refine wq_con (x := 1) rfl (by decide) ?_
    exact wp_reti rfl (th_n1 rfl) ⟨Or.inr rfl, rfl⟩
  | succ m ih =>
    intro i h1 h2
    refine wp_ldi rfl tm_m0 ?_
    refine wp_lda rfl tm_m2 ?_
    refine wq_calS [] rfl rfl rfl rfl rfl rfl rfl hq (th_len hq) ?_
    rintro _ _ ⟨rfl, rfl⟩
    refine wq_icge rfl (fun h33 => ?_) (fun h33 => ?_)
    · refine wq_con (x := 1) rfl (by decide) ?_
      exact wp_reti rfl (th_n1 rfl) ⟨Or.inr rfl, rfl⟩
    · have e33 : i.toInt < (tt_len.getD q 0 : Nat) := by rw [tn_leI, eL] at h33; omega
      have e1 : (f + i).toInt = f.toInt + i.toInt := tn_add (by omega) (by omega)
      have e2 := tn_add1 (x := i) (by omega)
      refine wp_lda rfl tm_m1 ?_
      refine wq_getr (p := 29) rfl rfl (f := 0) rfl rfl ?_
      refine wp_ldi rfl tm_m3 ?_
      refine wp_ldi rfl tm_m0 ?_
      refine wq_iadd rfl ?_
      refine wp_iald rfl rfl (tn_in (by omega) (by omega)) ?_
      refine wp_lda rfl tm_m2 ?_
      refine wp_ldi rfl tm_m0 ?_
      refine wq_calS [.int i] rfl rfl rfl rfl rfl rfl rfl hq (th_chA hq (tn_in h1 (by omega))) ?_
      rintro _ _ ⟨rfl, rfl⟩
      refine wq_iceq rfl (fun h51 => ?_) (fun h51 => ?_)
      · refine wq_inc (c := 1) [(4, .int (i + 1)), (0, .ref 7), (1, .ref (tt_ST + q)), (2, .int f), (3, .int t)] rfl tm_m0 rfl rfl ?_
        refine wp_go rfl ?_
        exact WP.less (ih (i + 1) (by omega) (by omega)) (by simp)
      · refine wq_con (x := 0) rfl (by decide) ?_
        exact wp_reti rfl (th_n0 rfl) ⟨Or.inl rfl, rfl⟩
set_option maxRecDepth 100000 in
set_option maxHeartbeats 4000000 in
theorem th_spells {d : Nat} {σ : tm_S} {q : Nat} (hq : q < tt_NS) (hn : tt_len.getD q 0 ≤ 100) {f t : Int32} (hf : 0 ≤ f.toInt) (hf2 : f.toInt ≤ 800) (ht : 0 ≤ t.toInt) (hl : (σ.1 7 1).toInt ≤ 800) : WM (d + 4) 104 [.ref 7, .ref (tt_ST + q), .int f, .int t] σ (fun r σ' => (r = some (.int 0) ∨ r = some (.int 1)) ∧ σ = σ') := by
  have eL : (Int32.ofNat (tt_len.getD q 0)).toInt = (tt_len.getD q 0 : Nat) := tn_ofNat (by omega)
  show WP (d + 4) 104 0 [(0, .ref 7), (1, .ref (tt_ST + q)), (2, .int f), (3, .int t)] [] σ _
  refine wp_ldi rfl tm_m2 ?_
  refine wq_iflt rfl (fun h1 => ?_) (fun h1 => ?_)
  · refine wq_con (x := 0) rfl (by decide) ?_
    exact wp_reti rfl (th_n0 rfl) ⟨Or.inl rfl, rfl⟩
  · refine wp_ldi rfl tm_m3 ?_
    refine wp_lda rfl tm_m0 ?_
    refine wq_geti rfl rfl (f := 1) rfl rfl (Or.inl rfl) ?_
    refine wq_icgt rfl (fun h9 => ?_) (fun h9 => ?_)
    · refine wq_con (x := 0) rfl (by decide) ?_
      exact wp_reti rfl (th_n0 rfl) ⟨Or.inl rfl, rfl⟩
    · have e9 : t.toInt ≤ (σ.1 7 1).toInt := by rw [tn_ltI] at h9; omega
      have e1 : (t - f).toInt = t.toInt - f.toInt := tn_sub (by omega) (by omega)
      refine wp_lda rfl tm_m1 ?_
      refine wq_calS [] rfl rfl rfl rfl rfl rfl rfl hq (th_len hq) ?_
      rintro _ _ ⟨rfl, rfl⟩
      refine wp_ldi rfl tm_m3 ?_
      refine wp_ldi rfl tm_m2 ?_
      refine wq_isub rfl ?_
      refine wq_iceq rfl (fun h19 => ?_) (fun h19 => ?_)
      · refine wq_con (x := 0) rfl (by decide) ?_
        refine wq_sti [(4, .int 0), (0, .ref 7), (1, .ref (tt_ST + q)), (2, .int f), (3, .int t)] rfl rfl ?_
        have e19 : ((tt_len.getD q 0 : Nat) : Int) = t.toInt - f.toInt := by rw [← e1, ← h19, eL]
        exact WP.less (th_spells_l (t := t) hq hn hf (by omega) (tt_len.getD q 0) 0 (by decide) (by show _ ≤ (0 : Int) + _; omega)) (by simp)
      · refine wq_con (x := 0) rfl (by decide) ?_
        exact wp_reti rfl (th_n0 rfl) ⟨Or.inl rfl, rfl⟩
theorem tv_rvb {r : Option Value} (h : r = some (.int 0) ∨ r = some (.int 1)) : tv_rv r (1, 0, 1) := by
  rcases h with rfl | rfl
  · exact tv_rvi (by decide) (by decide)
  · exact tv_rvi (by decide) (by decide)
set_option maxRecDepth 100000 in
set_option maxHeartbeats 4000000 in
theorem ts_spl0 {v : Int}  : tv_Snd (tc_T v) (104, [(3, 7, 7), (3, 82, 82), (1, 0, 800), (1, 0, 800)], [], [((1, 0, 1), [])], [], 40) := by
  intro As σ hva hT
  obtain ⟨x0, x1, x2, x3, rfl, h0, h1, h2, h3⟩ := tv_va4 hva
  obtain ⟨k0, rfl, l0, u0⟩ := h0
  obtain rfl : k0 = 7 := by omega
  obtain ⟨k1, rfl, l1, u1⟩ := h1
  obtain rfl : k1 = 82 := by omega
  obtain ⟨a2, rfl, l2, u2⟩ := h2
  obtain ⟨a3, rfl, l3, u3⟩ := h3
  refine WM.mono (th_spells (q := 0) (d := 36) (by decide) (by decide) l2 u2 l3 (hT.1 7 1).2) ?_
  rintro r σ1 ⟨h, rfl⟩
  exact tv_Qc1 hT tv_un_rf (tv_rvb h)
set_option maxRecDepth 100000 in
set_option maxHeartbeats 4000000 in
theorem ts_spl1 {v : Int}  : tv_Snd (tc_T v) (104, [(3, 7, 7), (3, 83, 83), (1, 0, 800), (1, 0, 800)], [], [((1, 0, 1), [])], [], 40) := by
  intro As σ hva hT
  obtain ⟨x0, x1, x2, x3, rfl, h0, h1, h2, h3⟩ := tv_va4 hva
  obtain ⟨k0, rfl, l0, u0⟩ := h0
  obtain rfl : k0 = 7 := by omega
  obtain ⟨k1, rfl, l1, u1⟩ := h1
  obtain rfl : k1 = 83 := by omega
  obtain ⟨a2, rfl, l2, u2⟩ := h2
  obtain ⟨a3, rfl, l3, u3⟩ := h3
  refine WM.mono (th_spells (q := 1) (d := 36) (by decide) (by decide) l2 u2 l3 (hT.1 7 1).2) ?_
  rintro r σ1 ⟨h, rfl⟩
  exact tv_Qc1 hT tv_un_rf (tv_rvb h)
set_option maxRecDepth 100000 in
set_option maxHeartbeats 4000000 in
theorem ts_spl2 {v : Int}  : tv_Snd (tc_T v) (104, [(3, 7, 7), (3, 84, 84), (1, 0, 800), (1, 0, 800)], [], [((1, 0, 1), [])], [], 40) := by
  intro As σ hva hT
  obtain ⟨x0, x1, x2, x3, rfl, h0, h1, h2, h3⟩ := tv_va4 hva
  obtain ⟨k0, rfl, l0, u0⟩ := h0
  obtain rfl : k0 = 7 := by omega
  obtain ⟨k1, rfl, l1, u1⟩ := h1
  obtain rfl : k1 = 84 := by omega
  obtain ⟨a2, rfl, l2, u2⟩ := h2
  obtain ⟨a3, rfl, l3, u3⟩ := h3
  refine WM.mono (th_spells (q := 2) (d := 36) (by decide) (by decide) l2 u2 l3 (hT.1 7 1).2) ?_
  rintro r σ1 ⟨h, rfl⟩
  exact tv_Qc1 hT tv_un_rf (tv_rvb h)
theorem tv_TY_sA {T : tv_TT} {σ : tm_S} {p : Nat} {f : Nat → Int32} (hT : tv_TY T σ) (h : ∀ j, (tv_ti T p j).1 ≤ (f j).toInt ∧ (f j).toInt ≤ (tv_ti T p j).2) : tv_TY T (tm_sA σ p f) := by
  refine ⟨fun k j => ?_, hT.2⟩
  by_cases hk : k = p
  · subst hk
    rw [tm_sA_at]
    exact h j
  · rw [tm_sA_ne σ f hk]
    exact hT.1 k j
theorem tv_un_sA {σ : tm_S} {p : Nat} {f : Nat → Int32} {q : Nat × Nat} {w : List (Nat × Nat)} (h : tt_shp[p]? = some (.inr q)) (hm : tv_mem w p 64 = true) : tv_un σ (tm_sA σ p f) w := by
  refine ⟨fun a i kd h1 _ => ?_, fun k2 _ _ h2 => ⟨tm_sA_ne σ f (fun e => by rw [e, hm] at h2; cases h2), rfl⟩⟩
  have hk : a ≠ p := by
    rintro rfl
    unfold tv_kd at h1
    rw [h] at h1
    cases h1
  match kd with
  | 0 => show Value.int _ = Value.int _; rw [tm_sA_ne σ f hk]
  | 1 => show Value.int _ = Value.int _; rw [tm_sA_ne σ f hk]
  | 2 => rfl
  | 3 => rfl
  | p + 4 => rfl
theorem th_sys : Cond.native arraycopyName ∈ tm_tbl ∧ Cond.static arraycopyName ∈ tm_tbl ∧ Cond.initialized "java/lang/System" ∈ tm_tbl := by
  refine ⟨tm_tbl_in ?_ rfl, tm_tbl_in ?_ rfl, tm_tbl_in ?_ rfl⟩ <;> decide +kernel
set_option maxRecDepth 100000 in
set_option maxHeartbeats 4000000 in
theorem ts_copy {v : Int}  : tv_Snd (tc_T v) (159, [(3, 7, 7), (3, 8, 8)], [], [((0, 0, 0), [])], [(7, 1), (29, 64)], 40) := by
  intro As σ hva hT
  obtain ⟨x0, x1, rfl, h0, h1⟩ := tv_va2 hva
  obtain ⟨k0, rfl, l0, u0⟩ := h0
  obtain rfl : k0 = 7 := by omega
  obtain ⟨k1, rfl, l1, u1⟩ := h1
  obtain rfl : k1 = 8 := by omega
  show WP 40 159 0 [(0, .ref 7), (1, .ref 8)] [] σ _
  refine wp_lda rfl tm_m1 ?_
  refine wq_getr (p := 30) rfl rfl (f := 0) rfl rfl ?_
  refine wq_con (x := 0) rfl (by decide) ?_
  refine wp_lda rfl tm_m0 ?_
  refine wq_getr (p := 29) rfl rfl (f := 0) rfl rfl ?_
  refine wq_con (x := 0) rfl (by decide) ?_
  refine wp_lda rfl tm_m1 ?_
  refine wq_geti rfl rfl (f := 1) rfl rfl (Or.inl rfl) ?_
  have g := hT.1 8 1
  have g0 : 0 ≤ (σ.1 8 1).toInt := g.1
  have g1 : (σ.1 8 1).toInt ≤ 800 := g.2
  have gc := tn_cl g0
  refine wp_cpy rfl rfl rfl (by decide) (by decide) (by rw [tn_ltI]; show ¬ (σ.1 8 1).toInt < 0; omega) (by show 0 + _ ≤ 800; omega) (by show 0 + _ ≤ 800; omega) (by decide) (by decide) th_sys ?_
  refine wp_lda rfl tm_m0 ?_
  refine wp_lda rfl tm_m1 ?_
  refine wq_geti rfl rfl (f := 1) rfl rfl (Or.inl rfl) ?_
  refine wq_puti rfl rfl (f := 1) rfl rfl ?_
  refine wp_retv rfl (tv_Qc1 (tv_TY_sI (tv_TY_sA hT (fun j => ?_)) g0 g1) (tv_un_tr (tv_un_sA rfl rfl) (tv_un_fI rfl)) tv_rvn)
  unfold va_cpy
  split
  · exact hT.1 30 _
  · exact hT.1 29 _
def tz_note (v : Int) : tv_C := (214, [(3, 11, 11), (1, 0, 7), (1, 0, v - 1)], [], [((1, (-2147483648), 2147483647), [])], [], 39)
set_option maxRecDepth 100000 in
set_option maxHeartbeats 4000000 in
theorem ts_sung {v : Int} (hnote : tv_Snd (tc_T v) (tz_note v)) : tv_Snd (tc_T v) (213, [(3, 11, 11), (1, 0, 7), (1, (-2147483648), 2147483647)], [], [((1, (-2147483648), 2147483647), [])], [], 40) := by
  intro As σ hva hT
  obtain ⟨x0, x1, x2, rfl, h0, h1, h2⟩ := tv_va3 hva
  obtain ⟨k0, rfl, l0, u0⟩ := h0
  obtain rfl : k0 = 11 := by omega
  obtain ⟨a1, rfl, l1, u1⟩ := h1
  obtain ⟨a2, rfl, l2, u2⟩ := h2
  have gb : 0 ≤ (σ.1 64 a1.toNatClampNeg).toInt ∧ (σ.1 64 a1.toNatClampNeg).toInt ≤ 40 := hT.1 64 _
  have gn : v ≤ (σ.1 11 1).toInt ∧ (σ.1 11 1).toInt ≤ v := hT.1 11 1
  have hr2 := tn_rng a2
  show WP 40 213 0 [(0, .ref 11), (1, .int a1), (2, .int a2)] [] σ _
  refine wp_ldi rfl tm_m2 ?_
  refine wp_lda rfl tm_m0 ?_
  refine wq_getr (p := 64) rfl rfl (f := 30) rfl rfl ?_
  refine wp_ldi rfl tm_m1 ?_
  refine wp_iald rfl rfl (tn_in l1 (by omega)) ?_
  refine wq_isub rfl ?_
  refine wq_sti [(3, .int (a2 - (σ.1 64 a1.toNatClampNeg))), (0, .ref 11), (1, .int a1), (2, .int a2)] rfl rfl ?_
  refine wp_ldi rfl tm_m3 ?_
  refine wp_lda rfl tm_m1 ?_
  refine wq_getr (p := 64) rfl rfl (f := 30) rfl rfl ?_
  refine wp_ldi rfl tm_m2 ?_
  refine wp_iald rfl rfl (tn_in l1 (by omega)) ?_
  refine wq_iclt rfl (fun h16 => ?_) (fun h16 => ?_)
  · refine wq_con (x := (-1)) rfl (by decide) ?_
    exact wp_reti rfl (th_nI rfl) (tv_Qc1 hT tv_un_rf tv_rva)
  · refine wp_ldi rfl tm_m0 ?_
    refine wp_lda rfl tm_m1 ?_
    refine wq_geti rfl rfl (f := 1) rfl rfl (Or.inl rfl) ?_
    refine wq_icge rfl (fun h24 => ?_) (fun h24 => ?_)
    · refine wq_con (x := (-1)) rfl (by decide) ?_
      exact wp_reti rfl (th_nI rfl) (tv_Qc1 hT tv_un_rf tv_rva)
    · have e16 : ¬ a2.toInt < (σ.1 64 a1.toNatClampNeg).toInt := by rw [tn_ltI] at h16; exact h16
      have e1 : (a2 - σ.1 64 a1.toNatClampNeg).toInt = a2.toInt - (σ.1 64 a1.toNatClampNeg).toInt := tn_sub (by omega) (by omega)
      have e24 : (a2 - σ.1 64 a1.toNatClampNeg).toInt < (σ.1 11 1).toInt := by rw [tn_leI] at h24; omega
      refine wp_lda rfl tm_m1 ?_
      refine wp_ldi rfl tm_m2 ?_
      refine wp_ldi rfl tm_m0 ?_
      refine wq_calv [.int a1, .int (a2 - (σ.1 64 a1.toNatClampNeg))] rfl rfl rfl rfl rfl rfl rfl rfl rfl (WM.deep (hnote [.ref 11, .int a1, .int (a2 - σ.1 64 a1.toNatClampNeg)] σ ⟨⟨_, rfl, by decide, by decide⟩, ⟨_, rfl, l1, u1⟩, ⟨_, rfl, by omega, by omega⟩, trivial⟩ hT) (show 39 ≤ 39 from Nat.le_refl 39)) ?_
      rintro r1 σ1 ⟨hT1, hu1, q, hq, hr, -⟩
      obtain rfl := List.mem_singleton.mp hq
      rcases hr with ⟨e, -⟩ | ⟨x, rfl, hx⟩
      · cases e
      obtain ⟨z1, rfl, -, -⟩ := hx
      refine wp_go rfl ?_
      exact wp_reti rfl (th_nI rfl) (tv_Qc1 hT1 hu1 tv_rva)
