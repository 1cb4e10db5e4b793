/-! ===== rounds of the reference ===== -/
set_option maxRecDepth 100000 in
set_option maxHeartbeats 4000000 in
theorem th_isrd {d : Nat} {c2 mo2 : Int32} {σ : tm_S} : WM d 202 [.ref 11, .int c2, .int mo2] σ (fun q σ' => ((q = some (.int 1) ∧ ∃ c mo : Nat, c2 = nI c ∧ mo2 = nI mo ∧ 2 ≤ c ∧ c ≤ 24 ∧ 0 < mo ∧ mo < 2 ^ c) ∨ q = some (.int 0)) ∧ σ = σ') := by
  show WP d 202 0 [(0, .ref 11), (1, .int c2), (2, .int mo2)] [] σ _
  refine wp_ldi rfl tm_m1 ?_
  refine wq_con (x := 2) rfl (by decide) ?_
  refine wq_iclt rfl (fun h2 => ?_) (fun h2 => ?_)
  · have g2 : (c2).toInt < 2 := tn_ltI.mp h2
    refine wq_con (x := 0) rfl (by decide) ?_
    exact wp_reti rfl (th_n0 rfl) ⟨Or.inr rfl, rfl⟩
  · have g2 : ¬ (c2).toInt < 2 := fun g => h2 (tn_ltI.mpr g)
    refine wp_ldi rfl tm_m1 ?_
    refine wq_con (x := 24) rfl (by decide) ?_
    refine wq_icgt rfl (fun h8 => ?_) (fun h8 => ?_)
    · have g8 : 24 < (c2).toInt := tn_ltI.mp h8
      refine wq_con (x := 0) rfl (by decide) ?_
      exact wp_reti rfl (th_n0 rfl) ⟨Or.inr rfl, rfl⟩
    · have g8 : ¬ 24 < (c2).toInt := fun g => h8 (tn_ltI.mpr g)
      refine wp_ldi rfl tm_m2 ?_
      refine wq_ifle rfl (fun h12 => ?_) (fun h12 => ?_)
      · have g12 : (mo2).toInt ≤ 0 := tn_leI.mp h12
        refine wq_con (x := 0) rfl (by decide) ?_
        exact wp_reti rfl (th_n0 rfl) ⟨Or.inr rfl, rfl⟩
      · have g12 : ¬ (mo2).toInt ≤ 0 := fun g => h12 (tn_leI.mpr g)
        refine wp_ldi rfl tm_m2 ?_
        refine wq_con (x := 1) rfl (by decide) ?_
        refine wp_ldi rfl tm_m1 ?_
        refine wq_ishl rfl ?_
        refine wq_icge rfl (fun h19 => ?_) (fun h19 => ?_)
        · have g19 : (1 <<< (c2 &&& 31)).toInt ≤ (mo2).toInt := tn_leI.mp h19
          refine wq_con (x := 0) rfl (by decide) ?_
          exact wp_reti rfl (th_n0 rfl) ⟨Or.inr rfl, rfl⟩
        · have g19 : ¬ (1 <<< (c2 &&& 31)).toInt ≤ (mo2).toInt := fun g => h19 (tn_leI.mpr g)
          refine wq_con (x := 1) rfl (by decide) ?_
          refine wp_go rfl ?_
          change ¬ c2.toInt < (2 : Int) at g2
          change ¬ (24 : Int) < c2.toInt at g8
          change ¬ mo2.toInt ≤ (0 : Int) at g12
          obtain ⟨c, c1, rfl⟩ := nI_of (x := c2) (by rw [tn_ltI]; show ¬ c2.toInt < 0; omega)
          obtain ⟨mo, m1, rfl⟩ := nI_of (x := mo2) (by rw [tn_ltI]; show ¬ mo2.toInt < 0; omega)
          rw [nI_toInt c1] at g2 g8
          rw [nI_toInt m1] at g12
          have hp : 2 ^ c ≤ 2 ^ 24 := Nat.pow_le_pow_right (by decide) (by omega)
          rw [th_p24 c (by omega), nI_toInt m1, nI_toInt (by omega)] at g19
          exact wp_reti rfl (th_n1 rfl) ⟨Or.inl ⟨rfl, c, mo, rfl, rfl, by omega, by omega, by omega, by omega⟩, rfl⟩
set_option maxRecDepth 100000 in
set_option maxHeartbeats 4000000 in
theorem th_later {d c mo e : Nat} {σ : tm_S} (hc : c ≤ 24) (hm : mo < 2 ^ c) (he : e < c) (h0 : ¬ e = 0) : WM d 205 [.ref 11, .int (nI c), .int (nI mo), .int (nI e)] σ (th_is (.int (nI (th_R c mo e))) σ) := by
  have hp : 2 ^ c ≤ 2 ^ 24 := Nat.pow_le_pow_right (by decide) hc
  have es : nI c - nI e = nI (c - e) := Int32.toInt_inj.mp (by rw [tn_sub (by rw [nI_toInt (by omega), nI_toInt (by omega)]; omega) (by rw [nI_toInt (by omega), nI_toInt (by omega)]; omega), nI_toInt (by omega), nI_toInt (by omega), nI_toInt (by omega)]; omega)
  have eR : (nI mo <<< (nI e &&& 31) ||| nI (mo / 2 ^ (c - e))) &&& nI (2 ^ c - 1) = nI (th_R c mo e) := by
    have hd : mo / 2 ^ (c - e) ≤ mo := Nat.div_le_self _ _
    have hl := th_R_lt (e := e) hm
    refine th_iof ?_ (by omega)
    rw [tn_and, tn_or, tn_shl, th_nn (by omega), th_nn (by omega), th_nn (by omega), th_nn (by omega), Nat.mod_eq_of_lt (show e < 32 by omega), Nat.and_two_pow_sub_one_eq_mod]
    unfold th_R
    rw [if_neg h0]
  show WP d 205 0 [(0, .ref 11), (1, .int (nI c)), (2, .int (nI mo)), (3, .int (nI e))] [] σ _
  refine wp_ldi rfl tm_m2 ?_
  refine wp_ldi rfl tm_m3 ?_
  refine wq_ishl rfl ?_
  refine wp_ldi rfl tm_m2 ?_
  refine wp_ldi rfl tm_m1 ?_
  refine wp_ldi rfl tm_m3 ?_
  refine wq_isub rfl ?_
  rw [es]
  refine wq_ishr rfl ?_
  rw [th_shr (by omega) (by omega)]
  refine wq_ior rfl ?_
  refine wq_con (x := 1) rfl (by decide) ?_
  refine wp_ldi rfl tm_m1 ?_
  refine wq_ishl rfl ?_
  refine wq_con (x := 1) rfl (by decide) ?_
  refine wq_isub rfl ?_
  rw [th_m24 c hc]
  refine wq_iand rfl ?_
  rw [eR]
  exact wp_reti rfl (th_nI rfl) ⟨rfl, rfl⟩
set_option maxRecDepth 100000 in
set_option maxHeartbeats 4000000 in
theorem th_filled {d c mo e : Nat} {σ : tm_S} (hc : c ≤ 24) (hm : mo < 2 ^ c) (he : e < c) : WM (d + 1) 204 [.ref 11, .int (nI c), .int (nI mo), .int (nI e)] σ (th_is (.int (nI (th_R c mo e))) σ) := by
  show WP (d + 1) 204 0 [(0, .ref 11), (1, .int (nI c)), (2, .int (nI mo)), (3, .int (nI e))] [] σ _
  refine wp_ldi rfl tm_m3 ?_
  refine wq_ifne rfl (fun h1 => ?_) (fun h1 => ?_)
  · refine wp_lda rfl tm_m0 ?_
    refine wp_ldi rfl tm_m1 ?_
    refine wp_ldi rfl tm_m2 ?_
    refine wp_ldi rfl tm_m3 ?_
    refine wq_calv [.int (nI c), .int (nI mo), .int (nI e)] rfl rfl rfl rfl rfl rfl rfl rfl rfl (th_later hc hm he (fun x => h1 (by rw [x]; rfl))) ?_
    rintro _ _ ⟨rfl, rfl⟩
    exact wp_reti rfl (th_nI rfl) ⟨rfl, rfl⟩
  · refine wp_ldi rfl tm_m2 ?_
    refine wp_go rfl ?_
    have e0 : e = 0 := (nI_eq (by omega) (by decide)).mp ((Classical.not_not.mp h1).trans nI_0.symm)
    exact wp_reti rfl (th_nI rfl) ⟨by unfold th_R; rw [if_pos e0], rfl⟩
set_option maxRecDepth 100000 in
set_option maxHeartbeats 4000000 in
theorem th_on24 {d m : Nat} {σ : tm_S} (hm : m < 2 ^ 24) : WM d 174 [.ref 11, .int (nI m)] σ (th_is (.int (nI (th_po m 24))) σ) := by
  have l24 : th_po m 24 ≤ 24 := th_sm_le
  have k4 : ∀ (r a k : Nat), a < 2 ^ 24 → th_po a 24 = r → k + r = th_po m 24 → WP d 174 4 [(3, .int (nI a)), (2, .int (nI k)), (0, .ref 11), (1, .int (nI m))] [] σ (th_is (.int (nI (th_po m 24))) σ) := by
    intro r
    induction r with
    | zero =>
      intro a k ha hr hk
      obtain rfl : k = th_po m 24 := by omega
      have a0 : a = 0 := by
        rcases Nat.eq_zero_or_pos a with e | e
        · exact e
        · have := th_po1 ha e
          omega
      refine wp_ldi rfl tm_m0 ?_
      refine wq_ifeq rfl (fun h5 => ?_) (fun h5 => absurd (by rw [a0]; rfl) h5)
      refine wp_ldi rfl tm_m1 ?_
      exact wp_reti rfl (th_nI rfl) ⟨rfl, rfl⟩
    | succ r ih =>
      intro a k ha hr hk
      have a0 : 0 < a := by
        rcases Nat.eq_zero_or_pos a with e | e
        · rw [e, show th_po 0 24 = 0 by decide] at hr
          omega
        · exact e
      have x1 := th_po_dec ha a0
      have hl : a &&& (a - 1) ≤ a := Nat.and_le_left
      have x2 : nI a &&& (nI a - 1) = nI (a &&& (a - 1)) := by rw [show nI a - 1 = nI (a - 1) by rw [show a = (a - 1) + 1 by omega]; exact nI_pred _, th_and24 ha (by omega)]
      refine wp_ldi rfl tm_m0 ?_
      refine wq_ifeq rfl (fun h5 => absurd h5 (nI_ne0 a0 (by omega))) (fun h5 => ?_)
      refine wp_ldi rfl tm_m1 ?_
      refine wq_con (x := 1) rfl (by decide) ?_
      refine wq_iadd rfl ?_
      rw [nI_1]
      refine wq_sti [(2, .int (nI (k + 1))), (3, .int (nI a)), (0, .ref 11), (1, .int (nI m))] rfl rfl ?_
      refine wp_ldi rfl tm_m1 ?_
      refine wp_ldi rfl tm_m1 ?_
      refine wq_con (x := 1) rfl (by decide) ?_
      refine wq_isub rfl ?_
      refine wq_iand rfl ?_
      rw [x2]
      refine wq_sti [(3, .int (nI (a &&& (a - 1)))), (2, .int (nI (k + 1))), (0, .ref 11), (1, .int (nI m))] rfl rfl ?_
      refine wp_go rfl ?_
      exact WP.less (ih (a &&& (a - 1)) (k + 1) (by omega) (by omega) (by omega)) (by simp)
  show WP d 174 0 [(0, .ref 11), (1, .int (nI m))] [] σ _
  refine wq_con (x := nI 0) rfl (by decide) ?_
  refine wq_sti [(2, .int (nI 0)), (0, .ref 11), (1, .int (nI m))] rfl rfl ?_
  refine wp_ldi rfl tm_m2 ?_
  refine wq_sti [(3, .int (nI m)), (2, .int (nI 0)), (0, .ref 11), (1, .int (nI m))] rfl rfl ?_
  exact WP.less (k4 (th_po m 24) m 0 hm rfl (by omega)) (by simp)
def th_FE (n : Nat) (σ s : tm_S) : Prop := tv_TY (tc_T (n : Int)) s ∧ tv_un σ s [(11, 0), (11, 15), (11, 16), (11, 17), (54, 64), (56, 64), (57, 64), (58, 64)]
/-- the levels' rows as they were -/
def th_L3 (s t : tm_S) : Prop := t.1 56 = s.1 56 ∧ t.1 57 = s.1 57 ∧ t.1 58 = s.1 58
set_option maxRecDepth 100000 in
set_option maxHeartbeats 4000000 in
theorem th_put {d n x : Nat} {σ s : tm_S} (F : th_FE n σ s) (hx0 : 0 < x) (hx : x < 2 ^ 24) (he : (s.1 11 17).toInt < 8192) : WM d 206 [.ref 11, .int (nI x)] s (fun q t => q = none ∧ th_FE n σ t ∧ (t.1 11 17).toInt = (s.1 11 17).toInt + 1 ∧ th_L3 s t) := by
  have eX : (nI x).toInt = x := nI_toInt (by omega)
  have g17 : 0 ≤ (s.1 11 17).toInt := (F.1.1 11 17).1
  have k42 : ∀ (k : Int32) (t : tm_S), 0 ≤ k.toInt → k.toInt < 8192 → th_FE n σ t → t.1 11 17 = s.1 11 17 → th_L3 s t → WP d 206 42 [(2, .int k), (0, .ref 11), (1, .int (nI x))] [] t (fun q t => q = none ∧ th_FE n σ t ∧ (t.1 11 17).toInt = (s.1 11 17).toInt + 1 ∧ th_L3 s t) := by
    intro k t k0 k1 Ft e17 L3
    refine wp_lda rfl tm_m1 ?_
    refine wq_getr (p := 54) rfl rfl (f := 18) rfl rfl ?_
    refine wp_ldi rfl tm_m0 ?_
    refine wp_ldi rfl tm_m2 ?_
    refine wp_iast rfl rfl (tn_in k0 (by omega)) ?_
    refine wp_lda rfl tm_m1 ?_
    refine wp_lda rfl tm_m1 ?_
    refine wq_geti rfl rfl (f := 17) rfl rfl (Or.inl rfl) ?_
    rw [tm_gI, if_neg (fun e => absurd e.1 (by decide)), e17]
    refine wq_con (x := 1) rfl (by decide) ?_
    refine wq_iadd rfl ?_
    refine wq_puti rfl rfl (f := 17) rfl rfl ?_
    have e1 := tn_add1 (x := s.1 11 17) (by omega)
    refine wp_retv rfl ⟨rfl, ⟨tv_TY_sI (tv_TY_row Ft.1 (ty := (0, 16777215)) (fun _ => rfl) (by rw [eX]; show (0 : Int) ≤ _; omega) (by rw [eX]; show _ ≤ (16777215 : Int); omega)) (by rw [e1]; show (0 : Int) ≤ _; omega) (by rw [e1]; show _ ≤ (8192 : Int); omega), tv_un_tr (tv_un_tr Ft.2 (tv_un_ar rfl rfl)) (tv_un_fI rfl)⟩, by rw [tm_gI, if_pos ⟨rfl, rfl⟩, e1], ?_⟩
    exact ⟨((tm_sI_ar (by decide)).1.trans (tm_sI_ar (by decide)).1).trans L3.1, ((tm_sI_ar (by decide)).1.trans (tm_sI_ar (by decide)).1).trans L3.2.1, ((tm_sI_ar (by decide)).1.trans (tm_sI_ar (by decide)).1).trans L3.2.2⟩
  have k5 : ∀ (m : Nat) (k : Int32) (t : tm_S), k.toInt ≤ m → 0 ≤ k.toInt → k.toInt < 8192 → th_FE n σ t → t.1 11 17 = s.1 11 17 → th_L3 s t → WP d 206 5 [(2, .int k), (0, .ref 11), (1, .int (nI x))] [] t (fun q t => q = none ∧ th_FE n σ t ∧ (t.1 11 17).toInt = (s.1 11 17).toInt + 1 ∧ th_L3 s t) := by
    intro m
    induction m with
    | zero =>
      intro k t hm k0 k1 Ft e17 L3
      refine wp_ldi rfl tm_m0 ?_
      refine wq_ifle rfl (fun h6 => ?_) (fun h6 => absurd (tn_leI.mpr (by show _ ≤ (0 : Int); omega)) h6)
      exact k42 k t k0 k1 Ft e17 L3
    | succ m ih =>
      intro k t hm k0 k1 Ft e17 L3
      refine wp_ldi rfl tm_m0 ?_
      refine wq_ifle rfl (fun h6 => ?_) (fun h6 => ?_)
      · have g6 : (k).toInt ≤ 0 := tn_leI.mp h6
        exact k42 k t k0 k1 Ft e17 L3
      · have g6 : ¬ (k).toInt ≤ 0 := fun g => h6 (tn_leI.mpr g)
        have g6b : 0 < k.toInt := by change ¬ k.toInt ≤ (0 : Int) at g6; omega
        have e1 : (k - 1).toInt = k.toInt - 1 := by rw [tn_sub (by show -2147483648 ≤ k.toInt - 1; omega) (by show k.toInt - 1 ≤ 2147483647; omega)]; rfl
        refine wp_lda rfl tm_m1 ?_
        refine wq_getr (p := 54) rfl rfl (f := 18) rfl rfl ?_
        refine wp_ldi rfl tm_m0 ?_
        refine wq_con (x := 1) rfl (by decide) ?_
        refine wq_isub rfl ?_
        refine wp_iald rfl rfl (tn_in (by rw [e1]; omega) (by rw [e1]; omega)) ?_
        refine wp_ldi rfl tm_m2 ?_
        refine wq_icle rfl (fun h18 => ?_) (fun h18 => ?_)
        · have g18 : (t.1 54 (k - 1).toNatClampNeg).toInt ≤ (nI x).toInt := tn_leI.mp h18
          exact k42 k t k0 k1 Ft e17 L3
        · have g18 : ¬ (t.1 54 (k - 1).toNatClampNeg).toInt ≤ (nI x).toInt := fun g => h18 (tn_leI.mpr g)
          refine wp_lda rfl tm_m1 ?_
          refine wq_getr (p := 54) rfl rfl (f := 18) rfl rfl ?_
          refine wp_ldi rfl tm_m0 ?_
          refine wp_lda rfl tm_m1 ?_
          refine wq_getr (p := 54) rfl rfl (f := 18) rfl rfl ?_
          refine wp_ldi rfl tm_m0 ?_
          refine wq_con (x := 1) rfl (by decide) ?_
          refine wq_isub rfl ?_
          refine wp_iald rfl rfl (tn_in (by rw [e1]; omega) (by rw [e1]; omega)) ?_
          refine wp_iast rfl rfl (tn_in k0 (by omega)) ?_
          refine wp_ldi rfl tm_m0 ?_
          refine wq_con (x := 1) rfl (by decide) ?_
          refine wq_isub rfl ?_
          refine wq_sti [(2, .int (k - 1)), (0, .ref 11), (1, .int (nI x))] rfl rfl ?_
          refine wp_go rfl ?_
          refine WP.less (ih (k - 1) _ (by omega) (by omega) (by omega) ⟨tv_TY_row Ft.1 (ty := (0, 16777215)) (fun _ => rfl) (Ft.1.1 54 _).1 (Ft.1.1 54 _).2, tv_un_tr Ft.2 (tv_un_ar rfl rfl)⟩ (by rw [tm_gI, if_neg (fun e => absurd e.1 (by decide))]; exact e17) ⟨(tm_sI_ar (by decide)).1.trans L3.1, (tm_sI_ar (by decide)).1.trans L3.2.1, (tm_sI_ar (by decide)).1.trans L3.2.2⟩) (by simp)
  show WP d 206 0 [(0, .ref 11), (1, .int (nI x))] [] s _
  refine wp_lda rfl tm_m0 ?_
  refine wq_geti rfl rfl (f := 17) rfl rfl (Or.inl rfl) ?_
  refine wq_sti [(2, .int (s.1 11 17)), (0, .ref 11), (1, .int (nI x))] rfl rfl ?_
  exact WP.less (k5 8192 _ s (by omega) g17 he F rfl ⟨rfl, rfl, rfl⟩) (by simp)
set_option maxRecDepth 100000 in
set_option maxHeartbeats 4000000 in
theorem th_e66 {c mo L cv m : Nat} {s : tm_S} {Q : Option Value → tm_S → Prop} (hc : c ≤ 24) (hL : L < 25) (hcv : cv < 2 ^ c) (hf : ¬ cv = 2 ^ c - 1) (e57 : s.1 57 L = nI cv) (e56 : s.1 56 L = nI m) (K : ∀ b : Nat, b < c → WP 40 203 105 [(5, .int (nI m)), (4, .int (nI b)), (3, .int (nI L)), (0, .ref 11), (1, .int (nI c)), (2, .int (nI mo))] [] s Q) : WP 40 203 66 [(3, .int (nI L)), (0, .ref 11), (1, .int (nI c)), (2, .int (nI mo))] [] s Q := by
  have hp : 2 ^ c ≤ 2 ^ 24 := Nat.pow_le_pow_right (by decide) hc
  have cL : (nI L).toNatClampNeg = L := nI_clamp (by omega)
  obtain ⟨b0, b1, b2⟩ := th_clear hcv hf
  have k73 : ∀ (r q : Nat), q + r = b0 → WP 40 203 73 [(4, .int (nI q)), (3, .int (nI L)), (0, .ref 11), (1, .int (nI c)), (2, .int (nI mo))] [] s Q := by
    intro r
    induction r with
    | zero =>
      intro q hq
      obtain rfl : q = b0 := by omega
      refine wp_lda rfl tm_m2 ?_
      refine wp_lda rfl tm_m2 ?_
      refine wq_getr (p := 57) rfl rfl (f := 21) rfl rfl ?_
      refine wp_ldi rfl tm_m1 ?_
      refine wp_iald rfl rfl (nI_in hL (by decide)) ?_
      rw [cL, e57]
      refine wp_ldi rfl tm_m0 ?_
      refine wq_calv [.int (nI cv), .int (nI q)] rfl rfl rfl rfl rfl rfl rfl rfl rfl (th_has) ?_
      rintro _ _ ⟨rfl, rfl⟩
      refine wq_ifeq rfl (fun h85 => ?_) (fun h85 => absurd (by rw [th_hs24 (by omega) (by omega), b2]; rfl) h85)
      refine wp_lda rfl tm_m2 ?_
      refine wq_getr (p := 56) rfl rfl (f := 20) rfl rfl ?_
      refine wp_ldi rfl tm_m1 ?_
      refine wp_iald rfl rfl (nI_in hL (by decide)) ?_
      rw [cL, e56]
      refine wq_sti [(5, .int (nI m)), (4, .int (nI q)), (3, .int (nI L)), (0, .ref 11), (1, .int (nI c)), (2, .int (nI mo))] rfl rfl ?_
      exact WP.less (K q (by omega)) (by simp)
    | succ r ih =>
      intro q hq
      refine wp_lda rfl tm_m2 ?_
      refine wp_lda rfl tm_m2 ?_
      refine wq_getr (p := 57) rfl rfl (f := 21) rfl rfl ?_
      refine wp_ldi rfl tm_m1 ?_
      refine wp_iald rfl rfl (nI_in hL (by decide)) ?_
      rw [cL, e57]
      refine wp_ldi rfl tm_m0 ?_
      refine wq_calv [.int (nI cv), .int (nI q)] rfl rfl rfl rfl rfl rfl rfl rfl rfl (th_has) ?_
      rintro _ _ ⟨rfl, rfl⟩
      refine wq_ifeq rfl (fun h85 => ?_) (fun h85 => ?_)
      · refine wp_lda rfl tm_m2 ?_
        refine wq_getr (p := 56) rfl rfl (f := 20) rfl rfl ?_
        refine wp_ldi rfl tm_m1 ?_
        refine wp_iald rfl rfl (nI_in hL (by decide)) ?_
        rw [cL, e56]
        refine wq_sti [(5, .int (nI m)), (4, .int (nI q)), (3, .int (nI L)), (0, .ref 11), (1, .int (nI c)), (2, .int (nI mo))] rfl rfl ?_
        exact WP.less (K q (by omega)) (by simp)
      · refine wp_ldi rfl tm_m0 ?_
        refine wq_con (x := 1) rfl (by decide) ?_
        refine wq_iadd rfl ?_
        refine wq_sti [(4, .int ((nI q) + 1)), (3, .int (nI L)), (0, .ref 11), (1, .int (nI c)), (2, .int (nI mo))] rfl rfl ?_
        refine wp_go rfl ?_
        rw [nI_1]
        exact WP.less (ih (q + 1) (by omega)) (by simp)
  refine wp_ldi rfl tm_m0 ?_
  refine wq_iflt rfl (fun h67 => absurd h67 (nI_pos (by omega))) (fun h67 => ?_)
  refine wq_con (x := nI 0) rfl (by decide) ?_
  refine wq_sti [(4, .int (nI 0)), (3, .int (nI L)), (0, .ref 11), (1, .int (nI c)), (2, .int (nI mo))] rfl rfl ?_
  exact WP.less (k73 b0 0 (by omega)) (by simp)
set_option maxRecDepth 100000 in
set_option maxHeartbeats 4000000 in
theorem th_feE {n c mo D : Nat} {σ : tm_S} {Q : Option Value → tm_S → Prop} (hc : c ≤ 24) (hm : mo < 2 ^ c) (h0 : 0 < mo) (hD : D * th_po mo c = c) : ∀ (w r m L b cv ch : Nat) (s : tm_S), L + w + 1 = D → m + r = c → cv < 2 ^ c → ¬ cv = 2 ^ c - 1 → th_po cv c = L * th_po mo c → ch < 2 ^ 24 → b < c → th_FE n σ s → s.1 57 L = nI cv → s.1 58 L = nI ch → (s.1 11 17).toInt + ((th_po mo c - th_po mo m) * th_po mo c ^ w : Nat) ≤ 8192 → (∀ s' : tm_S, th_FE n σ s' → (∀ i : Nat, i < L → s'.1 57 i = s.1 57 i ∧ s'.1 58 i = s.1 58 i ∧ s'.1 56 i = s.1 56 i) → (s'.1 11 17).toInt ≤ (s.1 11 17).toInt + ((th_po mo c - th_po mo m) * th_po mo c ^ w : Nat) → WP 40 203 66 [(3, .int (nI L - 1)), (0, .ref 11), (1, .int (nI c)), (2, .int (nI mo))] [] s' Q) → WP 40 203 105 [(5, .int (nI m)), (4, .int (nI b)), (3, .int (nI L)), (0, .ref 11), (1, .int (nI c)), (2, .int (nI mo))] [] s Q := by
  have hp : 2 ^ c ≤ 2 ^ 24 := Nat.pow_le_pow_right (by decide) hc
  have k1 := th_po1 hm h0
  have D24 : D ≤ 24 := by
    have : D * 1 ≤ D * th_po mo c := Nat.mul_le_mul_left D k1
    omega
  intro w
  induction w with
  | zero =>
    intro r
    induction r with
    | zero =>
      intro m L b cv ch s hw hmr hcv hf hpo hch hb F e57 e58 hE K
      have cL : (nI L).toNatClampNeg = L := nI_clamp (by omega)
      have g17 : 0 ≤ (s.1 11 17).toInt := (F.1.1 11 17).1
      obtain rfl : c = m := by omega
      refine wp_ldi rfl tm_m0 ?_
      refine wp_ldi rfl tm_m4 ?_
      refine wq_icge rfl (fun h108 => ?_) (fun h108 => absurd (nI_le (Nat.le_refl _) (by omega)) h108)
      refine wp_lda rfl tm_m3 ?_
      refine wq_getr (p := 56) rfl rfl (f := 20) rfl rfl ?_
      refine wp_ldi rfl tm_m2 ?_
      refine wp_ldi rfl tm_m0 ?_
      refine wq_con (x := 1) rfl (by decide) ?_
      refine wq_iadd rfl ?_
      rw [nI_1]
      refine wp_iast rfl rfl (nI_in (by omega) (by decide)) ?_
      rw [cL]
      generalize e1 : tm_sI s 56 L (nI (c + 1)) = s1
      have F1 : th_FE n σ s1 := by rw [← e1]; exact ⟨tv_TY_row F.1 (ty := (0, 25)) (fun _ => rfl) (by rw [nI_toInt (by omega)]; show (0 : Int) ≤ _; omega) (by rw [nI_toInt (by omega)]; show _ ≤ (25 : Int); omega), tv_un_tr F.2 (tv_un_ar rfl rfl)⟩
      have v57 : s1.1 57 = s.1 57 := by rw [← e1]; exact (tm_sI_ar (by decide)).1
      have v58 : s1.1 58 = s.1 58 := by rw [← e1]; exact (tm_sI_ar (by decide)).1
      have v17 : s1.1 11 17 = s.1 11 17 := by rw [← e1, tm_gI, if_neg (fun e => absurd e.1 (by decide))]
      have v56 : s1.1 56 L = nI (c + 1) := by rw [← e1, tm_gI, if_pos ⟨rfl, rfl⟩]
      have u56 : ∀ i : Nat, ¬ i = L → s1.1 56 i = s.1 56 i := fun i hi => by rw [← e1, tm_gI, if_neg (fun e => hi e.2)]
      refine wp_ldi rfl tm_m0 ?_
      refine wp_ldi rfl tm_m4 ?_
      refine wq_iclt rfl (fun h168 => absurd h168 (nI_nlt (Nat.le_refl _) (by omega))) (fun h168 => ?_)
      refine wp_ldi rfl tm_m2 ?_
      refine wq_con (x := 1) rfl (by decide) ?_
      refine wq_isub rfl ?_
      refine wq_sti [(3, .int ((nI L) - 1)), (5, .int (nI c)), (4, .int (nI b)), (0, .ref 11), (1, .int (nI c)), (2, .int (nI mo))] rfl rfl ?_
      refine wp_go rfl ?_
      refine WP.less (K s1 F1 (fun i hi => ⟨by rw [v57], by rw [v58], u56 i (by omega)⟩) ?_) (by simp)
      rw [v17]
      omega
    | succ r ih =>
      intro m L b cv ch s hw hmr hcv hf hpo hch hb F e57 e58 hE K
      have cL : (nI L).toNatClampNeg = L := nI_clamp (by omega)
      have g17 : 0 ≤ (s.1 11 17).toInt := (F.1.1 11 17).1
      have hmc : m < c := by omega
      have em := (th_hs24 (a := mo) (m := m) (by omega) (by omega))
      have ps := th_po_s (mo := mo) (m := m)
      have pm : th_po mo (m + 1) ≤ th_po mo c := th_sm_mono (by omega)
      have he : (b + c - m) % c < c := Nat.mod_lt _ (by omega)
      have hR := th_R_lt (c := c) (mo := mo) (e := (b + c - m) % c) hm
      have pR : th_po (th_R c mo ((b + c - m) % c)) c = th_po mo c := th_po_rot (by omega) (th_R_bit hc hm he)
      have nxt : ∀ t : tm_S, th_FE n σ t → (∀ i : Nat, i < L → t.1 57 i = s.1 57 i ∧ t.1 58 i = s.1 58 i ∧ t.1 56 i = s.1 56 i) → t.1 57 L = nI cv → t.1 58 L = nI ch → ∀ b : Nat, b < c → (t.1 11 17).toInt + ((th_po mo c - th_po mo (m + 1)) * th_po mo c ^ 0 : Nat) ≤ (s.1 11 17).toInt + ((th_po mo c - th_po mo m) * th_po mo c ^ 0 : Nat) → WP 40 203 105 [(5, .int (nI (m + 1))), (4, .int (nI b)), (3, .int (nI L)), (0, .ref 11), (1, .int (nI c)), (2, .int (nI mo))] [] t Q := by
        intro t Ft At t57 t58 b hb ht
        refine ih (m + 1) L b cv ch t hw (by omega) hcv hf hpo hch hb Ft t57 t58 (by omega) (fun s' F' A' c' => K s' F' (fun i hi => ?_) (by omega))
        obtain ⟨q1, q2, q3⟩ := A' i hi
        obtain ⟨p1, p2, p3⟩ := At i hi
        exact ⟨q1.trans p1, q2.trans p2, q3.trans p3⟩
      have skip : WP 40 203 105 [(5, .int (nI (m + 1))), (4, .int (nI b)), (3, .int (nI L)), (0, .ref 11), (1, .int (nI c)), (2, .int (nI mo))] [] s Q := by
        refine nxt s F (fun i _ => ⟨rfl, rfl, rfl⟩) e57 e58 b hb ?_
        have := Nat.mul_le_mul_right (th_po mo c ^ 0) (show th_po mo c - th_po mo (m + 1) ≤ th_po mo c - th_po mo m by rw [ps]; omega)
        omega
      have take : mo.testBit m = true → th_R c mo ((b + c - m) % c) &&& cv = 0 → WP 40 203 155 [(5, .int (nI m)), (4, .int (nI b)), (3, .int (nI L)), (0, .ref 11), (1, .int (nI c)), (2, .int (nI mo))] [] s Q := by
        intro hbit hdis
        have T1 : (th_po mo c - th_po mo m) * th_po mo c ^ 0 = (th_po mo c - th_po mo (m + 1)) * th_po mo c ^ 0 + th_po mo c ^ 0 := by
          rw [show th_po mo c - th_po mo m = (th_po mo c - th_po mo (m + 1)) + 1 by rw [ps, hbit] at pm ⊢; show _ = th_po mo c - (th_po mo m + 1) + 1; change th_po mo m + 1 ≤ _ at pm; omega, Nat.add_mul, Nat.one_mul]
        have kp : 1 ≤ th_po mo c ^ 0 := Nat.pow_pos k1
        have pall : th_po (cv ||| th_R c mo ((b + c - m) % c)) c = L * th_po mo c + th_po mo c := by rw [th_po_or (by rw [Nat.and_comm]; exact hdis), hpo, pR]
        have hall : cv ||| th_R c mo ((b + c - m) % c) < 2 ^ c := Nat.or_lt_two_pow hcv hR
        have hset : ch ||| 2 ^ ((b + c - m) % c) < 2 ^ 24 := Nat.or_lt_two_pow hch (Nat.pow_lt_pow_right (by decide) (by omega))
        have hset0 : 0 < ch ||| 2 ^ ((b + c - m) % c) := Nat.lt_of_lt_of_le (Nat.two_pow_pos _) Nat.right_le_or
        refine wp_lda rfl tm_m3 ?_
        refine wq_getr (p := 56) rfl rfl (f := 20) rfl rfl ?_
        refine wp_ldi rfl tm_m2 ?_
        refine wp_ldi rfl tm_m0 ?_
        refine wq_con (x := 1) rfl (by decide) ?_
        refine wq_iadd rfl ?_
        rw [nI_1]
        refine wp_iast rfl rfl (nI_in (by omega) (by decide)) ?_
        rw [cL]
        generalize e1 : tm_sI s 56 L (nI (m + 1)) = s1
        have F1 : th_FE n σ s1 := by rw [← e1]; exact ⟨tv_TY_row F.1 (ty := (0, 25)) (fun _ => rfl) (by rw [nI_toInt (by omega)]; show (0 : Int) ≤ _; omega) (by rw [nI_toInt (by omega)]; show _ ≤ (25 : Int); omega), tv_un_tr F.2 (tv_un_ar rfl rfl)⟩
        have v57 : s1.1 57 = s.1 57 := by rw [← e1]; exact (tm_sI_ar (by decide)).1
        have v58 : s1.1 58 = s.1 58 := by rw [← e1]; exact (tm_sI_ar (by decide)).1
        have v17 : s1.1 11 17 = s.1 11 17 := by rw [← e1, tm_gI, if_neg (fun e => absurd e.1 (by decide))]
        have v56 : s1.1 56 L = nI (m + 1) := by rw [← e1, tm_gI, if_pos ⟨rfl, rfl⟩]
        have u56 : ∀ i : Nat, ¬ i = L → s1.1 56 i = s.1 56 i := fun i hi => by rw [← e1, tm_gI, if_neg (fun e => hi e.2)]
        refine wp_ldi rfl tm_m0 ?_
        refine wp_ldi rfl tm_m4 ?_
        refine wq_iclt rfl (fun h168 => ?_) (fun h168 => absurd (nI_lt hmc (by omega)) h168)
        refine wp_ldi rfl tm_m1 ?_
        refine wp_ldi rfl tm_m0 ?_
        refine wq_isub rfl ?_
        refine wp_ldi rfl tm_m4 ?_
        refine wq_iadd rfl ?_
        refine wp_ldi rfl tm_m4 ?_
        refine wp_rem rfl (nI_ne0 (by omega) (by omega)) ?_
        rw [th_gap2 hc hb hmc]
        refine wq_sti [(6, .int (nI ((b + c - m) % c))), (5, .int (nI m)), (4, .int (nI b)), (3, .int (nI L)), (0, .ref 11), (1, .int (nI c)), (2, .int (nI mo))] rfl rfl ?_
        refine wp_lda rfl tm_m4 ?_
        refine wq_getr (p := 57) rfl rfl (f := 21) rfl rfl ?_
        refine wp_ldi rfl tm_m3 ?_
        refine wp_iald rfl rfl (nI_in (by omega) (by decide)) ?_
        rw [cL, v57, e57]
        refine wp_lda rfl tm_m4 ?_
        refine wp_ldi rfl tm_m5 ?_
        refine wp_ldi rfl tm_m6 ?_
        refine wp_ldi rfl tm_m0 ?_
        refine wq_calv [.int (nI c), .int (nI mo), .int (nI ((b + c - m) % c))] rfl rfl rfl rfl rfl rfl rfl rfl rfl (th_filled hc hm he) ?_
        rintro _ _ ⟨rfl, rfl⟩
        refine wq_ior rfl ?_
        rw [th_or24 (by omega) (by omega)]
        refine wq_sti [(7, .int (nI (cv ||| th_R c mo ((b + c - m) % c)))), (6, .int (nI ((b + c - m) % c))), (5, .int (nI m)), (4, .int (nI b)), (3, .int (nI L)), (0, .ref 11), (1, .int (nI c)), (2, .int (nI mo))] rfl rfl ?_
        refine wp_lda rfl tm_m5 ?_
        refine wq_getr (p := 58) rfl rfl (f := 22) rfl rfl ?_
        refine wp_ldi rfl tm_m4 ?_
        refine wp_iald rfl rfl (nI_in (by omega) (by decide)) ?_
        rw [cL, v58, e58]
        refine wq_con (x := 1) rfl (by decide) ?_
        refine wp_ldi rfl tm_m1 ?_
        refine wq_ishl rfl ?_
        refine wq_ior rfl ?_
        rw [th_p24 _ (by omega), th_or24 hch (Nat.pow_lt_pow_right (by decide) (by omega))]
        refine wq_sti [(8, .int (nI (ch ||| 2 ^ ((b + c - m) % c)))), (7, .int (nI (cv ||| th_R c mo ((b + c - m) % c)))), (6, .int (nI ((b + c - m) % c))), (5, .int (nI m)), (4, .int (nI b)), (3, .int (nI L)), (0, .ref 11), (1, .int (nI c)), (2, .int (nI mo))] rfl rfl ?_
        refine wp_ldi rfl tm_m1 ?_
        refine wq_con (x := 1) rfl (by decide) ?_
        refine wp_ldi rfl tm_m7 ?_
        refine wq_ishl rfl ?_
        refine wq_con (x := 1) rfl (by decide) ?_
        refine wq_isub rfl ?_
        rw [th_m24 c hc]
        refine wq_icne rfl (fun h226 => absurd (by rw [show cv ||| th_R c mo ((b + c - m) % c) = 2 ^ c - 1 from Classical.byContradiction (fun g => by have := th_po_lt hall g; rw [pall] at this; have h9 : L * th_po mo c + th_po mo c = D * th_po mo c := (by rw [← hw, Nat.add_zero, Nat.add_mul, Nat.one_mul]); omega)]) h226) (fun h226 => ?_)
        refine wp_lda rfl tm_m6 ?_
        refine wp_ldi rfl tm_m0 ?_
        refine wq_calv [.int (nI (ch ||| 2 ^ ((b + c - m) % c)))] rfl rfl rfl rfl rfl rfl rfl rfl rfl (th_put F1 hset0 hset (by rw [v17]; omega)) ?_
        rintro _ s2 ⟨rfl, F2, c2, L3⟩
        refine wp_go rfl ?_
        refine wp_go rfl ?_
        refine WP.less (th_e66 (L := L) (cv := cv) (m := m + 1) hc (by omega) hcv hf (by rw [L3.2.1, v57]; exact e57) (by rw [L3.1]; exact v56) (fun b9 hb9 => nxt s2 F2 (fun i hi => ⟨by rw [L3.2.1, v57], by rw [L3.2.2, v58], by rw [L3.1]; exact u56 i (by omega)⟩) (by rw [L3.2.1, v57]; exact e57) (by rw [L3.2.2, v58]; exact e58) b9 hb9 ?_)) (by simp)
        rw [c2, v17, T1]
        omega
      refine wp_ldi rfl tm_m0 ?_
      refine wp_ldi rfl tm_m4 ?_
      refine wq_icge rfl (fun h108 => absurd h108 (nI_ge hmc (by omega))) (fun h108 => ?_)
      refine wp_lda rfl tm_m3 ?_
      refine wp_ldi rfl tm_m5 ?_
      refine wp_ldi rfl tm_m0 ?_
      refine wq_calv [.int (nI mo), .int (nI m)] rfl rfl rfl rfl rfl rfl rfl rfl rfl (th_has) ?_
      rintro _ _ ⟨rfl, rfl⟩
      refine wq_ifeq rfl (fun h118 => ?_) (fun h118 => ?_)
      · refine wp_ldi rfl tm_m0 ?_
        refine wq_con (x := 1) rfl (by decide) ?_
        refine wq_iadd rfl ?_
        refine wq_sti [(5, .int ((nI m) + 1)), (4, .int (nI b)), (3, .int (nI L)), (0, .ref 11), (1, .int (nI c)), (2, .int (nI mo))] rfl rfl ?_
        refine wp_go rfl ?_
        rw [nI_1]
        exact WP.less skip (by simp)
      · refine wp_lda rfl tm_m3 ?_
        refine wp_ldi rfl tm_m4 ?_
        refine wp_ldi rfl tm_m5 ?_
        refine wp_ldi rfl tm_m1 ?_
        refine wp_ldi rfl tm_m0 ?_
        refine wq_isub rfl ?_
        refine wp_ldi rfl tm_m4 ?_
        refine wq_iadd rfl ?_
        refine wp_ldi rfl tm_m4 ?_
        refine wp_rem rfl (nI_ne0 (by omega) (by omega)) ?_
        rw [th_gap2 hc hb hmc]
        refine wq_calv [.int (nI c), .int (nI mo), .int (nI ((b + c - m) % c))] rfl rfl rfl rfl rfl rfl rfl rfl rfl (th_filled hc hm he) ?_
        rintro _ _ ⟨rfl, rfl⟩
        refine wp_lda rfl tm_m3 ?_
        refine wq_getr (p := 57) rfl rfl (f := 21) rfl rfl ?_
        refine wp_ldi rfl tm_m2 ?_
        refine wp_iald rfl rfl (nI_in (by omega) (by decide)) ?_
        rw [cL, e57]
        refine wq_iand rfl ?_
        rw [th_and24 (by omega) (by omega)]
        refine wq_ifeq rfl (fun h143 => ?_) (fun h143 => ?_)
        · refine WP.less (take ?_ ?_) (by simp)
          · cases hb2 : mo.testBit m with
            | true => rfl
            | false => exact absurd (by rw [em, hb2]; rfl) h118
          · have hl2 : th_R c mo ((b + c - m) % c) &&& cv ≤ cv := Nat.and_le_right
            exact (nI_eq (by omega) (by decide)).mp (h143.trans nI_0.symm)
        · refine wp_ldi rfl tm_m0 ?_
          refine wq_con (x := 1) rfl (by decide) ?_
          refine wq_iadd rfl ?_
          refine wq_sti [(5, .int ((nI m) + 1)), (4, .int (nI b)), (3, .int (nI L)), (0, .ref 11), (1, .int (nI c)), (2, .int (nI mo))] rfl rfl ?_
          refine wp_go rfl ?_
          rw [nI_1]
          exact WP.less skip (by simp)
  | succ w ihw =>
    intro r
    induction r with
    | zero =>
      intro m L b cv ch s hw hmr hcv hf hpo hch hb F e57 e58 hE K
      have cL : (nI L).toNatClampNeg = L := nI_clamp (by omega)
      have g17 : 0 ≤ (s.1 11 17).toInt := (F.1.1 11 17).1
      obtain rfl : c = m := by omega
      refine wp_ldi rfl tm_m0 ?_
      refine wp_ldi rfl tm_m4 ?_
      refine wq_icge rfl (fun h108 => ?_) (fun h108 => absurd (nI_le (Nat.le_refl _) (by omega)) h108)
      refine wp_lda rfl tm_m3 ?_
      refine wq_getr (p := 56) rfl rfl (f := 20) rfl rfl ?_
      refine wp_ldi rfl tm_m2 ?_
      refine wp_ldi rfl tm_m0 ?_
      refine wq_con (x := 1) rfl (by decide) ?_
      refine wq_iadd rfl ?_
      rw [nI_1]
      refine wp_iast rfl rfl (nI_in (by omega) (by decide)) ?_
      rw [cL]
      generalize e1 : tm_sI s 56 L (nI (c + 1)) = s1
      have F1 : th_FE n σ s1 := by rw [← e1]; exact ⟨tv_TY_row F.1 (ty := (0, 25)) (fun _ => rfl) (by rw [nI_toInt (by omega)]; show (0 : Int) ≤ _; omega) (by rw [nI_toInt (by omega)]; show _ ≤ (25 : Int); omega), tv_un_tr F.2 (tv_un_ar rfl rfl)⟩
      have v57 : s1.1 57 = s.1 57 := by rw [← e1]; exact (tm_sI_ar (by decide)).1
      have v58 : s1.1 58 = s.1 58 := by rw [← e1]; exact (tm_sI_ar (by decide)).1
      have v17 : s1.1 11 17 = s.1 11 17 := by rw [← e1, tm_gI, if_neg (fun e => absurd e.1 (by decide))]
      have v56 : s1.1 56 L = nI (c + 1) := by rw [← e1, tm_gI, if_pos ⟨rfl, rfl⟩]
      have u56 : ∀ i : Nat, ¬ i = L → s1.1 56 i = s.1 56 i := fun i hi => by rw [← e1, tm_gI, if_neg (fun e => hi e.2)]
      refine wp_ldi rfl tm_m0 ?_
      refine wp_ldi rfl tm_m4 ?_
      refine wq_iclt rfl (fun h168 => absurd h168 (nI_nlt (Nat.le_refl _) (by omega))) (fun h168 => ?_)
      refine wp_ldi rfl tm_m2 ?_
      refine wq_con (x := 1) rfl (by decide) ?_
      refine wq_isub rfl ?_
      refine wq_sti [(3, .int ((nI L) - 1)), (5, .int (nI c)), (4, .int (nI b)), (0, .ref 11), (1, .int (nI c)), (2, .int (nI mo))] rfl rfl ?_
      refine wp_go rfl ?_
      refine WP.less (K s1 F1 (fun i hi => ⟨by rw [v57], by rw [v58], u56 i (by omega)⟩) ?_) (by simp)
      rw [v17]
      omega
    | succ r ih =>
      intro m L b cv ch s hw hmr hcv hf hpo hch hb F e57 e58 hE K
      have cL : (nI L).toNatClampNeg = L := nI_clamp (by omega)
      have g17 : 0 ≤ (s.1 11 17).toInt := (F.1.1 11 17).1
      have hmc : m < c := by omega
      have em := (th_hs24 (a := mo) (m := m) (by omega) (by omega))
      have ps := th_po_s (mo := mo) (m := m)
      have pm : th_po mo (m + 1) ≤ th_po mo c := th_sm_mono (by omega)
      have he : (b + c - m) % c < c := Nat.mod_lt _ (by omega)
      have hR := th_R_lt (c := c) (mo := mo) (e := (b + c - m) % c) hm
      have pR : th_po (th_R c mo ((b + c - m) % c)) c = th_po mo c := th_po_rot (by omega) (th_R_bit hc hm he)
      have nxt : ∀ t : tm_S, th_FE n σ t → (∀ i : Nat, i < L → t.1 57 i = s.1 57 i ∧ t.1 58 i = s.1 58 i ∧ t.1 56 i = s.1 56 i) → t.1 57 L = nI cv → t.1 58 L = nI ch → ∀ b : Nat, b < c → (t.1 11 17).toInt + ((th_po mo c - th_po mo (m + 1)) * th_po mo c ^ (w + 1) : Nat) ≤ (s.1 11 17).toInt + ((th_po mo c - th_po mo m) * th_po mo c ^ (w + 1) : Nat) → WP 40 203 105 [(5, .int (nI (m + 1))), (4, .int (nI b)), (3, .int (nI L)), (0, .ref 11), (1, .int (nI c)), (2, .int (nI mo))] [] t Q := by
        intro t Ft At t57 t58 b hb ht
        refine ih (m + 1) L b cv ch t hw (by omega) hcv hf hpo hch hb Ft t57 t58 (by omega) (fun s' F' A' c' => K s' F' (fun i hi => ?_) (by omega))
        obtain ⟨q1, q2, q3⟩ := A' i hi
        obtain ⟨p1, p2, p3⟩ := At i hi
        exact ⟨q1.trans p1, q2.trans p2, q3.trans p3⟩
      have skip : WP 40 203 105 [(5, .int (nI (m + 1))), (4, .int (nI b)), (3, .int (nI L)), (0, .ref 11), (1, .int (nI c)), (2, .int (nI mo))] [] s Q := by
        refine nxt s F (fun i _ => ⟨rfl, rfl, rfl⟩) e57 e58 b hb ?_
        have := Nat.mul_le_mul_right (th_po mo c ^ (w + 1)) (show th_po mo c - th_po mo (m + 1) ≤ th_po mo c - th_po mo m by rw [ps]; omega)
        omega
      have take : mo.testBit m = true → th_R c mo ((b + c - m) % c) &&& cv = 0 → WP 40 203 155 [(5, .int (nI m)), (4, .int (nI b)), (3, .int (nI L)), (0, .ref 11), (1, .int (nI c)), (2, .int (nI mo))] [] s Q := by
        intro hbit hdis
        have T1 : (th_po mo c - th_po mo m) * th_po mo c ^ (w + 1) = (th_po mo c - th_po mo (m + 1)) * th_po mo c ^ (w + 1) + th_po mo c ^ (w + 1) := by
          rw [show th_po mo c - th_po mo m = (th_po mo c - th_po mo (m + 1)) + 1 by rw [ps, hbit] at pm ⊢; show _ = th_po mo c - (th_po mo m + 1) + 1; change th_po mo m + 1 ≤ _ at pm; omega, Nat.add_mul, Nat.one_mul]
        have kp : 1 ≤ th_po mo c ^ (w + 1) := Nat.pow_pos k1
        have pall : th_po (cv ||| th_R c mo ((b + c - m) % c)) c = L * th_po mo c + th_po mo c := by rw [th_po_or (by rw [Nat.and_comm]; exact hdis), hpo, pR]
        have hall : cv ||| th_R c mo ((b + c - m) % c) < 2 ^ c := Nat.or_lt_two_pow hcv hR
        have hset : ch ||| 2 ^ ((b + c - m) % c) < 2 ^ 24 := Nat.or_lt_two_pow hch (Nat.pow_lt_pow_right (by decide) (by omega))
        have hset0 : 0 < ch ||| 2 ^ ((b + c - m) % c) := Nat.lt_of_lt_of_le (Nat.two_pow_pos _) Nat.right_le_or
        refine wp_lda rfl tm_m3 ?_
        refine wq_getr (p := 56) rfl rfl (f := 20) rfl rfl ?_
        refine wp_ldi rfl tm_m2 ?_
        refine wp_ldi rfl tm_m0 ?_
        refine wq_con (x := 1) rfl (by decide) ?_
        refine wq_iadd rfl ?_
        rw [nI_1]
        refine wp_iast rfl rfl (nI_in (by omega) (by decide)) ?_
        rw [cL]
        generalize e1 : tm_sI s 56 L (nI (m + 1)) = s1
        have F1 : th_FE n σ s1 := by rw [← e1]; exact ⟨tv_TY_row F.1 (ty := (0, 25)) (fun _ => rfl) (by rw [nI_toInt (by omega)]; show (0 : Int) ≤ _; omega) (by rw [nI_toInt (by omega)]; show _ ≤ (25 : Int); omega), tv_un_tr F.2 (tv_un_ar rfl rfl)⟩
        have v57 : s1.1 57 = s.1 57 := by rw [← e1]; exact (tm_sI_ar (by decide)).1
        have v58 : s1.1 58 = s.1 58 := by rw [← e1]; exact (tm_sI_ar (by decide)).1
        have v17 : s1.1 11 17 = s.1 11 17 := by rw [← e1, tm_gI, if_neg (fun e => absurd e.1 (by decide))]
        have v56 : s1.1 56 L = nI (m + 1) := by rw [← e1, tm_gI, if_pos ⟨rfl, rfl⟩]
        have u56 : ∀ i : Nat, ¬ i = L → s1.1 56 i = s.1 56 i := fun i hi => by rw [← e1, tm_gI, if_neg (fun e => hi e.2)]
        refine wp_ldi rfl tm_m0 ?_
        refine wp_ldi rfl tm_m4 ?_
        refine wq_iclt rfl (fun h168 => ?_) (fun h168 => absurd (nI_lt hmc (by omega)) h168)
        refine wp_ldi rfl tm_m1 ?_
        refine wp_ldi rfl tm_m0 ?_
        refine wq_isub rfl ?_
        refine wp_ldi rfl tm_m4 ?_
        refine wq_iadd rfl ?_
        refine wp_ldi rfl tm_m4 ?_
        refine wp_rem rfl (nI_ne0 (by omega) (by omega)) ?_
        rw [th_gap2 hc hb hmc]
        refine wq_sti [(6, .int (nI ((b + c - m) % c))), (5, .int (nI m)), (4, .int (nI b)), (3, .int (nI L)), (0, .ref 11), (1, .int (nI c)), (2, .int (nI mo))] rfl rfl ?_
        refine wp_lda rfl tm_m4 ?_
        refine wq_getr (p := 57) rfl rfl (f := 21) rfl rfl ?_
        refine wp_ldi rfl tm_m3 ?_
        refine wp_iald rfl rfl (nI_in (by omega) (by decide)) ?_
        rw [cL, v57, e57]
        refine wp_lda rfl tm_m4 ?_
        refine wp_ldi rfl tm_m5 ?_
        refine wp_ldi rfl tm_m6 ?_
        refine wp_ldi rfl tm_m0 ?_
        refine wq_calv [.int (nI c), .int (nI mo), .int (nI ((b + c - m) % c))] rfl rfl rfl rfl rfl rfl rfl rfl rfl (th_filled hc hm he) ?_
        rintro _ _ ⟨rfl, rfl⟩
        refine wq_ior rfl ?_
        rw [th_or24 (by omega) (by omega)]
        refine wq_sti [(7, .int (nI (cv ||| th_R c mo ((b + c - m) % c)))), (6, .int (nI ((b + c - m) % c))), (5, .int (nI m)), (4, .int (nI b)), (3, .int (nI L)), (0, .ref 11), (1, .int (nI c)), (2, .int (nI mo))] rfl rfl ?_
        refine wp_lda rfl tm_m5 ?_
        refine wq_getr (p := 58) rfl rfl (f := 22) rfl rfl ?_
        refine wp_ldi rfl tm_m4 ?_
        refine wp_iald rfl rfl (nI_in (by omega) (by decide)) ?_
        rw [cL, v58, e58]
        refine wq_con (x := 1) rfl (by decide) ?_
        refine wp_ldi rfl tm_m1 ?_
        refine wq_ishl rfl ?_
        refine wq_ior rfl ?_
        rw [th_p24 _ (by omega), th_or24 hch (Nat.pow_lt_pow_right (by decide) (by omega))]
        refine wq_sti [(8, .int (nI (ch ||| 2 ^ ((b + c - m) % c)))), (7, .int (nI (cv ||| th_R c mo ((b + c - m) % c)))), (6, .int (nI ((b + c - m) % c))), (5, .int (nI m)), (4, .int (nI b)), (3, .int (nI L)), (0, .ref 11), (1, .int (nI c)), (2, .int (nI mo))] rfl rfl ?_
        refine wp_ldi rfl tm_m1 ?_
        refine wq_con (x := 1) rfl (by decide) ?_
        refine wp_ldi rfl tm_m7 ?_
        refine wq_ishl rfl ?_
        refine wq_con (x := 1) rfl (by decide) ?_
        refine wq_isub rfl ?_
        rw [th_m24 c hc]
        refine wq_icne rfl (fun h226 => ?_) (fun h226 => ?_)
        · refine wp_ldi rfl tm_m5 ?_
          refine wq_con (x := 1) rfl (by decide) ?_
          refine wq_iadd rfl ?_
          refine wq_sti [(3, .int ((nI L) + 1)), (8, .int (nI (ch ||| 2 ^ ((b + c - m) % c)))), (7, .int (nI (cv ||| th_R c mo ((b + c - m) % c)))), (6, .int (nI ((b + c - m) % c))), (5, .int (nI m)), (4, .int (nI b)), (0, .ref 11), (1, .int (nI c)), (2, .int (nI mo))] rfl rfl ?_
          refine wp_lda rfl tm_m6 ?_
          refine wq_getr (p := 57) rfl rfl (f := 21) rfl rfl ?_
          refine wp_ldi rfl tm_m0 ?_
          refine wp_ldi rfl tm_m2 ?_
          refine wp_iast rfl rfl (by rw [nI_1]; exact nI_in (by omega) (by decide)) ?_
          refine wp_lda rfl tm_m6 ?_
          refine wq_getr (p := 58) rfl rfl (f := 22) rfl rfl ?_
          refine wp_ldi rfl tm_m0 ?_
          refine wp_ldi rfl tm_m1 ?_
          refine wp_iast rfl rfl (by rw [nI_1]; exact nI_in (by omega) (by decide)) ?_
          refine wp_lda rfl tm_m6 ?_
          refine wq_getr (p := 56) rfl rfl (f := 20) rfl rfl ?_
          refine wp_ldi rfl tm_m0 ?_
          refine wq_con (x := 0) rfl (by decide) ?_
          refine wp_iast rfl rfl (by rw [nI_1]; exact nI_in (by omega) (by decide)) ?_
          refine wp_go rfl ?_
          rw [nI_1, nI_clamp (n := L + 1) (by omega)]
          generalize e2 : tm_sI (tm_sI (tm_sI s1 57 (L + 1) (nI (cv ||| th_R c mo ((b + c - m) % c)))) 58 (L + 1) (nI (ch ||| 2 ^ ((b + c - m) % c)))) 56 (L + 1) 0 = s2
          have F2 : th_FE n σ s2 := by
            rw [← e2]
            exact ⟨tv_TY_row (tv_TY_row (tv_TY_row F1.1 (ty := (0, 16777215)) (fun _ => rfl) (by rw [nI_toInt (by omega)]; show (0 : Int) ≤ _; omega) (by rw [nI_toInt (by omega)]; show _ ≤ (16777215 : Int); omega)) (ty := (0, 16777215)) (fun _ => rfl) (by rw [nI_toInt (by omega)]; show (0 : Int) ≤ _; omega) (by rw [nI_toInt (by omega)]; show _ ≤ (16777215 : Int); omega)) (ty := (0, 25)) (fun _ => rfl) (by decide) (by decide), tv_un_tr (tv_un_tr (tv_un_tr F1.2 (tv_un_ar rfl rfl)) (tv_un_ar rfl rfl)) (tv_un_ar rfl rfl)⟩
          have x57 : s2.1 57 (L + 1) = nI (cv ||| th_R c mo ((b + c - m) % c)) := by rw [← e2, tm_gI, if_neg (fun e => absurd e.1 (by decide)), tm_gI, if_neg (fun e => absurd e.1 (by decide)), tm_gI, if_pos ⟨rfl, rfl⟩]
          have x58 : s2.1 58 (L + 1) = nI (ch ||| 2 ^ ((b + c - m) % c)) := by rw [← e2, tm_gI, if_neg (fun e => absurd e.1 (by decide)), tm_gI, if_pos ⟨rfl, rfl⟩]
          have x56 : s2.1 56 (L + 1) = nI 0 := by rw [← e2, tm_gI, if_pos ⟨rfl, rfl⟩]; rfl
          have x17 : s2.1 11 17 = s1.1 11 17 := by rw [← e2, tm_gI, if_neg (fun e => absurd e.1 (by decide)), tm_gI, if_neg (fun e => absurd e.1 (by decide)), tm_gI, if_neg (fun e => absurd e.1 (by decide))]
          have o57 : ∀ i : Nat, ¬ i = L + 1 → s2.1 57 i = s1.1 57 i := fun i hi => by rw [← e2, tm_gI, if_neg (fun e => absurd e.1 (by decide)), tm_gI, if_neg (fun e => absurd e.1 (by decide)), tm_gI, if_neg (fun e => hi e.2)]
          have o58 : ∀ i : Nat, ¬ i = L + 1 → s2.1 58 i = s1.1 58 i := fun i hi => by rw [← e2, tm_gI, if_neg (fun e => absurd e.1 (by decide)), tm_gI, if_neg (fun e => hi e.2), tm_gI, if_neg (fun e => absurd e.1 (by decide))]
          have o56 : ∀ i : Nat, ¬ i = L + 1 → s2.1 56 i = s1.1 56 i := fun i hi => by rw [← e2, tm_gI, if_neg (fun e => hi e.2), tm_gI, if_neg (fun e => absurd e.1 (by decide)), tm_gI, if_neg (fun e => absurd e.1 (by decide))]
          have hne : ¬ cv ||| th_R c mo ((b + c - m) % c) = 2 ^ c - 1 := fun e => h226 (by rw [e])
          have z0 : th_po mo 0 = 0 := rfl
          have pw : th_po mo c * th_po mo c ^ w = th_po mo c ^ (w + 1) := by rw [Nat.pow_succ, Nat.mul_comm]
          refine WP.less (th_e66 (L := L + 1) (cv := cv ||| th_R c mo ((b + c - m) % c)) (m := 0) hc (by omega) hall hne x57 x56 (fun b8 hb8 => ihw c 0 (L + 1) b8 (cv ||| th_R c mo ((b + c - m) % c)) (ch ||| 2 ^ ((b + c - m) % c)) s2 (by omega) (by omega) hall hne (by rw [pall, Nat.add_mul, Nat.one_mul]) hset hb8 F2 x57 x58 ?_ (fun s3 F3 A3 c3 => ?_))) (by simp)
          · rw [x17, v17, z0, Nat.sub_zero, pw]
            rw [T1] at hE
            omega
          · rw [nI_pred]
            rw [x17, v17, z0, Nat.sub_zero, pw] at c3
            obtain ⟨q1, q2, q3⟩ := A3 L (by omega)
            refine th_e66 (L := L) (cv := cv) (m := m + 1) hc (by omega) hcv hf (by rw [q1, o57 L (by omega), v57]; exact e57) (by rw [q3, o56 L (by omega)]; exact v56) (fun b9 hb9 => nxt s3 F3 (fun i hi => ?_) (by rw [q1, o57 L (by omega), v57]; exact e57) (by rw [q2, o58 L (by omega), v58]; exact e58) b9 hb9 (by rw [T1]; omega))
            obtain ⟨p1, p2, p3⟩ := A3 i (by omega)
            exact ⟨by rw [p1, o57 i (by omega), v57], by rw [p2, o58 i (by omega), v58], by rw [p3, o56 i (by omega), u56 i (by omega)]⟩
        · refine wp_lda rfl tm_m6 ?_
          refine wp_ldi rfl tm_m0 ?_
          refine wq_calv [.int (nI (ch ||| 2 ^ ((b + c - m) % c)))] rfl rfl rfl rfl rfl rfl rfl rfl rfl (th_put F1 hset0 hset (by rw [v17]; omega)) ?_
          rintro _ s2 ⟨rfl, F2, c2, L3⟩
          refine wp_go rfl ?_
          refine wp_go rfl ?_
          refine WP.less (th_e66 (L := L) (cv := cv) (m := m + 1) hc (by omega) hcv hf (by rw [L3.2.1, v57]; exact e57) (by rw [L3.1]; exact v56) (fun b9 hb9 => nxt s2 F2 (fun i hi => ⟨by rw [L3.2.1, v57], by rw [L3.2.2, v58], by rw [L3.1]; exact u56 i (by omega)⟩) (by rw [L3.2.1, v57]; exact e57) (by rw [L3.2.2, v58]; exact e58) b9 hb9 ?_)) (by simp)
          rw [c2, v17, T1]
          omega
      refine wp_ldi rfl tm_m0 ?_
      refine wp_ldi rfl tm_m4 ?_
      refine wq_icge rfl (fun h108 => absurd h108 (nI_ge hmc (by omega))) (fun h108 => ?_)
      refine wp_lda rfl tm_m3 ?_
      refine wp_ldi rfl tm_m5 ?_
      refine wp_ldi rfl tm_m0 ?_
      refine wq_calv [.int (nI mo), .int (nI m)] rfl rfl rfl rfl rfl rfl rfl rfl rfl (th_has) ?_
      rintro _ _ ⟨rfl, rfl⟩
      refine wq_ifeq rfl (fun h118 => ?_) (fun h118 => ?_)
      · refine wp_ldi rfl tm_m0 ?_
        refine wq_con (x := 1) rfl (by decide) ?_
        refine wq_iadd rfl ?_
        refine wq_sti [(5, .int ((nI m) + 1)), (4, .int (nI b)), (3, .int (nI L)), (0, .ref 11), (1, .int (nI c)), (2, .int (nI mo))] rfl rfl ?_
        refine wp_go rfl ?_
        rw [nI_1]
        exact WP.less skip (by simp)
      · refine wp_lda rfl tm_m3 ?_
        refine wp_ldi rfl tm_m4 ?_
        refine wp_ldi rfl tm_m5 ?_
        refine wp_ldi rfl tm_m1 ?_
        refine wp_ldi rfl tm_m0 ?_
        refine wq_isub rfl ?_
        refine wp_ldi rfl tm_m4 ?_
        refine wq_iadd rfl ?_
        refine wp_ldi rfl tm_m4 ?_
        refine wp_rem rfl (nI_ne0 (by omega) (by omega)) ?_
        rw [th_gap2 hc hb hmc]
        refine wq_calv [.int (nI c), .int (nI mo), .int (nI ((b + c - m) % c))] rfl rfl rfl rfl rfl rfl rfl rfl rfl (th_filled hc hm he) ?_
        rintro _ _ ⟨rfl, rfl⟩
        refine wp_lda rfl tm_m3 ?_
        refine wq_getr (p := 57) rfl rfl (f := 21) rfl rfl ?_
        refine wp_ldi rfl tm_m2 ?_
        refine wp_iald rfl rfl (nI_in (by omega) (by decide)) ?_
        rw [cL, e57]
        refine wq_iand rfl ?_
        rw [th_and24 (by omega) (by omega)]
        refine wq_ifeq rfl (fun h143 => ?_) (fun h143 => ?_)
        · refine WP.less (take ?_ ?_) (by simp)
          · cases hb2 : mo.testBit m with
            | true => rfl
            | false => exact absurd (by rw [em, hb2]; rfl) h118
          · have hl2 : th_R c mo ((b + c - m) % c) &&& cv ≤ cv := Nat.and_le_right
            exact (nI_eq (by omega) (by decide)).mp (h143.trans nI_0.symm)
        · refine wp_ldi rfl tm_m0 ?_
          refine wq_con (x := 1) rfl (by decide) ?_
          refine wq_iadd rfl ?_
          refine wq_sti [(5, .int ((nI m) + 1)), (4, .int (nI b)), (3, .int (nI L)), (0, .ref 11), (1, .int (nI c)), (2, .int (nI mo))] rfl rfl ?_
          refine wp_go rfl ?_
          rw [nI_1]
          exact WP.less skip (by simp)
set_option maxRecDepth 100000 in
set_option maxHeartbeats 4000000 in
theorem th_find {n c mo : Nat} {σ s : tm_S} (hc2 : 2 ≤ c) (hc : c ≤ 24) (h0 : 0 < mo) (hm : mo < 2 ^ c) (F : th_FE n σ s) : WM 40 203 [.ref 11, .int (nI c), .int (nI mo)] s (fun q t => q = none ∧ th_FE n σ t) := by
  have hp : 2 ^ c ≤ 2 ^ 24 := Nat.pow_le_pow_right (by decide) hc
  have k1 := th_po1 hm h0
  have kc : th_po mo c ≤ c := th_sm_le
  have l24 : th_po mo 24 = th_po mo c := th_po24 hm hc
  show WP 40 203 0 [(0, .ref 11), (1, .int (nI c)), (2, .int (nI mo))] [] s _
  refine wp_lda rfl tm_m0 ?_
  refine wq_geti rfl rfl (f := 15) rfl rfl (Or.inl rfl) ?_
  refine wp_ldi rfl tm_m1 ?_
  refine wq_icne rfl (fun h5 => ?_) (fun h5 => ?_)
  · refine wp_lda rfl tm_m0 ?_
    refine wp_ldi rfl tm_m1 ?_
    refine wq_puti rfl rfl (f := 15) rfl rfl ?_
    refine wp_lda rfl tm_m0 ?_
    refine wp_ldi rfl tm_m2 ?_
    refine wq_puti rfl rfl (f := 16) rfl rfl ?_
    refine wp_lda rfl tm_m0 ?_
    refine wq_con (x := 0) rfl (by decide) ?_
    refine wq_puti rfl rfl (f := 17) rfl rfl ?_
    refine wp_ldi rfl tm_m1 ?_
    refine wp_lda rfl tm_m0 ?_
    refine wp_ldi rfl tm_m2 ?_
    refine wq_calv [.int (nI mo)] rfl rfl rfl rfl rfl rfl rfl rfl rfl (th_on24 (by omega)) ?_
    rintro _ _ ⟨rfl, rfl⟩
    rw [l24]
    refine wp_rem rfl (nI_ne0 (by omega) (by omega)) ?_
    refine wq_ifeq rfl (fun h39 => ?_) (fun h39 => ?_)
    · refine wq_con (x := 0) rfl (by decide) ?_
      refine wq_sti [(3, .int 0), (0, .ref 11), (1, .int (nI c)), (2, .int (nI mo))] rfl rfl ?_
      refine wp_lda rfl tm_m1 ?_
      refine wq_getr (p := 57) rfl rfl (f := 21) rfl rfl ?_
      refine wq_con (x := 0) rfl (by decide) ?_
      refine wq_con (x := 0) rfl (by decide) ?_
      refine wp_iast rfl rfl (tn_in (by decide) (by decide)) ?_
      refine wp_lda rfl tm_m1 ?_
      refine wq_getr (p := 58) rfl rfl (f := 22) rfl rfl ?_
      refine wq_con (x := 0) rfl (by decide) ?_
      refine wq_con (x := 0) rfl (by decide) ?_
      refine wp_iast rfl rfl (tn_in (by decide) (by decide)) ?_
      refine wp_lda rfl tm_m1 ?_
      refine wq_getr (p := 56) rfl rfl (f := 20) rfl rfl ?_
      refine wq_con (x := 0) rfl (by decide) ?_
      refine wq_con (x := 0) rfl (by decide) ?_
      refine wp_iast rfl rfl (tn_in (by decide) (by decide)) ?_
      obtain ⟨d1, d2⟩ := th_rm24 hc (by omega) k1 h39
      have F1 : th_FE n σ (tm_sI (tm_sI (tm_sI (tm_sI (tm_sI (tm_sI s 11 15 (nI c)) 11 16 (nI mo)) 11 17 0) 57 (0 : Int32).toNatClampNeg 0) 58 (0 : Int32).toNatClampNeg 0) 56 (0 : Int32).toNatClampNeg 0) := ⟨tv_TY_row (tv_TY_row (tv_TY_row (show th_FE n σ (tm_sI (tm_sI (tm_sI s 11 15 (nI c)) 11 16 (nI mo)) 11 17 0) from ⟨tv_TY_sI (tv_TY_sI (tv_TY_sI F.1 (tn_rng _).1 (tn_rng _).2) (tn_rng _).1 (tn_rng _).2) (by show (0 : Int) ≤ (0 : Int32).toInt; decide) (by show (0 : Int32).toInt ≤ (8192 : Int); decide), tv_un_tr (tv_un_tr (tv_un_tr F.2 (tv_un_fI rfl)) (tv_un_fI rfl)) (tv_un_fI rfl)⟩).1 (ty := (0, 16777215)) (fun _ => rfl) (by decide) (by decide)) (ty := (0, 16777215)) (fun _ => rfl) (by decide) (by decide)) (ty := (0, 25)) (fun _ => rfl) (by decide) (by decide), tv_un_tr (tv_un_tr (tv_un_tr (show th_FE n σ (tm_sI (tm_sI (tm_sI s 11 15 (nI c)) 11 16 (nI mo)) 11 17 0) from ⟨tv_TY_sI (tv_TY_sI (tv_TY_sI F.1 (tn_rng _).1 (tn_rng _).2) (tn_rng _).1 (tn_rng _).2) (by show (0 : Int) ≤ (0 : Int32).toInt; decide) (by show (0 : Int32).toInt ≤ (8192 : Int); decide), tv_un_tr (tv_un_tr (tv_un_tr F.2 (tv_un_fI rfl)) (tv_un_fI rfl)) (tv_un_fI rfl)⟩).2 (tv_un_ar rfl rfl)) (tv_un_ar rfl rfl)) (tv_un_ar rfl rfl)⟩
      have y57 : (tm_sI (tm_sI (tm_sI (tm_sI (tm_sI (tm_sI s 11 15 (nI c)) 11 16 (nI mo)) 11 17 0) 57 (0 : Int32).toNatClampNeg 0) 58 (0 : Int32).toNatClampNeg 0) 56 (0 : Int32).toNatClampNeg 0).1 57 0 = nI 0 := by rw [tm_gI, if_neg (fun e => absurd e.1 (by decide)), tm_gI, if_neg (fun e => absurd e.1 (by decide)), tm_gI]; exact if_pos ⟨rfl, by decide⟩
      have y58 : (tm_sI (tm_sI (tm_sI (tm_sI (tm_sI (tm_sI s 11 15 (nI c)) 11 16 (nI mo)) 11 17 0) 57 (0 : Int32).toNatClampNeg 0) 58 (0 : Int32).toNatClampNeg 0) 56 (0 : Int32).toNatClampNeg 0).1 58 0 = nI 0 := by rw [tm_gI, if_neg (fun e => absurd e.1 (by decide)), tm_gI]; exact if_pos ⟨rfl, by decide⟩
      have y56 : (tm_sI (tm_sI (tm_sI (tm_sI (tm_sI (tm_sI s 11 15 (nI c)) 11 16 (nI mo)) 11 17 0) 57 (0 : Int32).toNatClampNeg 0) 58 (0 : Int32).toNatClampNeg 0) 56 (0 : Int32).toNatClampNeg 0).1 56 0 = nI 0 := by rw [tm_gI]; exact if_pos ⟨rfl, by decide⟩
      have y17 : (tm_sI (tm_sI (tm_sI (tm_sI (tm_sI (tm_sI s 11 15 (nI c)) 11 16 (nI mo)) 11 17 0) 57 (0 : Int32).toNatClampNeg 0) 58 (0 : Int32).toNatClampNeg 0) 56 (0 : Int32).toNatClampNeg 0).1 11 17 = 0 := by rw [tm_gI, if_neg (fun e => absurd e.1 (by decide)), tm_gI, if_neg (fun e => absurd e.1 (by decide)), tm_gI, if_neg (fun e => absurd e.1 (by decide)), tm_gI, if_pos ⟨rfl, rfl⟩]
      generalize tm_sI (tm_sI (tm_sI (tm_sI (tm_sI (tm_sI s 11 15 (nI c)) 11 16 (nI mo)) 11 17 0) 57 (0 : Int32).toNatClampNeg 0) 58 (0 : Int32).toNatClampNeg 0) 56 (0 : Int32).toNatClampNeg 0 = s1 at F1 y57 y58 y56 y17 ⊢
      have hD : c / th_po mo c * th_po mo c = c := Nat.div_mul_cancel (Nat.dvd_of_mod_eq_zero d1)
      have D1 : 1 ≤ c / th_po mo c := Nat.div_pos kc k1
      have hpc : 2 ^ 2 ≤ 2 ^ c := Nat.pow_le_pow_right (by decide) hc2
      have pw : th_po mo c * th_po mo c ^ (c / th_po mo c - 1) = th_po mo c ^ (c / th_po mo c) := by
        rw [Nat.mul_comm, ← Nat.pow_succ]
        congr 1
        omega
      have z0 : th_po mo 0 = 0 := rfl
      have zp : th_po 0 c = 0 := th_sm0 (fun i _ => Nat.zero_testBit i)
      refine WP.less (th_e66 (L := 0) (cv := 0) (m := 0) hc (by decide) (by omega) (by omega) y57 y56 (fun b hb => th_feE hc hm h0 hD (c / th_po mo c - 1) c 0 0 b 0 0 s1 (by omega) (by omega) (by omega) (by omega) (by rw [zp, Nat.zero_mul]) (by decide) hb F1 y57 y58 ?_ (fun s9 F9 A9 c9 => ?_))) (by simp [nI_0])
      · rw [y17, z0, Nat.sub_zero, pw]
        show (0 : Int) + _ ≤ _
        omega
      · refine wp_ldi rfl tm_m0 ?_
        refine wq_iflt rfl (fun h67 => ?_) (fun h67 => absurd (by decide) h67)
        exact wp_retv rfl ⟨rfl, F9⟩
    · exact wp_retv rfl ⟨rfl, ⟨tv_TY_sI (tv_TY_sI (tv_TY_sI F.1 (tn_rng _).1 (tn_rng _).2) (tn_rng _).1 (tn_rng _).2) (by show (0 : Int) ≤ (0 : Int32).toInt; decide) (by show (0 : Int32).toInt ≤ (8192 : Int); decide), tv_un_tr (tv_un_tr (tv_un_tr F.2 (tv_un_fI rfl)) (tv_un_fI rfl)) (tv_un_fI rfl)⟩⟩
  · refine wp_lda rfl tm_m0 ?_
    refine wq_geti rfl rfl (f := 16) rfl rfl (Or.inl rfl) ?_
    refine wp_ldi rfl tm_m2 ?_
    refine wq_icne rfl (fun h13 => ?_) (fun h13 => ?_)
    · refine wp_lda rfl tm_m0 ?_
      refine wp_ldi rfl tm_m1 ?_
      refine wq_puti rfl rfl (f := 15) rfl rfl ?_
      refine wp_lda rfl tm_m0 ?_
      refine wp_ldi rfl tm_m2 ?_
      refine wq_puti rfl rfl (f := 16) rfl rfl ?_
      refine wp_lda rfl tm_m0 ?_
      refine wq_con (x := 0) rfl (by decide) ?_
      refine wq_puti rfl rfl (f := 17) rfl rfl ?_
      refine wp_ldi rfl tm_m1 ?_
      refine wp_lda rfl tm_m0 ?_
      refine wp_ldi rfl tm_m2 ?_
      refine wq_calv [.int (nI mo)] rfl rfl rfl rfl rfl rfl rfl rfl rfl (th_on24 (by omega)) ?_
      rintro _ _ ⟨rfl, rfl⟩
      rw [l24]
      refine wp_rem rfl (nI_ne0 (by omega) (by omega)) ?_
      refine wq_ifeq rfl (fun h39 => ?_) (fun h39 => ?_)
      · refine wq_con (x := 0) rfl (by decide) ?_
        refine wq_sti [(3, .int 0), (0, .ref 11), (1, .int (nI c)), (2, .int (nI mo))] rfl rfl ?_
        refine wp_lda rfl tm_m1 ?_
        refine wq_getr (p := 57) rfl rfl (f := 21) rfl rfl ?_
        refine wq_con (x := 0) rfl (by decide) ?_
        refine wq_con (x := 0) rfl (by decide) ?_
        refine wp_iast rfl rfl (tn_in (by decide) (by decide)) ?_
        refine wp_lda rfl tm_m1 ?_
        refine wq_getr (p := 58) rfl rfl (f := 22) rfl rfl ?_
        refine wq_con (x := 0) rfl (by decide) ?_
        refine wq_con (x := 0) rfl (by decide) ?_
        refine wp_iast rfl rfl (tn_in (by decide) (by decide)) ?_
        refine wp_lda rfl tm_m1 ?_
        refine wq_getr (p := 56) rfl rfl (f := 20) rfl rfl ?_
        refine wq_con (x := 0) rfl (by decide) ?_
        refine wq_con (x := 0) rfl (by decide) ?_
        refine wp_iast rfl rfl (tn_in (by decide) (by decide)) ?_
        obtain ⟨d1, d2⟩ := th_rm24 hc (by omega) k1 h39
        have F1 : th_FE n σ (tm_sI (tm_sI (tm_sI (tm_sI (tm_sI (tm_sI s 11 15 (nI c)) 11 16 (nI mo)) 11 17 0) 57 (0 : Int32).toNatClampNeg 0) 58 (0 : Int32).toNatClampNeg 0) 56 (0 : Int32).toNatClampNeg 0) := ⟨tv_TY_row (tv_TY_row (tv_TY_row (show th_FE n σ (tm_sI (tm_sI (tm_sI s 11 15 (nI c)) 11 16 (nI mo)) 11 17 0) from ⟨tv_TY_sI (tv_TY_sI (tv_TY_sI F.1 (tn_rng _).1 (tn_rng _).2) (tn_rng _).1 (tn_rng _).2) (by show (0 : Int) ≤ (0 : Int32).toInt; decide) (by show (0 : Int32).toInt ≤ (8192 : Int); decide), tv_un_tr (tv_un_tr (tv_un_tr F.2 (tv_un_fI rfl)) (tv_un_fI rfl)) (tv_un_fI rfl)⟩).1 (ty := (0, 16777215)) (fun _ => rfl) (by decide) (by decide)) (ty := (0, 16777215)) (fun _ => rfl) (by decide) (by decide)) (ty := (0, 25)) (fun _ => rfl) (by decide) (by decide), tv_un_tr (tv_un_tr (tv_un_tr (show th_FE n σ (tm_sI (tm_sI (tm_sI s 11 15 (nI c)) 11 16 (nI mo)) 11 17 0) from ⟨tv_TY_sI (tv_TY_sI (tv_TY_sI F.1 (tn_rng _).1 (tn_rng _).2) (tn_rng _).1 (tn_rng _).2) (by show (0 : Int) ≤ (0 : Int32).toInt; decide) (by show (0 : Int32).toInt ≤ (8192 : Int); decide), tv_un_tr (tv_un_tr (tv_un_tr F.2 (tv_un_fI rfl)) (tv_un_fI rfl)) (tv_un_fI rfl)⟩).2 (tv_un_ar rfl rfl)) (tv_un_ar rfl rfl)) (tv_un_ar rfl rfl)⟩
        have y57 : (tm_sI (tm_sI (tm_sI (tm_sI (tm_sI (tm_sI s 11 15 (nI c)) 11 16 (nI mo)) 11 17 0) 57 (0 : Int32).toNatClampNeg 0) 58 (0 : Int32).toNatClampNeg 0) 56 (0 : Int32).toNatClampNeg 0).1 57 0 = nI 0 := by rw [tm_gI, if_neg (fun e => absurd e.1 (by decide)), tm_gI, if_neg (fun e => absurd e.1 (by decide)), tm_gI]; exact if_pos ⟨rfl, by decide⟩
        have y58 : (tm_sI (tm_sI (tm_sI (tm_sI (tm_sI (tm_sI s 11 15 (nI c)) 11 16 (nI mo)) 11 17 0) 57 (0 : Int32).toNatClampNeg 0) 58 (0 : Int32).toNatClampNeg 0) 56 (0 : Int32).toNatClampNeg 0).1 58 0 = nI 0 := by rw [tm_gI, if_neg (fun e => absurd e.1 (by decide)), tm_gI]; exact if_pos ⟨rfl, by decide⟩
        have y56 : (tm_sI (tm_sI (tm_sI (tm_sI (tm_sI (tm_sI s 11 15 (nI c)) 11 16 (nI mo)) 11 17 0) 57 (0 : Int32).toNatClampNeg 0) 58 (0 : Int32).toNatClampNeg 0) 56 (0 : Int32).toNatClampNeg 0).1 56 0 = nI 0 := by rw [tm_gI]; exact if_pos ⟨rfl, by decide⟩
        have y17 : (tm_sI (tm_sI (tm_sI (tm_sI (tm_sI (tm_sI s 11 15 (nI c)) 11 16 (nI mo)) 11 17 0) 57 (0 : Int32).toNatClampNeg 0) 58 (0 : Int32).toNatClampNeg 0) 56 (0 : Int32).toNatClampNeg 0).1 11 17 = 0 := by rw [tm_gI, if_neg (fun e => absurd e.1 (by decide)), tm_gI, if_neg (fun e => absurd e.1 (by decide)), tm_gI, if_neg (fun e => absurd e.1 (by decide)), tm_gI, if_pos ⟨rfl, rfl⟩]
        generalize tm_sI (tm_sI (tm_sI (tm_sI (tm_sI (tm_sI s 11 15 (nI c)) 11 16 (nI mo)) 11 17 0) 57 (0 : Int32).toNatClampNeg 0) 58 (0 : Int32).toNatClampNeg 0) 56 (0 : Int32).toNatClampNeg 0 = s1 at F1 y57 y58 y56 y17 ⊢
        have hD : c / th_po mo c * th_po mo c = c := Nat.div_mul_cancel (Nat.dvd_of_mod_eq_zero d1)
        have D1 : 1 ≤ c / th_po mo c := Nat.div_pos kc k1
        have hpc : 2 ^ 2 ≤ 2 ^ c := Nat.pow_le_pow_right (by decide) hc2
        have pw : th_po mo c * th_po mo c ^ (c / th_po mo c - 1) = th_po mo c ^ (c / th_po mo c) := by
          rw [Nat.mul_comm, ← Nat.pow_succ]
          congr 1
          omega
        have z0 : th_po mo 0 = 0 := rfl
        have zp : th_po 0 c = 0 := th_sm0 (fun i _ => Nat.zero_testBit i)
        refine WP.less (th_e66 (L := 0) (cv := 0) (m := 0) hc (by decide) (by omega) (by omega) y57 y56 (fun b hb => th_feE hc hm h0 hD (c / th_po mo c - 1) c 0 0 b 0 0 s1 (by omega) (by omega) (by omega) (by omega) (by rw [zp, Nat.zero_mul]) (by decide) hb F1 y57 y58 ?_ (fun s9 F9 A9 c9 => ?_))) (by simp [nI_0])
        · rw [y17, z0, Nat.sub_zero, pw]
          show (0 : Int) + _ ≤ _
          omega
        · refine wp_ldi rfl tm_m0 ?_
          refine wq_iflt rfl (fun h67 => ?_) (fun h67 => absurd (by decide) h67)
          exact wp_retv rfl ⟨rfl, F9⟩
      · exact wp_retv rfl ⟨rfl, ⟨tv_TY_sI (tv_TY_sI (tv_TY_sI F.1 (tn_rng _).1 (tn_rng _).2) (tn_rng _).1 (tn_rng _).2) (by show (0 : Int) ≤ (0 : Int32).toInt; decide) (by show (0 : Int32).toInt ≤ (8192 : Int); decide), tv_un_tr (tv_un_tr (tv_un_tr F.2 (tv_un_fI rfl)) (tv_un_fI rfl)) (tv_un_fI rfl)⟩⟩
    · exact wp_retv rfl ⟨rfl, F⟩
def tz_pdo : tv_C := (209, [(3, 11, 11), (1, 2, 24), (1, (-2147483648), 2147483647)], [], [((1, 1, 24), [])], [], 45)
theorem tq_pdo {T : tv_TT} {a1 : Int32} {a2 : Int32} {σ σ' : tm_S} {r : Option Value} (h : tv_Qc T tz_pdo [.ref 11, .int a1, .int a2] σ r σ') : tv_TY T σ' ∧ tv_un σ σ' [] ∧ ((∃ z : Int32, r = some (.int z) ∧ 1 ≤ z.toInt ∧ z.toInt ≤ 24)) := by
  obtain ⟨h1, h2, q, hq, hr, hn⟩ := h
  refine ⟨h1, h2, ?_⟩
  change q ∈ [((1, 1, 24), [])] at hq
  simp only [List.mem_cons, List.not_mem_nil, or_false] at hq
  rcases hq with rfl
  rcases hr with ⟨e, -⟩ | ⟨x, rfl, hx⟩
  · cases e
  · obtain ⟨z, rfl, g1, g2⟩ := hx
    exact ⟨z, rfl, g1, g2⟩
set_option maxRecDepth 100000 in
set_option maxHeartbeats 4000000 in
theorem th_mfills {n : Nat} {c2 mo2 : Int32} {σ : tm_S} (hT : tv_TY (tc_T (n : Int)) σ) : WM 46 201 [.ref 11, .int c2, .int mo2] σ (fun q t => (∃ z : Int32, q = some (.int z)) ∧ th_FE n σ t) := by
  have F0 : th_FE n σ (tm_sI σ 11 0 0) := ⟨tv_TY_sI hT tv_z0 tv_z1, tv_un_fI rfl⟩
  show WP 46 201 0 [(0, .ref 11), (1, .int c2), (2, .int mo2)] [] σ _
  refine wp_lda rfl tm_m0 ?_
  refine wq_con (x := 0) rfl (by decide) ?_
  refine wq_puti rfl rfl (f := 0) rfl rfl ?_
  refine wp_lda rfl tm_m0 ?_
  refine wp_ldi rfl tm_m1 ?_
  refine wp_ldi rfl tm_m2 ?_
  refine wq_calv [.int c2, .int mo2] rfl rfl rfl rfl rfl rfl rfl rfl rfl (th_isrd) ?_
  rintro r8 _ ⟨hr8, rfl⟩
  obtain ⟨z8, rfl, hz8⟩ : ∃ z : Int32, r8 = some (.int z) ∧ (¬ z = 0 → ∃ c mo : Nat, c2 = nI c ∧ mo2 = nI mo ∧ 2 ≤ c ∧ c ≤ 24 ∧ 0 < mo ∧ mo < 2 ^ c) := by
    rcases hr8 with ⟨rfl, g⟩ | rfl
    · exact ⟨_, rfl, fun _ => g⟩
    · exact ⟨_, rfl, fun e => absurd rfl e⟩
  refine wq_ifne rfl (fun h11 => ?_) (fun h11 => ?_)
  · obtain ⟨c, mo, rfl, rfl, h2, h24, h0, hm⟩ := hz8 h11
    refine wp_lda rfl tm_m0 ?_
    refine wp_ldi rfl tm_m1 ?_
    refine wp_ldi rfl tm_m2 ?_
    refine wq_calv [.int (nI c), .int (nI mo)] rfl rfl rfl rfl rfl rfl rfl rfl rfl (WM.deep (th_find h2 h24 h0 hm F0) (by decide)) ?_
    rintro _ t ⟨rfl, Ft⟩
    refine wp_lda rfl tm_m0 ?_
    refine wq_geti rfl rfl (f := 17) rfl rfl (Or.inl rfl) ?_
    exact wp_reti rfl (th_nI rfl) ⟨⟨_, rfl⟩, Ft⟩
  · refine wq_con (x := (-1)) rfl (by decide) ?_
    exact wp_reti rfl (th_nI rfl) ⟨⟨_, rfl⟩, F0⟩
set_option maxRecDepth 100000 in
set_option maxHeartbeats 4000000 in
theorem th_mfill {n : Nat} {c2 mo2 k2 : Int32} {σ : tm_S} (hT : tv_TY (tc_T (n : Int)) σ) : WM 46 207 [.ref 11, .int c2, .int mo2, .int k2] σ (fun q t => (∃ z : Int32, q = some (.int z)) ∧ th_FE n σ t) := by
  have F0 : th_FE n σ (tm_sI σ 11 0 0) := ⟨tv_TY_sI hT tv_z0 tv_z1, tv_un_fI rfl⟩
  show WP 46 207 0 [(0, .ref 11), (1, .int c2), (2, .int mo2), (3, .int k2)] [] σ _
  refine wp_lda rfl tm_m0 ?_
  refine wq_con (x := 0) rfl (by decide) ?_
  refine wq_puti rfl rfl (f := 0) rfl rfl ?_
  refine wp_lda rfl tm_m0 ?_
  refine wp_ldi rfl tm_m1 ?_
  refine wp_ldi rfl tm_m2 ?_
  refine wq_calv [.int c2, .int mo2] rfl rfl rfl rfl rfl rfl rfl rfl rfl (th_isrd) ?_
  rintro r8 _ ⟨hr8, rfl⟩
  obtain ⟨z8, rfl, hz8⟩ : ∃ z : Int32, r8 = some (.int z) ∧ (¬ z = 0 → ∃ c mo : Nat, c2 = nI c ∧ mo2 = nI mo ∧ 2 ≤ c ∧ c ≤ 24 ∧ 0 < mo ∧ mo < 2 ^ c) := by
    rcases hr8 with ⟨rfl, g⟩ | rfl
    · exact ⟨_, rfl, fun _ => g⟩
    · exact ⟨_, rfl, fun e => absurd rfl e⟩
  refine wq_ifne rfl (fun h11 => ?_) (fun h11 => ?_)
  · obtain ⟨c, mo, rfl, rfl, h2, h24, h0, hm⟩ := hz8 h11
    refine wp_lda rfl tm_m0 ?_
    refine wp_ldi rfl tm_m1 ?_
    refine wp_ldi rfl tm_m2 ?_
    refine wq_calv [.int (nI c), .int (nI mo)] rfl rfl rfl rfl rfl rfl rfl rfl rfl (WM.deep (th_find h2 h24 h0 hm F0) (by decide)) ?_
    rintro _ t ⟨rfl, Ft⟩
    refine wp_ldi rfl tm_m3 ?_
    refine wq_iflt rfl (fun h23 => ?_) (fun h23 => ?_)
    · have g23 : (k2).toInt < 0 := tn_ltI.mp h23
      refine wq_con (x := (-1)) rfl (by decide) ?_
      exact wp_reti rfl (th_nI rfl) ⟨⟨_, rfl⟩, Ft⟩
    · have g23 : ¬ (k2).toInt < 0 := fun g => h23 (tn_ltI.mpr g)
      refine wp_ldi rfl tm_m3 ?_
      refine wp_lda rfl tm_m0 ?_
      refine wq_geti rfl rfl (f := 17) rfl rfl (Or.inl rfl) ?_
      refine wq_icge rfl (fun h31 => ?_) (fun h31 => ?_)
      · have g31 : (t.1 11 17).toInt ≤ (k2).toInt := tn_leI.mp h31
        refine wq_con (x := (-1)) rfl (by decide) ?_
        exact wp_reti rfl (th_nI rfl) ⟨⟨_, rfl⟩, Ft⟩
      · have g31 : ¬ (t.1 11 17).toInt ≤ (k2).toInt := fun g => h31 (tn_leI.mpr g)
        refine wp_lda rfl tm_m0 ?_
        refine wq_getr (p := 54) rfl rfl (f := 18) rfl rfl ?_
        refine wp_ldi rfl tm_m3 ?_
        refine wp_iald rfl rfl (tn_in (by change ¬ k2.toInt < (0 : Int) at g23; omega) (by have : (t.1 11 17).toInt ≤ 8192 := (Ft.1.1 11 17).2; omega)) ?_
        refine wp_go rfl ?_
        exact wp_reti rfl (th_nI rfl) ⟨⟨_, rfl⟩, Ft⟩
  · refine wq_con (x := (-1)) rfl (by decide) ?_
    exact wp_reti rfl (th_nI rfl) ⟨⟨_, rfl⟩, F0⟩
set_option maxRecDepth 100000 in
set_option maxHeartbeats 4000000 in
theorem th_mpure {n : Nat} {c2 mo2 : Int32} {σ : tm_S} (hpdo : tv_Snd (tc_T (n : Int)) tz_pdo) (hT : tv_TY (tc_T (n : Int)) σ) : WM 46 208 [.ref 11, .int c2, .int mo2] σ (fun q t => (∃ z : Int32, q = some (.int z)) ∧ th_FE n σ t) := by
  have F0 : th_FE n σ (tm_sI σ 11 0 0) := ⟨tv_TY_sI hT tv_z0 tv_z1, tv_un_fI rfl⟩
  show WP 46 208 0 [(0, .ref 11), (1, .int c2), (2, .int mo2)] [] σ _
  refine wp_lda rfl tm_m0 ?_
  refine wq_con (x := 0) rfl (by decide) ?_
  refine wq_puti rfl rfl (f := 0) rfl rfl ?_
  refine wp_lda rfl tm_m0 ?_
  refine wp_ldi rfl tm_m1 ?_
  refine wp_ldi rfl tm_m2 ?_
  refine wq_calv [.int c2, .int mo2] rfl rfl rfl rfl rfl rfl rfl rfl rfl (th_isrd) ?_
  rintro r8 _ ⟨hr8, rfl⟩
  obtain ⟨z8, rfl, hz8⟩ : ∃ z : Int32, r8 = some (.int z) ∧ (¬ z = 0 → ∃ c mo : Nat, c2 = nI c ∧ mo2 = nI mo ∧ 2 ≤ c ∧ c ≤ 24 ∧ 0 < mo ∧ mo < 2 ^ c) := by
    rcases hr8 with ⟨rfl, g⟩ | rfl
    · exact ⟨_, rfl, fun _ => g⟩
    · exact ⟨_, rfl, fun e => absurd rfl e⟩
  refine wq_ifne rfl (fun h11 => ?_) (fun h11 => ?_)
  · obtain ⟨c, mo, rfl, rfl, h2, h24, h0, hm⟩ := hz8 h11
    have k39 : ∀ (m : Nat) (i k3 : Int32) (u : tm_S), th_FE n σ u → 0 ≤ i.toInt → 8192 ≤ i.toInt + m → WP 46 208 39 [(4, .int i), (3, .int k3), (0, .ref 11), (1, .int (nI c)), (2, .int (nI mo))] [] u (fun q t => (∃ z : Int32, q = some (.int z)) ∧ th_FE n σ t) := by
      intro m
      induction m with
      | zero =>
        intro i k3 u Fu hi hm2
        have g17 : (u.1 11 17).toInt ≤ 8192 := (Fu.1.1 11 17).2
        refine wp_ldi rfl tm_m0 ?_
        refine wp_lda rfl tm_m2 ?_
        refine wq_geti rfl rfl (f := 17) rfl rfl (Or.inl rfl) ?_
        refine wq_icge rfl (fun h45 => ?_) (fun h45 => absurd (tn_leI.mpr (by omega)) h45)
        have g45 : (u.1 11 17).toInt ≤ (i).toInt := tn_leI.mp h45
        refine wp_ldi rfl tm_m1 ?_
        exact wp_reti rfl (th_nI rfl) ⟨⟨_, rfl⟩, Fu⟩
      | succ m ih =>
        intro i k3 u Fu hi hm2
        have g17 : (u.1 11 17).toInt ≤ 8192 := (Fu.1.1 11 17).2
        refine wp_ldi rfl tm_m0 ?_
        refine wp_lda rfl tm_m2 ?_
        refine wq_geti rfl rfl (f := 17) rfl rfl (Or.inl rfl) ?_
        refine wq_icge rfl (fun h45 => ?_) (fun h45 => ?_)
        · have g45 : (u.1 11 17).toInt ≤ (i).toInt := tn_leI.mp h45
          refine wp_ldi rfl tm_m1 ?_
          exact wp_reti rfl (th_nI rfl) ⟨⟨_, rfl⟩, Fu⟩
        · have g45 : ¬ (u.1 11 17).toInt ≤ (i).toInt := fun g => h45 (tn_leI.mpr g)
          refine wp_lda rfl tm_m2 ?_
          refine wp_ldi rfl tm_m3 ?_
          refine wp_lda rfl tm_m2 ?_
          refine wq_getr (p := 54) rfl rfl (f := 18) rfl rfl ?_
          refine wp_ldi rfl tm_m0 ?_
          refine wp_iald rfl rfl (tn_in hi (by omega)) ?_
          refine wq_calv [.int (nI c), .int (u.1 54 i.toNatClampNeg)] rfl rfl rfl rfl rfl rfl rfl rfl rfl (WM.deep (hpdo [.ref 11, .int (nI c), .int (u.1 54 i.toNatClampNeg)] u ⟨⟨_, rfl, by decide, by decide⟩, ⟨_, rfl, by rw [nI_toInt (by omega)]; omega, by rw [nI_toInt (by omega)]; omega⟩, ⟨_, rfl, (tn_rng _).1, (tn_rng _).2⟩, trivial⟩ Fu.1) (by decide)) ?_
          rintro r57 v57 hq57
          obtain ⟨Tv57, uv57, z57, rfl, -⟩ := tq_pdo hq57
          have Fv57 : th_FE n σ v57 := ⟨Tv57, tv_un_tr Fu.2 (tv_un_mo uv57 (fun q hq => nomatch hq))⟩
          refine wp_ldi rfl tm_m3 ?_
          refine wq_icne rfl (fun h61 => ?_) (fun h61 => ?_)
          · refine wq_inc (c := 1) [(4, .int (i + 1)), (3, .int k3), (0, .ref 11), (1, .int (nI c)), (2, .int (nI mo))] rfl tm_m0 rfl rfl ?_
            refine wp_go rfl ?_
            have e1 := tn_add1 (x := i) (by omega)
            exact WP.less (ih (i + 1) k3 v57 Fv57 (by omega) (by omega)) (by simp)
          · have g61 : (z57).toInt = (nI c).toInt := congrArg Int32.toInt (Classical.not_not.mp h61)
            refine wp_ldi rfl tm_m1 ?_
            refine wq_con (x := 1) rfl (by decide) ?_
            refine wq_iadd rfl ?_
            refine wq_sti [(3, .int (k3 + 1)), (4, .int i), (0, .ref 11), (1, .int (nI c)), (2, .int (nI mo))] rfl rfl ?_
            refine wq_inc (c := 1) [(4, .int (i + 1)), (3, .int (k3 + 1)), (0, .ref 11), (1, .int (nI c)), (2, .int (nI mo))] rfl tm_m1 rfl rfl ?_
            refine wp_go rfl ?_
            have e1 := tn_add1 (x := i) (by omega)
            exact WP.less (ih (i + 1) (k3 + 1) v57 Fv57 (by omega) (by omega)) (by simp)
    refine wp_lda rfl tm_m0 ?_
    refine wp_ldi rfl tm_m1 ?_
    refine wp_ldi rfl tm_m2 ?_
    refine wq_calv [.int (nI c), .int (nI mo)] rfl rfl rfl rfl rfl rfl rfl rfl rfl (WM.deep (th_find h2 h24 h0 hm F0) (by decide)) ?_
    rintro _ t ⟨rfl, Ft⟩
    refine wp_lda rfl tm_m0 ?_
    refine wp_ldi rfl tm_m1 ?_
    refine wp_ldi rfl tm_m2 ?_
    refine wq_calv [.int (nI c), .int (nI mo)] rfl rfl rfl rfl rfl rfl rfl rfl rfl (WM.deep (hpdo [.ref 11, .int (nI c), .int (nI mo)] t ⟨⟨_, rfl, by decide, by decide⟩, ⟨_, rfl, by rw [nI_toInt (by omega)]; omega, by rw [nI_toInt (by omega)]; omega⟩, ⟨_, rfl, (tn_rng _).1, (tn_rng _).2⟩, trivial⟩ Ft.1) (by decide)) ?_
    rintro r25 v25 hq25
    obtain ⟨Tv25, uv25, z25, rfl, -⟩ := tq_pdo hq25
    have Fv25 : th_FE n σ v25 := ⟨Tv25, tv_un_tr Ft.2 (tv_un_mo uv25 (fun q hq => nomatch hq))⟩
    refine wp_ldi rfl tm_m1 ?_
    refine wq_iceq rfl (fun h29 => ?_) (fun h29 => ?_)
    · refine wq_con (x := 0) rfl (by decide) ?_
      refine wq_sti [(3, .int 0), (0, .ref 11), (1, .int (nI c)), (2, .int (nI mo))] rfl rfl ?_
      refine wq_con (x := 0) rfl (by decide) ?_
      refine wq_sti [(4, .int 0), (3, .int 0), (0, .ref 11), (1, .int (nI c)), (2, .int (nI mo))] rfl rfl ?_
      exact WP.less (k39 8192 0 0 v25 Fv25 (by decide) (by decide)) (by simp)
    · refine wq_con (x := 0) rfl (by decide) ?_
      exact wp_reti rfl (th_nI rfl) ⟨⟨_, rfl⟩, Fv25⟩
  · refine wq_con (x := (-1)) rfl (by decide) ?_
    exact wp_reti rfl (th_nI rfl) ⟨⟨_, rfl⟩, F0⟩
