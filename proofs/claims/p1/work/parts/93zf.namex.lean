/-! ===== names: the table of the class ===== -/
def tk_F (n : Nat) (σ s : tm_S) : Prop := tv_TY (tc_T (n : Int)) s ∧ tv_un σ s [(14, 64), (15, 64), (16, 64), (17, 64)]
/-- what is named is named right -/
def tk_NM (n : Nat) (s : tm_S) : Prop := ∀ g : Nat, g ≤ 2 → ¬ s.1 17 g = 0 → ∀ v : Nat, v < 2 ^ n → s.1 (14 + g) v = nI (tk_nm n g v)
theorem tk_NMu {n : Nat} {σ s : tm_S} (h : tk_NM n σ) (e1 : s.1 14 = σ.1 14) (e2 : s.1 15 = σ.1 15) (e3 : s.1 16 = σ.1 16) (e4 : s.1 17 = σ.1 17) : tk_NM n s := by
  intro g hg h1 v hv
  have e : s.1 (14 + g) = σ.1 (14 + g) := by
    rcases (by omega : g = 0 ∨ g = 1 ∨ g = 2) with rfl | rfl | rfl
    · exact e1
    · exact e2
    · exact e3
  rw [e4] at h1
  rw [e]
  exact h g hg h1 v hv
theorem tk_n1 {q : Nat} (h : q < 2 ^ 31) : ¬ nI q = -1 := fun e => by
  have h1 := congrArg Int32.toInt e
  rw [nI_toInt h] at h1
  have h2 : (-1 : Int32).toInt = -1 := by decide
  omega
/-- a name of k notes -/
def tk_is (n g K S : Nat) : Bool := decide (tk_nm n g S = S) && decide (th_po S n = K)
/-- the I-th of them -/
def tk_fd (n g K I : Nat) (z : Int32) : Prop := (∃ v : Nat, z = nI v ∧ v < 2 ^ n ∧ tk_is n g K v = true ∧ th_sm (tk_is n g K) v = I) ∨ (z = -1 ∧ th_sm (tk_is n g K) (2 ^ n) ≤ I)
set_option maxRecDepth 100000 in
set_option maxHeartbeats 4000000 in
theorem tk_fill0 {d n : Nat} {σ : tm_S} (hT : tv_TY (tc_T (n : Int)) σ) : WM d 16 [.ref 14, .int (-1)] σ (fun q t => q = none ∧ tv_TY (tc_T (n : Int)) t ∧ tv_un σ t [(14, 64)] ∧ ∀ v : Nat, v < 4096 → t.1 14 v = -1) := by
  have k5 : ∀ (f k : Nat) (t : tm_S), k + f = 4096 → tv_TY (tc_T (n : Int)) t → tv_un σ t [(14, 64)] → (∀ v : Nat, v < k → t.1 14 v = -1) → WP d 16 5 [(2, .int (nI k)), (3, .int 4096), (0, .ref 14), (1, .int ((-1)))] [] t (fun q t => q = none ∧ tv_TY (tc_T (n : Int)) t ∧ tv_un σ t [(14, 64)] ∧ ∀ v : Nat, v < 4096 → t.1 14 v = -1) := by
    intro f
    induction f with
    | zero =>
      intro k t hk Tt Ut hx
      obtain rfl : k = 4096 := by omega
      refine wp_ldi rfl tm_m0 ?_
      refine wp_ldi rfl tm_m1 ?_
      refine wq_icge rfl (fun h7 => ?_) (fun h7 => absurd (by decide) h7)
      exact wp_retv rfl ⟨rfl, Tt, Ut, hx⟩
    | succ f ih =>
      intro k t hk Tt Ut hx
      refine wp_ldi rfl tm_m0 ?_
      refine wp_ldi rfl tm_m1 ?_
      refine wq_icge rfl (fun h7 => absurd h7 (nI_ge (a := k) (b := 4096) (by omega) (by decide))) (fun h7 => ?_)
      refine wp_lda rfl tm_m2 ?_
      refine wp_ldi rfl tm_m0 ?_
      refine wp_ldi rfl tm_m3 ?_
      refine wp_iast rfl rfl (nI_in (by omega) (by decide)) ?_
      refine wq_inc (c := 1) [(2, .int ((nI k) + 1)), (3, .int 4096), (0, .ref 14), (1, .int ((-1)))] rfl tm_m0 rfl rfl ?_
      refine wp_go rfl ?_
      have ck : (nI k).toNatClampNeg = k := nI_clamp (by omega)
      rw [nI_1]
      refine WP.less (ih (k + 1) _ (by omega) (tv_TY_row Tt (ty := ((-1), 4095)) (fun _ => rfl) (by decide) (by decide)) (tv_un_tr Ut (tv_un_ar rfl rfl)) (fun x hx2 => ?_)) (by simp)
      rw [tm_gI, ck]
      split
      · rfl
      · rename_i e
        exact hx x (by have : ¬ x = k := fun e2 => e ⟨rfl, e2⟩; omega)
  show WP d 16 0 [(0, .ref 14), (1, .int (-1))] [] σ _
  refine wq_con (x := nI 0) rfl (by decide) ?_
  refine wq_sti [(2, .int (nI 0)), (0, .ref 14), (1, .int ((-1)))] rfl rfl ?_
  refine wp_lda rfl tm_m1 ?_
  refine wq_len (x := 4096) rfl rfl (by decide) ?_
  refine wq_sti [(3, .int 4096), (2, .int (nI 0)), (0, .ref 14), (1, .int ((-1)))] rfl rfl ?_
  exact WP.less (k5 4096 0 σ (by omega) hT tv_un_rf (fun v hv => absurd hv (by omega))) (by simp)
set_option maxRecDepth 100000 in
set_option maxHeartbeats 4000000 in
theorem tk_fill1 {d n : Nat} {σ : tm_S} (hT : tv_TY (tc_T (n : Int)) σ) : WM d 16 [.ref 15, .int (-1)] σ (fun q t => q = none ∧ tv_TY (tc_T (n : Int)) t ∧ tv_un σ t [(15, 64)] ∧ ∀ v : Nat, v < 4096 → t.1 15 v = -1) := by
  have k5 : ∀ (f k : Nat) (t : tm_S), k + f = 4096 → tv_TY (tc_T (n : Int)) t → tv_un σ t [(15, 64)] → (∀ v : Nat, v < k → t.1 15 v = -1) → WP d 16 5 [(2, .int (nI k)), (3, .int 4096), (0, .ref 15), (1, .int ((-1)))] [] t (fun q t => q = none ∧ tv_TY (tc_T (n : Int)) t ∧ tv_un σ t [(15, 64)] ∧ ∀ v : Nat, v < 4096 → t.1 15 v = -1) := by
    intro f
    induction f with
    | zero =>
      intro k t hk Tt Ut hx
      obtain rfl : k = 4096 := by omega
      refine wp_ldi rfl tm_m0 ?_
      refine wp_ldi rfl tm_m1 ?_
      refine wq_icge rfl (fun h7 => ?_) (fun h7 => absurd (by decide) h7)
      exact wp_retv rfl ⟨rfl, Tt, Ut, hx⟩
    | succ f ih =>
      intro k t hk Tt Ut hx
      refine wp_ldi rfl tm_m0 ?_
      refine wp_ldi rfl tm_m1 ?_
      refine wq_icge rfl (fun h7 => absurd h7 (nI_ge (a := k) (b := 4096) (by omega) (by decide))) (fun h7 => ?_)
      refine wp_lda rfl tm_m2 ?_
      refine wp_ldi rfl tm_m0 ?_
      refine wp_ldi rfl tm_m3 ?_
      refine wp_iast rfl rfl (nI_in (by omega) (by decide)) ?_
      refine wq_inc (c := 1) [(2, .int ((nI k) + 1)), (3, .int 4096), (0, .ref 15), (1, .int ((-1)))] rfl tm_m0 rfl rfl ?_
      refine wp_go rfl ?_
      have ck : (nI k).toNatClampNeg = k := nI_clamp (by omega)
      rw [nI_1]
      refine WP.less (ih (k + 1) _ (by omega) (tv_TY_row Tt (ty := ((-1), 4095)) (fun _ => rfl) (by decide) (by decide)) (tv_un_tr Ut (tv_un_ar rfl rfl)) (fun x hx2 => ?_)) (by simp)
      rw [tm_gI, ck]
      split
      · rfl
      · rename_i e
        exact hx x (by have : ¬ x = k := fun e2 => e ⟨rfl, e2⟩; omega)
  show WP d 16 0 [(0, .ref 15), (1, .int (-1))] [] σ _
  refine wq_con (x := nI 0) rfl (by decide) ?_
  refine wq_sti [(2, .int (nI 0)), (0, .ref 15), (1, .int ((-1)))] rfl rfl ?_
  refine wp_lda rfl tm_m1 ?_
  refine wq_len (x := 4096) rfl rfl (by decide) ?_
  refine wq_sti [(3, .int 4096), (2, .int (nI 0)), (0, .ref 15), (1, .int ((-1)))] rfl rfl ?_
  exact WP.less (k5 4096 0 σ (by omega) hT tv_un_rf (fun v hv => absurd hv (by omega))) (by simp)
set_option maxRecDepth 100000 in
set_option maxHeartbeats 4000000 in
theorem tk_fill2 {d n : Nat} {σ : tm_S} (hT : tv_TY (tc_T (n : Int)) σ) : WM d 16 [.ref 16, .int (-1)] σ (fun q t => q = none ∧ tv_TY (tc_T (n : Int)) t ∧ tv_un σ t [(16, 64)] ∧ ∀ v : Nat, v < 4096 → t.1 16 v = -1) := by
  have k5 : ∀ (f k : Nat) (t : tm_S), k + f = 4096 → tv_TY (tc_T (n : Int)) t → tv_un σ t [(16, 64)] → (∀ v : Nat, v < k → t.1 16 v = -1) → WP d 16 5 [(2, .int (nI k)), (3, .int 4096), (0, .ref 16), (1, .int ((-1)))] [] t (fun q t => q = none ∧ tv_TY (tc_T (n : Int)) t ∧ tv_un σ t [(16, 64)] ∧ ∀ v : Nat, v < 4096 → t.1 16 v = -1) := by
    intro f
    induction f with
    | zero =>
      intro k t hk Tt Ut hx
      obtain rfl : k = 4096 := by omega
      refine wp_ldi rfl tm_m0 ?_
      refine wp_ldi rfl tm_m1 ?_
      refine wq_icge rfl (fun h7 => ?_) (fun h7 => absurd (by decide) h7)
      exact wp_retv rfl ⟨rfl, Tt, Ut, hx⟩
    | succ f ih =>
      intro k t hk Tt Ut hx
      refine wp_ldi rfl tm_m0 ?_
      refine wp_ldi rfl tm_m1 ?_
      refine wq_icge rfl (fun h7 => absurd h7 (nI_ge (a := k) (b := 4096) (by omega) (by decide))) (fun h7 => ?_)
      refine wp_lda rfl tm_m2 ?_
      refine wp_ldi rfl tm_m0 ?_
      refine wp_ldi rfl tm_m3 ?_
      refine wp_iast rfl rfl (nI_in (by omega) (by decide)) ?_
      refine wq_inc (c := 1) [(2, .int ((nI k) + 1)), (3, .int 4096), (0, .ref 16), (1, .int ((-1)))] rfl tm_m0 rfl rfl ?_
      refine wp_go rfl ?_
      have ck : (nI k).toNatClampNeg = k := nI_clamp (by omega)
      rw [nI_1]
      refine WP.less (ih (k + 1) _ (by omega) (tv_TY_row Tt (ty := ((-1), 4095)) (fun _ => rfl) (by decide) (by decide)) (tv_un_tr Ut (tv_un_ar rfl rfl)) (fun x hx2 => ?_)) (by simp)
      rw [tm_gI, ck]
      split
      · rfl
      · rename_i e
        exact hx x (by have : ¬ x = k := fun e2 => e ⟨rfl, e2⟩; omega)
  show WP d 16 0 [(0, .ref 16), (1, .int (-1))] [] σ _
  refine wq_con (x := nI 0) rfl (by decide) ?_
  refine wq_sti [(2, .int (nI 0)), (0, .ref 16), (1, .int ((-1)))] rfl rfl ?_
  refine wp_lda rfl tm_m1 ?_
  refine wq_len (x := 4096) rfl rfl (by decide) ?_
  refine wq_sti [(3, .int 4096), (2, .int (nI 0)), (0, .ref 16), (1, .int ((-1)))] rfl rfl ?_
  exact WP.less (k5 4096 0 σ (by omega) hT tv_un_rf (fun v hv => absurd hv (by omega))) (by simp)
set_option maxRecDepth 100000 in
set_option maxHeartbeats 4000000 in
theorem tk_cls0 {d n S : Nat} {σ s : tm_S} (hn : n ≤ 12) (h3 : 3 ≤ n) (hS : S < 2 ^ n) (F : tk_F n σ s) : WM (d + 2) 17 [.ref 1, .int (nI 0), .int (nI S)] s (fun q t => q = none ∧ tk_F n σ t ∧ (∀ v : Nat, t.1 14 v = if v ∈ tg_I n 0 S n then nI S else s.1 14 v) ∧ (t.1 15 = s.1 15 ∧ t.1 16 = s.1 16 ∧ t.1 17 = s.1 17)) := by
  have hp : 2 ^ n ≤ 4096 := Nat.pow_le_pow_right (n := 2) (by decide) hn
  have eS : (nI S).toInt = S := nI_toInt (by omega)
  have k2 : ∀ (f m : Nat) (t : tm_S), m + f = n → 1 ≤ m → tk_F n σ t → (∀ v : Nat, t.1 14 v = if v ∈ tg_I n 0 S m then nI S else s.1 14 v) → (t.1 15 = s.1 15 ∧ t.1 16 = s.1 16 ∧ t.1 17 = s.1 17) → WP (d + 2) 17 2 [(3, .int (nI m)), (0, .ref 1), (1, .int (nI 0)), (2, .int (nI S))] [] t (fun q t => q = none ∧ tk_F n σ t ∧ (∀ v : Nat, t.1 14 v = if v ∈ tg_I n 0 S n then nI S else s.1 14 v) ∧ (t.1 15 = s.1 15 ∧ t.1 16 = s.1 16 ∧ t.1 17 = s.1 17)) := by
    intro f
    induction f with
    | zero =>
      intro m t hm h1 Ft hi ho
      obtain rfl : m = n := by omega
      have hN := th_N0 Ft.1 hn
      refine wp_ldi rfl tm_m0 ?_
      refine wp_lda rfl tm_m1 ?_
      refine wq_geti rfl rfl (f := 0) rfl rfl (Or.inl rfl) ?_
      rw [hN]
      refine wq_icge rfl (fun h7 => ?_) (fun h7 => absurd (nI_le (Nat.le_refl _) (by omega)) h7)
      exact wp_retv rfl ⟨rfl, Ft, hi, ho⟩
    | succ f ih =>
      intro m t hm h1 Ft hi ho
      have hN := th_N0 Ft.1 hn
      have hfi := th_fP_iff (g := 0) (m := m) hn (by omega)
      have lw : th_im n S m 0 n < 2 ^ n := th_im_lt (by omega) n
      have k33 : th_fac n 0 m = true → ∀ (f2 u : Nat) (t : tm_S), u + f2 = n → tk_F n σ t → (∀ v : Nat, t.1 14 v = if v ∈ tg_J n 0 S m u then nI S else s.1 14 v) → (t.1 15 = s.1 15 ∧ t.1 16 = s.1 16 ∧ t.1 17 = s.1 17) → WP (d + 2) 17 33 [(5, .int (nI u)), (4, .int (nI (th_im n S m 0 n))), (3, .int (nI m)), (0, .ref 1), (1, .int (nI 0)), (2, .int (nI S))] [] t (fun q t => q = none ∧ tk_F n σ t ∧ (∀ v : Nat, t.1 14 v = if v ∈ tg_I n 0 S n then nI S else s.1 14 v) ∧ (t.1 15 = s.1 15 ∧ t.1 16 = s.1 16 ∧ t.1 17 = s.1 17)) := by
        intro hf f2
        induction f2 with
        | zero =>
          intro u t hu Ft hi ho
          have hN := th_N0 Ft.1 hn
          obtain rfl : u = n := by omega
          refine wp_ldi rfl tm_m0 ?_
          refine wp_lda rfl tm_m3 ?_
          refine wq_geti rfl rfl (f := 0) rfl rfl (Or.inl rfl) ?_
          rw [hN]
          refine wq_icge rfl (fun h39 => ?_) (fun h39 => absurd (nI_le (Nat.le_refl _) (by omega)) h39)
          refine wq_inc (c := 1) [(3, .int ((nI m) + 1)), (5, .int (nI u)), (4, .int (nI (th_im u S m 0 u))), (0, .ref 1), (1, .int (nI 0)), (2, .int (nI S))] rfl tm_m2 rfl rfl ?_
          refine wp_go rfl ?_
          rw [nI_1]
          rw [tg_Jn hf] at hi
          exact WP.less (ih (m + 1) t (by omega) (by omega) Ft hi ho) (by simp)
        | succ f2 ihf =>
          intro u t hu Ft hi ho
          have hN := th_N0 Ft.1 hn
          have li : th_im n S m u n < 2 ^ n := th_im_lt (by omega) n
          refine wp_ldi rfl tm_m0 ?_
          refine wp_lda rfl tm_m3 ?_
          refine wq_geti rfl rfl (f := 0) rfl rfl (Or.inl rfl) ?_
          rw [hN]
          refine wq_icge rfl (fun h39 => absurd h39 (nI_ge (by omega) (by omega))) (fun h39 => ?_)
          refine wp_lda rfl tm_m3 ?_
          refine wq_getr (p := 13) rfl rfl (f := 1) rfl rfl ?_
          refine wp_ldi rfl tm_m4 ?_
          refine wp_aald rfl rfl (nI_in (by decide) (by decide)) ?_
          rw [show (nI 0).toNatClampNeg = 0 from rfl]
          refine wp_ldi rfl tm_m1 ?_
          refine wp_ldi rfl tm_m0 ?_
          refine wp_lda rfl tm_m3 ?_
          refine wq_geti rfl rfl (f := 0) rfl rfl (Or.inl rfl) ?_
          rw [hN]
          refine wq_cals [.int (nI (th_im n S m 0 n)), .int (nI u), .int (nI n)] rfl rfl rfl rfl rfl rfl (th_trnd (by omega) lw (by omega)) ?_
          rintro _ _ ⟨rfl, rfl⟩
          rw [th_im_rot (by omega) (by omega)]
          refine wp_ldi rfl tm_m5 ?_
          refine wp_iast rfl rfl (nI_in (by omega) (by decide)) ?_
          refine wq_inc (c := 1) [(5, .int ((nI u) + 1)), (4, .int (nI (th_im n S m 0 n))), (3, .int (nI m)), (0, .ref 1), (1, .int (nI 0)), (2, .int (nI S))] rfl tm_m0 rfl rfl ?_
          refine wp_go rfl ?_
          rw [nI_1, nI_clamp (n := th_im n S m u n) (by omega)]
          refine WP.less (ihf (u + 1) _ (by omega) ⟨tv_TY_row Ft.1 (ty := ((-1), 4095)) (fun _ => rfl) (by rw [eS]; show (-1 : Int) ≤ _; omega) (by rw [eS]; show _ ≤ (4095 : Int); omega), tv_un_tr Ft.2 (tv_un_ar rfl rfl)⟩ (fun v => ?_) ho) (by simp)
          rw [tg_J1, tm_gI]
          by_cases e : v = th_im n S m u n
          · rw [if_pos ⟨rfl, e⟩, if_pos (by rw [e]; exact List.mem_append_right _ List.mem_cons_self)]
          · rw [if_neg (fun z => e z.2), hi v]
            by_cases c : v ∈ tg_J n 0 S m u
            · rw [if_pos c, if_pos (List.mem_append_left _ c)]
            · rw [if_neg c, if_neg (fun z => by
                rcases List.mem_append.mp z with z | z
                · exact c z
                · exact e (List.mem_singleton.mp z))]
      refine wp_ldi rfl tm_m0 ?_
      refine wp_lda rfl tm_m1 ?_
      refine wq_geti rfl rfl (f := 0) rfl rfl (Or.inl rfl) ?_
      rw [hN]
      refine wq_icge rfl (fun h7 => absurd h7 (nI_ge (by omega) (by omega))) (fun h7 => ?_)
      refine wp_lda rfl tm_m1 ?_
      refine wp_ldi rfl tm_m2 ?_
      refine wp_ldi rfl tm_m0 ?_
      refine wq_calv [.int (nI 0), .int (nI m)] rfl rfl rfl rfl rfl rfl rfl rfl rfl (th_xfac hN hn h3 (by decide)) ?_
      rintro r13 _ ⟨hr13, rfl⟩
      obtain ⟨z13, rfl, hz13, hn13⟩ : ∃ z : Int32, r13 = some (.int z) ∧ (¬ z = 0 → th_fP n 0 (nI m)) ∧ (z = 0 → ¬ th_fP n 0 (nI m)) := by
        rcases hr13 with ⟨rfl, g⟩ | ⟨rfl, g⟩
        · exact ⟨_, rfl, fun _ => g, fun e => absurd e (by decide)⟩
        · exact ⟨_, rfl, fun e => absurd rfl e, fun _ => g⟩
      refine wq_ifne rfl (fun h16 => ?_) (fun h16 => ?_)
      · refine wp_lda rfl tm_m1 ?_
        refine wp_ldi rfl tm_m3 ?_
        refine wp_ldi rfl tm_m0 ?_
        refine wq_calv [.int (nI S), .int (nI m)] rfl rfl rfl rfl rfl rfl rfl rfl rfl (th_mult hN hn hS (by omega)) ?_
        rintro _ _ ⟨rfl, rfl⟩
        refine wq_sti [(4, .int (nI (th_im n S m 0 n))), (3, .int (nI m)), (0, .ref 1), (1, .int (nI 0)), (2, .int (nI S))] rfl rfl ?_
        refine wq_con (x := nI 0) rfl (by decide) ?_
        refine wq_sti [(5, .int (nI 0)), (4, .int (nI (th_im n S m 0 n))), (3, .int (nI m)), (0, .ref 1), (1, .int (nI 0)), (2, .int (nI S))] rfl rfl ?_
        exact WP.less (k33 (hfi.mp (hz13 h16)) n 0 t (by omega) Ft (by rw [tg_J0]; exact hi) ho) (by simp)
      · refine wp_go rfl ?_
        refine wq_inc (c := 1) [(3, .int ((nI m) + 1)), (0, .ref 1), (1, .int (nI 0)), (2, .int (nI S))] rfl tm_m0 rfl rfl ?_
        refine wp_go rfl ?_
        rw [← tg_Is (n := n) (g := 0) (a := S) (m := m) (fun q => hn13 (Classical.not_not.mp h16) (hfi.mpr q))] at hi
        rw [nI_1]
        exact WP.less (ih (m + 1) t (by omega) (by omega) Ft hi ho) (by simp)
  show WP (d + 2) 17 0 [(0, .ref 1), (1, .int (nI 0)), (2, .int (nI S))] [] s _
  refine wq_con (x := nI 1) rfl (by decide) ?_
  refine wq_sti [(3, .int (nI 1)), (0, .ref 1), (1, .int (nI 0)), (2, .int (nI S))] rfl rfl ?_
  exact WP.less (k2 (n - 1) 1 s (by omega) (Nat.le_refl _) F (fun v => by rw [tg_I1, if_neg List.not_mem_nil]) ⟨rfl, rfl, rfl⟩) (by simp)
set_option maxRecDepth 100000 in
set_option maxHeartbeats 4000000 in
theorem tk_all0 {d n : Nat} {σ s : tm_S} (hn : n ≤ 12) (h3 : 3 ≤ n) (F : tk_F n σ s) (hM : tk_NM n s) : WM (d + 3) 15 [.ref 1, .int (nI 0)] s (fun q t => q = none ∧ tk_F n σ t ∧ tk_NM n t ∧ ∀ v : Nat, v < 2 ^ n → t.1 14 v = nI (tk_nm n 0 v)) := by
  have hp : 2 ^ n ≤ 4096 := Nat.pow_le_pow_right (n := 2) (by decide) hn
  have h1n : ((1 : Int32) <<< (nI n &&& 31)) = nI (2 ^ n) := th_p24 n (by omega)
  have k22 : ∀ (f S : Nat) (t : tm_S), S + f = 2 ^ n → tk_F n σ t → (∀ v : Nat, v < 2 ^ n → t.1 14 v = if tk_nm n 0 v < S then nI (tk_nm n 0 v) else -1) → (t.1 15 = s.1 15 ∧ t.1 16 = s.1 16 ∧ t.1 17 = s.1 17) → WP (d + 3) 15 22 [(2, .int (nI S)), (0, .ref 1), (1, .int (nI 0))] [] t (fun q t => q = none ∧ tk_F n σ t ∧ tk_NM n t ∧ ∀ v : Nat, v < 2 ^ n → t.1 14 v = nI (tk_nm n 0 v)) := by
    intro f
    induction f with
    | zero =>
      intro S t hS Ft hi ho
      have hN := th_N0 Ft.1 hn
      obtain rfl : S = 2 ^ n := by omega
      have hi2 : ∀ v : Nat, v < 2 ^ n → t.1 14 v = nI (tk_nm n 0 v) := fun v hv => by
        rw [hi v hv, if_pos (tk_lt h3 hv)]
      refine wp_ldi rfl tm_m0 ?_
      refine wq_con (x := 1) rfl (by decide) ?_
      refine wp_lda rfl tm_m1 ?_
      refine wq_geti rfl rfl (f := 0) rfl rfl (Or.inl rfl) ?_
      rw [hN]
      refine wq_ishl rfl ?_
      rw [h1n]
      refine wq_icge rfl (fun h29 => ?_) (fun h29 => absurd (nI_le (Nat.le_refl _) (by omega)) h29)
      refine wp_lda rfl tm_m1 ?_
      refine wq_getr (p := 17) rfl rfl (f := 2) rfl rfl ?_
      refine wp_ldi rfl tm_m2 ?_
      refine wq_con (x := 1) rfl (by decide) ?_
      refine wp_zast rfl rfl (nI_in (by decide) (by decide)) (Or.inr rfl) ?_
      rw [show (nI 0).toNatClampNeg = 0 from rfl]
      refine wp_retv rfl ⟨rfl, ⟨tv_TY_row Ft.1 (ty := (0, 1)) (fun _ => rfl) (by decide) (by decide), tv_un_tr Ft.2 (tv_un_ar rfl rfl)⟩, fun q hq h1 v hv => ?_, hi2⟩
      by_cases e : q = 0
      · subst e
        exact hi2 v hv
      · rw [tm_gI, if_neg (fun z => e z.2), ho.2.2] at h1
        have hh := hM q hq h1 v hv
        have eq : t.1 (14 + q) = s.1 (14 + q) := by
          rcases (by omega : q = 1 ∨ q = 2) with rfl | rfl
          · exact ho.1
          · exact ho.2.1
        rw [tm_gI, if_neg (fun z => absurd z.1 (by omega)), eq]
        exact hh
    | succ f ih =>
      intro S t hS Ft hi ho
      have hN := th_N0 Ft.1 hn
      have hSl : S < 2 ^ n := by omega
      have hle : tk_nm n 0 S ≤ S := tk_le
      refine wp_ldi rfl tm_m0 ?_
      refine wq_con (x := 1) rfl (by decide) ?_
      refine wp_lda rfl tm_m1 ?_
      refine wq_geti rfl rfl (f := 0) rfl rfl (Or.inl rfl) ?_
      rw [hN]
      refine wq_ishl rfl ?_
      rw [h1n]
      refine wq_icge rfl (fun h29 => absurd h29 (nI_ge (by omega) (by omega))) (fun h29 => ?_)
      refine wp_lda rfl tm_m1 ?_
      refine wq_getr (p := 13) rfl rfl (f := 1) rfl rfl ?_
      refine wp_ldi rfl tm_m2 ?_
      refine wp_aald rfl rfl (nI_in (by decide) (by decide)) ?_
      rw [show (nI 0).toNatClampNeg = 0 from rfl]
      refine wp_ldi rfl tm_m0 ?_
      refine wp_iald rfl rfl (nI_in (by omega) (by decide)) ?_
      rw [nI_clamp (n := S) (by omega)]
      refine wq_con (x := (-1)) rfl (by decide) ?_
      refine wq_icne rfl (fun h41 => ?_) (fun h41 => ?_)
      · refine wq_inc (c := 1) [(2, .int ((nI S) + 1)), (0, .ref 1), (1, .int (nI 0))] rfl tm_m0 rfl rfl ?_
        refine wp_go rfl ?_
        have hne : ¬ tk_nm n 0 S = S := fun e => h41 (by rw [hi S hSl, if_neg (by omega)])
        rw [nI_1]
        refine WP.less (ih (S + 1) t (by omega) Ft (fun v hv => ?_) ho) (by simp)
        rw [hi v hv]
        by_cases c : tk_nm n 0 v < S
        · rw [if_pos c, if_pos (by omega)]
        · rw [if_neg c, if_neg (fun z => hne ?_)]
          have e : tk_nm n 0 v = S := by omega
          have m := (tk_min (g := 0) h3 hv).1
          rw [e] at m
          exact (tk_eq hn h3 (by decide) hv m).trans e
      · refine wp_lda rfl tm_m1 ?_
        refine wp_ldi rfl tm_m2 ?_
        refine wp_ldi rfl tm_m0 ?_
        refine wq_calv [.int (nI 0), .int (nI S)] rfl rfl rfl rfl rfl rfl rfl rfl rfl (tk_cls0 hn h3 hSl Ft) ?_
        rintro _ t2 ⟨rfl, F2, C2, O2⟩
        refine wq_inc (c := 1) [(2, .int ((nI S) + 1)), (0, .ref 1), (1, .int (nI 0))] rfl tm_m0 rfl rfl ?_
        refine wp_go rfl ?_
        have hnm : tk_nm n 0 S = S := by
          rcases Nat.lt_or_ge (tk_nm n 0 S) S with c | c
          · have q := Classical.not_not.mp h41
            rw [hi S hSl, if_pos c] at q
            exact absurd q (tk_n1 (by omega))
          · omega
        rw [nI_1]
        refine WP.less (ih (S + 1) t2 (by omega) F2 (fun v hv => ?_) ⟨O2.1.trans ho.1, O2.2.1.trans ho.2.1, O2.2.2.trans ho.2.2⟩) (by simp)
        rw [C2 v]
        by_cases c : v ∈ tg_I n 0 S n
        · rw [if_pos c, tk_eq hn h3 (by decide) hSl c, hnm, if_pos (by omega)]
        · have c2 : ¬ tk_nm n 0 v = S := fun e => c ((tk_iff hn h3 (by decide) hSl hv).mp (e.trans hnm.symm))
          rw [if_neg c, hi v hv]
          by_cases c3 : tk_nm n 0 v < S
          · rw [if_pos c3, if_pos (by omega)]
          · rw [if_neg c3, if_neg (by omega)]
  show WP (d + 3) 15 0 [(0, .ref 1), (1, .int (nI 0))] [] s _
  refine wp_lda rfl tm_m0 ?_
  refine wq_getr (p := 17) rfl rfl (f := 2) rfl rfl ?_
  refine wp_ldi rfl tm_m1 ?_
  refine wp_zald rfl rfl (nI_in (by decide) (by decide)) ?_
  rw [show (nI 0).toNatClampNeg = 0 from rfl]
  refine wq_ifeq rfl (fun h6 => ?_) (fun h6 => ?_)
  · refine wp_lda rfl tm_m0 ?_
    refine wq_getr (p := 13) rfl rfl (f := 1) rfl rfl ?_
    refine wp_ldi rfl tm_m1 ?_
    refine wp_aald rfl rfl (nI_in (by decide) (by decide)) ?_
    rw [show (nI 0).toNatClampNeg = 0 from rfl]
    refine wq_con (x := (-1)) rfl (by decide) ?_
    refine wq_cals [.ref 14, .int ((-1))] rfl rfl rfl rfl rfl rfl (tk_fill0 F.1) ?_
    rintro _ t ⟨rfl, T1, U1, Z1⟩
    refine wq_con (x := nI 0) rfl (by decide) ?_
    refine wq_sti [(2, .int (nI 0)), (0, .ref 1), (1, .int (nI 0))] rfl rfl ?_
    refine WP.less (k22 (2 ^ n) 0 t (by omega) ⟨T1, tv_un_tr F.2 (tv_un_mo U1 (by decide))⟩ (fun v hv => ?_) ⟨(tv_un_a U1 (k := 15) rfl rfl).1, (tv_un_a U1 (k := 16) rfl rfl).1, (tv_un_a U1 (k := 17) rfl rfl).1⟩) (by simp)
    rw [Z1 v (by omega), if_neg (by omega)]
  · exact wp_retv rfl ⟨rfl, F, hM, fun v hv => hM 0 (by decide) h6 v hv⟩
set_option maxRecDepth 100000 in
set_option maxHeartbeats 4000000 in
theorem tk_li0 {d n S : Nat} {σ s : tm_S} (hn : n ≤ 12) (h3 : 3 ≤ n) (hS : S < 2 ^ n) (F : tk_F n σ s) (hM : tk_NM n s) : WM (d + 4) 14 [.ref 1, .int (nI 0), .int (nI S)] s (fun r t => r = some (.int (nI (tk_nm n 0 S))) ∧ tk_F n σ t ∧ tk_NM n t) := by
  have hp : 2 ^ n ≤ 4096 := Nat.pow_le_pow_right (n := 2) (by decide) hn
  show WP (d + 4) 14 0 [(0, .ref 1), (1, .int (nI 0)), (2, .int (nI S))] [] s _
  refine wp_lda rfl tm_m0 ?_
  refine wp_ldi rfl tm_m1 ?_
  refine wq_calv [.int (nI 0)] rfl rfl rfl rfl rfl rfl rfl rfl rfl (tk_all0 hn h3 F hM) ?_
  rintro _ t ⟨rfl, Ft, Mt, Vt⟩
  refine wp_lda rfl tm_m0 ?_
  refine wq_getr (p := 13) rfl rfl (f := 1) rfl rfl ?_
  refine wp_ldi rfl tm_m1 ?_
  refine wp_aald rfl rfl (nI_in (by decide) (by decide)) ?_
  rw [show (nI 0).toNatClampNeg = 0 from rfl]
  refine wp_ldi rfl tm_m2 ?_
  refine wp_iald rfl rfl (nI_in (by omega) (by decide)) ?_
  rw [nI_clamp (n := S) (by omega), Vt S hS]
  exact wp_reti rfl (th_nI rfl) ⟨rfl, Ft, Mt⟩
set_option maxRecDepth 100000 in
set_option maxHeartbeats 4000000 in
theorem tk_ins0 {d n K S : Nat} {σ : tm_S} (hn : n ≤ 12) (hK : K ≤ 12) (hS : S < 2 ^ n) (hV : ∀ v : Nat, v < 2 ^ n → σ.1 14 v = nI (tk_nm n 0 v)) : WM (d + 1) 24 [.ref 1, .int (nI 0), .int (nI K), .int (nI S)] σ (fun q σ' => ((q = some (.int 1) ∧ tk_is n 0 K S = true) ∨ (q = some (.int 0) ∧ ¬ tk_is n 0 K S = true)) ∧ σ = σ') := by
  have hp : 2 ^ n ≤ 4096 := Nat.pow_le_pow_right (n := 2) (by decide) hn
  have hle : tk_nm n 0 S ≤ S := tk_le
  have hl : th_po S n ≤ n := th_sm_le
  show WP (d + 1) 24 0 [(0, .ref 1), (1, .int (nI 0)), (2, .int (nI K)), (3, .int (nI S))] [] σ _
  refine wp_lda rfl tm_m0 ?_
  refine wq_getr (p := 13) rfl rfl (f := 1) rfl rfl ?_
  refine wp_ldi rfl tm_m1 ?_
  refine wp_aald rfl rfl (nI_in (by decide) (by decide)) ?_
  rw [show (nI 0).toNatClampNeg = 0 from rfl]
  refine wp_ldi rfl tm_m3 ?_
  refine wp_iald rfl rfl (nI_in (by omega) (by decide)) ?_
  rw [nI_clamp (n := S) (by omega), hV S hS]
  refine wp_ldi rfl tm_m3 ?_
  refine wq_icne rfl (fun h9 => ?_) (fun h9 => ?_)
  · refine wq_con (x := 0) rfl (by decide) ?_
    refine wp_reti rfl (th_n0 rfl) ⟨Or.inr ⟨rfl, fun hk => ?_⟩, rfl⟩
    unfold tk_is at hk
    rw [Bool.and_eq_true, decide_eq_true_eq, decide_eq_true_eq] at hk
    first | exact h17 (by rw [hk.2]) | exact h9 (by rw [hk.1])
  · refine wp_ldi rfl tm_m3 ?_
    refine wq_cals [.int (nI S)] rfl rfl rfl rfl rfl rfl (th_bitCount (nI S) (Q := th_is (.int (nI (th_po S n))) σ) ⟨by rw [th_bn (by omega), th_po12 hn hS], rfl⟩) ?_
    rintro _ _ ⟨rfl, rfl⟩
    refine wp_ldi rfl tm_m2 ?_
    refine wq_icne rfl (fun h17 => ?_) (fun h17 => ?_)
    · refine wq_con (x := 0) rfl (by decide) ?_
      refine wp_reti rfl (th_n0 rfl) ⟨Or.inr ⟨rfl, fun hk => ?_⟩, rfl⟩
      unfold tk_is at hk
      rw [Bool.and_eq_true, decide_eq_true_eq, decide_eq_true_eq] at hk
      first | exact h17 (by rw [hk.2]) | exact h9 (by rw [hk.1])
    · refine wq_con (x := 1) rfl (by decide) ?_
      refine wp_go rfl ?_
      exact wp_reti rfl (th_n1 rfl) ⟨Or.inl ⟨rfl, by unfold tk_is; rw [(nI_eq (by omega) (by omega)).mp (Classical.not_not.mp h9), (nI_eq (by omega) (by omega)).mp (Classical.not_not.mp h17)]; simp⟩, rfl⟩
set_option maxRecDepth 100000 in
set_option maxHeartbeats 4000000 in
theorem tk_cn0 {d n K : Nat} {σ s : tm_S} (hn : n ≤ 12) (h3 : 3 ≤ n) (hK : K ≤ 12) (F : tk_F n σ s) (hM : tk_NM n s) : WM (d + 4) 23 [.ref 1, .int (nI 0), .int (nI K)] s (fun r t => r = some (.int (nI (th_sm (tk_is n 0 K) (2 ^ n)))) ∧ tk_F n σ t ∧ tk_NM n t) := by
  have hp : 2 ^ n ≤ 4096 := Nat.pow_le_pow_right (n := 2) (by decide) hn
  have h1n : ((1 : Int32) <<< (nI n &&& 31)) = nI (2 ^ n) := th_p24 n (by omega)
  have k10 : ∀ (t : tm_S), tk_F n σ t → tk_NM n t → (∀ v : Nat, v < 2 ^ n → t.1 14 v = nI (tk_nm n 0 v)) → ∀ f S : Nat, S + f = 2 ^ n → WP (d + 4) 23 10 [(4, .int (nI S)), (3, .int (nI (th_sm (tk_is n 0 K) S))), (0, .ref 1), (1, .int (nI 0)), (2, .int (nI K))] [] t (fun r t => r = some (.int (nI (th_sm (tk_is n 0 K) (2 ^ n)))) ∧ tk_F n σ t ∧ tk_NM n t) := by
    intro t Ft Mt Vt f
    have hN := th_N0 Ft.1 hn
    induction f with
    | zero =>
      intro S hS
      obtain rfl : S = 2 ^ n := by omega
      refine wp_ldi rfl tm_m0 ?_
      refine wq_con (x := 1) rfl (by decide) ?_
      refine wp_lda rfl tm_m2 ?_
      refine wq_geti rfl rfl (f := 0) rfl rfl (Or.inl rfl) ?_
      rw [hN]
      refine wq_ishl rfl ?_
      rw [h1n]
      refine wq_icge rfl (fun h18 => ?_) (fun h18 => absurd (nI_le (Nat.le_refl _) (by omega)) h18)
      refine wp_ldi rfl tm_m1 ?_
      exact wp_reti rfl (th_nI rfl) ⟨rfl, Ft, Mt⟩
    | succ f ih =>
      intro S hS
      have e : th_sm (tk_is n 0 K) (S + 1) = th_sm (tk_is n 0 K) S + bif tk_is n 0 K S then 1 else 0 := rfl
      refine wp_ldi rfl tm_m0 ?_
      refine wq_con (x := 1) rfl (by decide) ?_
      refine wp_lda rfl tm_m2 ?_
      refine wq_geti rfl rfl (f := 0) rfl rfl (Or.inl rfl) ?_
      rw [hN]
      refine wq_ishl rfl ?_
      rw [h1n]
      refine wq_icge rfl (fun h18 => absurd h18 (nI_ge (by omega) (by omega))) (fun h18 => ?_)
      refine wp_lda rfl tm_m2 ?_
      refine wp_ldi rfl tm_m3 ?_
      refine wp_ldi rfl tm_m4 ?_
      refine wp_ldi rfl tm_m0 ?_
      refine wq_calv [.int (nI 0), .int (nI K), .int (nI S)] rfl rfl rfl rfl rfl rfl rfl rfl rfl (tk_ins0 hn hK (by omega) Vt) ?_
      rintro r26 _ ⟨hr26, rfl⟩
      obtain ⟨z26, rfl, hz26, hn26⟩ : ∃ z : Int32, r26 = some (.int z) ∧ (¬ z = 0 → tk_is n 0 K S = true) ∧ (z = 0 → ¬ tk_is n 0 K S = true) := by
        rcases hr26 with ⟨rfl, g⟩ | ⟨rfl, g⟩
        · exact ⟨_, rfl, fun _ => g, fun e => absurd e (by decide)⟩
        · exact ⟨_, rfl, fun e => absurd rfl e, fun _ => g⟩
      refine wq_ifeq rfl (fun h29 => ?_) (fun h29 => ?_)
      · refine wq_inc (c := 1) [(4, .int ((nI S) + 1)), (3, .int (nI (th_sm (tk_is n 0 K) S))), (0, .ref 1), (1, .int (nI 0)), (2, .int (nI K))] rfl tm_m0 rfl rfl ?_
        refine wp_go rfl ?_
        rw [Bool.eq_false_iff.mpr (hn26 h29)] at e
        rw [nI_1, show th_sm (tk_is n 0 K) S = th_sm (tk_is n 0 K) (S + 1) from e.symm]
        exact WP.less (ih (S + 1) (by omega)) (by simp)
      · refine wq_inc (c := 1) [(3, .int ((nI (th_sm (tk_is n 0 K) S)) + 1)), (4, .int (nI S)), (0, .ref 1), (1, .int (nI 0)), (2, .int (nI K))] rfl tm_m1 rfl rfl ?_
        refine wq_inc (c := 1) [(4, .int ((nI S) + 1)), (3, .int ((nI (th_sm (tk_is n 0 K) S)) + 1)), (0, .ref 1), (1, .int (nI 0)), (2, .int (nI K))] rfl tm_m1 rfl rfl ?_
        refine wp_go rfl ?_
        rw [hz26 h29] at e
        rw [nI_1, nI_1, show th_sm (tk_is n 0 K) S + 1 = th_sm (tk_is n 0 K) (S + 1) from e.symm]
        exact WP.less (ih (S + 1) (by omega)) (by simp)
  show WP (d + 4) 23 0 [(0, .ref 1), (1, .int (nI 0)), (2, .int (nI K))] [] s _
  refine wp_lda rfl tm_m0 ?_
  refine wp_ldi rfl tm_m1 ?_
  refine wq_calv [.int (nI 0)] rfl rfl rfl rfl rfl rfl rfl rfl rfl (tk_all0 hn h3 F hM) ?_
  rintro _ t ⟨rfl, Ft, Mt, Vt⟩
  refine wq_con (x := nI 0) rfl (by decide) ?_
  refine wq_sti [(3, .int (nI 0)), (0, .ref 1), (1, .int (nI 0)), (2, .int (nI K))] rfl rfl ?_
  refine wq_con (x := nI 0) rfl (by decide) ?_
  refine wq_sti [(4, .int (nI 0)), (3, .int (nI 0)), (0, .ref 1), (1, .int (nI 0)), (2, .int (nI K))] rfl rfl ?_
  exact WP.less (k10 t Ft Mt Vt (2 ^ n) 0 (by omega)) (by simp [th_sm])
set_option maxRecDepth 100000 in
set_option maxHeartbeats 4000000 in
theorem tk_fn0 {d n K I : Nat} {σ s : tm_S} (hn : n ≤ 12) (h3 : 3 ≤ n) (hK : K ≤ 12) (hI : I < 2 ^ 31) (F : tk_F n σ s) (hM : tk_NM n s) : WM (d + 4) 27 [.ref 1, .int (nI 0), .int (nI K), .int (nI I)] s (fun r t => (∃ z : Int32, r = some (.int z) ∧ tk_fd n 0 K I z) ∧ tk_F n σ t ∧ tk_NM n t) := by
  have hp : 2 ^ n ≤ 4096 := Nat.pow_le_pow_right (n := 2) (by decide) hn
  have h1n : ((1 : Int32) <<< (nI n &&& 31)) = nI (2 ^ n) := th_p24 n (by omega)
  have k11 : ∀ (t : tm_S), tk_F n σ t → tk_NM n t → (∀ v : Nat, v < 2 ^ n → t.1 14 v = nI (tk_nm n 0 v)) → ∀ f S : Nat, S + f = 2 ^ n → th_sm (tk_is n 0 K) S ≤ I → WP (d + 4) 27 11 [(5, .int (nI S)), (4, .int (nI (th_sm (tk_is n 0 K) S))), (0, .ref 1), (1, .int (nI 0)), (2, .int (nI K)), (3, .int (nI I))] [] t (fun r t => (∃ z : Int32, r = some (.int z) ∧ tk_fd n 0 K I z) ∧ tk_F n σ t ∧ tk_NM n t) := by
    intro t Ft Mt Vt f
    have hN := th_N0 Ft.1 hn
    induction f with
    | zero =>
      intro S hS hle
      obtain rfl : S = 2 ^ n := by omega
      refine wp_ldi rfl tm_m0 ?_
      refine wq_con (x := 1) rfl (by decide) ?_
      refine wp_lda rfl tm_m2 ?_
      refine wq_geti rfl rfl (f := 0) rfl rfl (Or.inl rfl) ?_
      rw [hN]
      refine wq_ishl rfl ?_
      rw [h1n]
      refine wq_icge rfl (fun h19 => ?_) (fun h19 => absurd (nI_le (Nat.le_refl _) (by omega)) h19)
      refine wq_con (x := (-1)) rfl (by decide) ?_
      exact wp_reti rfl (th_nI rfl) ⟨⟨_, rfl, Or.inr ⟨rfl, hle⟩⟩, Ft, Mt⟩
    | succ f ih =>
      intro S hS hle
      have lm : th_sm (tk_is n 0 K) S ≤ S := th_sm_le
      have e : th_sm (tk_is n 0 K) (S + 1) = th_sm (tk_is n 0 K) S + bif tk_is n 0 K S then 1 else 0 := rfl
      refine wp_ldi rfl tm_m0 ?_
      refine wq_con (x := 1) rfl (by decide) ?_
      refine wp_lda rfl tm_m2 ?_
      refine wq_geti rfl rfl (f := 0) rfl rfl (Or.inl rfl) ?_
      rw [hN]
      refine wq_ishl rfl ?_
      rw [h1n]
      refine wq_icge rfl (fun h19 => absurd h19 (nI_ge (by omega) (by omega))) (fun h19 => ?_)
      refine wp_lda rfl tm_m2 ?_
      refine wp_ldi rfl tm_m3 ?_
      refine wp_ldi rfl tm_m4 ?_
      refine wp_ldi rfl tm_m0 ?_
      refine wq_calv [.int (nI 0), .int (nI K), .int (nI S)] rfl rfl rfl rfl rfl rfl rfl rfl rfl (tk_ins0 hn hK (by omega) Vt) ?_
      rintro r27 _ ⟨hr27, rfl⟩
      obtain ⟨z27, rfl, hz27, hn27⟩ : ∃ z : Int32, r27 = some (.int z) ∧ (¬ z = 0 → tk_is n 0 K S = true) ∧ (z = 0 → ¬ tk_is n 0 K S = true) := by
        rcases hr27 with ⟨rfl, g⟩ | ⟨rfl, g⟩
        · exact ⟨_, rfl, fun _ => g, fun e => absurd e (by decide)⟩
        · exact ⟨_, rfl, fun e => absurd rfl e, fun _ => g⟩
      refine wq_ifeq rfl (fun h30 => ?_) (fun h30 => ?_)
      · refine wq_inc (c := 1) [(5, .int ((nI S) + 1)), (4, .int (nI (th_sm (tk_is n 0 K) S))), (0, .ref 1), (1, .int (nI 0)), (2, .int (nI K)), (3, .int (nI I))] rfl tm_m0 rfl rfl ?_
        refine wp_go rfl ?_
        rw [Bool.eq_false_iff.mpr (hn27 h30)] at e
        rw [nI_1, show th_sm (tk_is n 0 K) S = th_sm (tk_is n 0 K) (S + 1) from e.symm]
        exact WP.less (ih (S + 1) (by omega) (by rw [e]; exact hle)) (by simp)
      · refine wp_ldi rfl tm_m1 ?_
        refine wp_ldi rfl tm_m5 ?_
        refine wq_icne rfl (fun h36 => ?_) (fun h36 => ?_)
        · refine wq_inc (c := 1) [(4, .int ((nI (th_sm (tk_is n 0 K) S)) + 1)), (5, .int (nI S)), (0, .ref 1), (1, .int (nI 0)), (2, .int (nI K)), (3, .int (nI I))] rfl tm_m1 rfl rfl ?_
          refine wq_inc (c := 1) [(5, .int ((nI S) + 1)), (4, .int ((nI (th_sm (tk_is n 0 K) S)) + 1)), (0, .ref 1), (1, .int (nI 0)), (2, .int (nI K)), (3, .int (nI I))] rfl tm_m1 rfl rfl ?_
          refine wp_go rfl ?_
          have hne : ¬ th_sm (tk_is n 0 K) S = I := fun q => h36 (by rw [q])
          rw [hz27 h30] at e
          rw [nI_1, nI_1, show th_sm (tk_is n 0 K) S + 1 = th_sm (tk_is n 0 K) (S + 1) from e.symm]
          exact WP.less (ih (S + 1) (by omega) (by rw [e]; show _ + 1 ≤ I; omega)) (by simp)
        · refine wp_ldi rfl tm_m0 ?_
          exact wp_reti rfl (th_nI rfl) ⟨⟨_, rfl, Or.inl ⟨S, rfl, by omega, hz27 h30, (nI_eq (by omega) hI).mp (Classical.not_not.mp h36)⟩⟩, Ft, Mt⟩
  show WP (d + 4) 27 0 [(0, .ref 1), (1, .int (nI 0)), (2, .int (nI K)), (3, .int (nI I))] [] s _
  refine wp_lda rfl tm_m0 ?_
  refine wp_ldi rfl tm_m1 ?_
  refine wq_calv [.int (nI 0)] rfl rfl rfl rfl rfl rfl rfl rfl rfl (tk_all0 hn h3 F hM) ?_
  rintro _ t ⟨rfl, Ft, Mt, Vt⟩
  refine wq_con (x := nI 0) rfl (by decide) ?_
  refine wq_sti [(4, .int (nI 0)), (0, .ref 1), (1, .int (nI 0)), (2, .int (nI K)), (3, .int (nI I))] rfl rfl ?_
  refine wq_con (x := nI 0) rfl (by decide) ?_
  refine wq_sti [(5, .int (nI 0)), (4, .int (nI 0)), (0, .ref 1), (1, .int (nI 0)), (2, .int (nI K)), (3, .int (nI I))] rfl rfl ?_
  exact WP.less (k11 t Ft Mt Vt (2 ^ n) 0 (by omega) (Nat.zero_le _)) (by simp [th_sm])
set_option maxRecDepth 100000 in
set_option maxHeartbeats 4000000 in
theorem tk_cls1 {d n S : Nat} {σ s : tm_S} (hn : n ≤ 12) (h3 : 3 ≤ n) (hS : S < 2 ^ n) (F : tk_F n σ s) : WM (d + 2) 17 [.ref 1, .int (nI 1), .int (nI S)] s (fun q t => q = none ∧ tk_F n σ t ∧ (∀ v : Nat, t.1 15 v = if v ∈ tg_I n 1 S n then nI S else s.1 15 v) ∧ (t.1 14 = s.1 14 ∧ t.1 16 = s.1 16 ∧ t.1 17 = s.1 17)) := by
  have hp : 2 ^ n ≤ 4096 := Nat.pow_le_pow_right (n := 2) (by decide) hn
  have eS : (nI S).toInt = S := nI_toInt (by omega)
  have k2 : ∀ (f m : Nat) (t : tm_S), m + f = n → 1 ≤ m → tk_F n σ t → (∀ v : Nat, t.1 15 v = if v ∈ tg_I n 1 S m then nI S else s.1 15 v) → (t.1 14 = s.1 14 ∧ t.1 16 = s.1 16 ∧ t.1 17 = s.1 17) → WP (d + 2) 17 2 [(3, .int (nI m)), (0, .ref 1), (1, .int (nI 1)), (2, .int (nI S))] [] t (fun q t => q = none ∧ tk_F n σ t ∧ (∀ v : Nat, t.1 15 v = if v ∈ tg_I n 1 S n then nI S else s.1 15 v) ∧ (t.1 14 = s.1 14 ∧ t.1 16 = s.1 16 ∧ t.1 17 = s.1 17)) := by
    intro f
    induction f with
    | zero =>
      intro m t hm h1 Ft hi ho
      obtain rfl : m = n := by omega
      have hN := th_N0 Ft.1 hn
      refine wp_ldi rfl tm_m0 ?_
      refine wp_lda rfl tm_m1 ?_
      refine wq_geti rfl rfl (f := 0) rfl rfl (Or.inl rfl) ?_
      rw [hN]
      refine wq_icge rfl (fun h7 => ?_) (fun h7 => absurd (nI_le (Nat.le_refl _) (by omega)) h7)
      exact wp_retv rfl ⟨rfl, Ft, hi, ho⟩
    | succ f ih =>
      intro m t hm h1 Ft hi ho
      have hN := th_N0 Ft.1 hn
      have hfi := th_fP_iff (g := 1) (m := m) hn (by omega)
      have lw : th_im n S m 0 n < 2 ^ n := th_im_lt (by omega) n
      have k33 : th_fac n 1 m = true → ∀ (f2 u : Nat) (t : tm_S), u + f2 = n → tk_F n σ t → (∀ v : Nat, t.1 15 v = if v ∈ tg_J n 1 S m u then nI S else s.1 15 v) → (t.1 14 = s.1 14 ∧ t.1 16 = s.1 16 ∧ t.1 17 = s.1 17) → WP (d + 2) 17 33 [(5, .int (nI u)), (4, .int (nI (th_im n S m 0 n))), (3, .int (nI m)), (0, .ref 1), (1, .int (nI 1)), (2, .int (nI S))] [] t (fun q t => q = none ∧ tk_F n σ t ∧ (∀ v : Nat, t.1 15 v = if v ∈ tg_I n 1 S n then nI S else s.1 15 v) ∧ (t.1 14 = s.1 14 ∧ t.1 16 = s.1 16 ∧ t.1 17 = s.1 17)) := by
        intro hf f2
        induction f2 with
        | zero =>
          intro u t hu Ft hi ho
          have hN := th_N0 Ft.1 hn
          obtain rfl : u = n := by omega
          refine wp_ldi rfl tm_m0 ?_
          refine wp_lda rfl tm_m3 ?_
          refine wq_geti rfl rfl (f := 0) rfl rfl (Or.inl rfl) ?_
          rw [hN]
          refine wq_icge rfl (fun h39 => ?_) (fun h39 => absurd (nI_le (Nat.le_refl _) (by omega)) h39)
          refine wq_inc (c := 1) [(3, .int ((nI m) + 1)), (5, .int (nI u)), (4, .int (nI (th_im u S m 0 u))), (0, .ref 1), (1, .int (nI 1)), (2, .int (nI S))] rfl tm_m2 rfl rfl ?_
          refine wp_go rfl ?_
          rw [nI_1]
          rw [tg_Jn hf] at hi
          exact WP.less (ih (m + 1) t (by omega) (by omega) Ft hi ho) (by simp)
        | succ f2 ihf =>
          intro u t hu Ft hi ho
          have hN := th_N0 Ft.1 hn
          have li : th_im n S m u n < 2 ^ n := th_im_lt (by omega) n
          refine wp_ldi rfl tm_m0 ?_
          refine wp_lda rfl tm_m3 ?_
          refine wq_geti rfl rfl (f := 0) rfl rfl (Or.inl rfl) ?_
          rw [hN]
          refine wq_icge rfl (fun h39 => absurd h39 (nI_ge (by omega) (by omega))) (fun h39 => ?_)
          refine wp_lda rfl tm_m3 ?_
          refine wq_getr (p := 13) rfl rfl (f := 1) rfl rfl ?_
          refine wp_ldi rfl tm_m4 ?_
          refine wp_aald rfl rfl (nI_in (by decide) (by decide)) ?_
          rw [show (nI 1).toNatClampNeg = 1 from rfl]
          refine wp_ldi rfl tm_m1 ?_
          refine wp_ldi rfl tm_m0 ?_
          refine wp_lda rfl tm_m3 ?_
          refine wq_geti rfl rfl (f := 0) rfl rfl (Or.inl rfl) ?_
          rw [hN]
          refine wq_cals [.int (nI (th_im n S m 0 n)), .int (nI u), .int (nI n)] rfl rfl rfl rfl rfl rfl (th_trnd (by omega) lw (by omega)) ?_
          rintro _ _ ⟨rfl, rfl⟩
          rw [th_im_rot (by omega) (by omega)]
          refine wp_ldi rfl tm_m5 ?_
          refine wp_iast rfl rfl (nI_in (by omega) (by decide)) ?_
          refine wq_inc (c := 1) [(5, .int ((nI u) + 1)), (4, .int (nI (th_im n S m 0 n))), (3, .int (nI m)), (0, .ref 1), (1, .int (nI 1)), (2, .int (nI S))] rfl tm_m0 rfl rfl ?_
          refine wp_go rfl ?_
          rw [nI_1, nI_clamp (n := th_im n S m u n) (by omega)]
          refine WP.less (ihf (u + 1) _ (by omega) ⟨tv_TY_row Ft.1 (ty := ((-1), 4095)) (fun _ => rfl) (by rw [eS]; show (-1 : Int) ≤ _; omega) (by rw [eS]; show _ ≤ (4095 : Int); omega), tv_un_tr Ft.2 (tv_un_ar rfl rfl)⟩ (fun v => ?_) ho) (by simp)
          rw [tg_J1, tm_gI]
          by_cases e : v = th_im n S m u n
          · rw [if_pos ⟨rfl, e⟩, if_pos (by rw [e]; exact List.mem_append_right _ List.mem_cons_self)]
          · rw [if_neg (fun z => e z.2), hi v]
            by_cases c : v ∈ tg_J n 1 S m u
            · rw [if_pos c, if_pos (List.mem_append_left _ c)]
            · rw [if_neg c, if_neg (fun z => by
                rcases List.mem_append.mp z with z | z
                · exact c z
                · exact e (List.mem_singleton.mp z))]
      refine wp_ldi rfl tm_m0 ?_
      refine wp_lda rfl tm_m1 ?_
      refine wq_geti rfl rfl (f := 0) rfl rfl (Or.inl rfl) ?_
      rw [hN]
      refine wq_icge rfl (fun h7 => absurd h7 (nI_ge (by omega) (by omega))) (fun h7 => ?_)
      refine wp_lda rfl tm_m1 ?_
      refine wp_ldi rfl tm_m2 ?_
      refine wp_ldi rfl tm_m0 ?_
      refine wq_calv [.int (nI 1), .int (nI m)] rfl rfl rfl rfl rfl rfl rfl rfl rfl (th_xfac hN hn h3 (by decide)) ?_
      rintro r13 _ ⟨hr13, rfl⟩
      obtain ⟨z13, rfl, hz13, hn13⟩ : ∃ z : Int32, r13 = some (.int z) ∧ (¬ z = 0 → th_fP n 1 (nI m)) ∧ (z = 0 → ¬ th_fP n 1 (nI m)) := by
        rcases hr13 with ⟨rfl, g⟩ | ⟨rfl, g⟩
        · exact ⟨_, rfl, fun _ => g, fun e => absurd e (by decide)⟩
        · exact ⟨_, rfl, fun e => absurd rfl e, fun _ => g⟩
      refine wq_ifne rfl (fun h16 => ?_) (fun h16 => ?_)
      · refine wp_lda rfl tm_m1 ?_
        refine wp_ldi rfl tm_m3 ?_
        refine wp_ldi rfl tm_m0 ?_
        refine wq_calv [.int (nI S), .int (nI m)] rfl rfl rfl rfl rfl rfl rfl rfl rfl (th_mult hN hn hS (by omega)) ?_
        rintro _ _ ⟨rfl, rfl⟩
        refine wq_sti [(4, .int (nI (th_im n S m 0 n))), (3, .int (nI m)), (0, .ref 1), (1, .int (nI 1)), (2, .int (nI S))] rfl rfl ?_
        refine wq_con (x := nI 0) rfl (by decide) ?_
        refine wq_sti [(5, .int (nI 0)), (4, .int (nI (th_im n S m 0 n))), (3, .int (nI m)), (0, .ref 1), (1, .int (nI 1)), (2, .int (nI S))] rfl rfl ?_
        exact WP.less (k33 (hfi.mp (hz13 h16)) n 0 t (by omega) Ft (by rw [tg_J0]; exact hi) ho) (by simp)
      · refine wp_go rfl ?_
        refine wq_inc (c := 1) [(3, .int ((nI m) + 1)), (0, .ref 1), (1, .int (nI 1)), (2, .int (nI S))] rfl tm_m0 rfl rfl ?_
        refine wp_go rfl ?_
        rw [← tg_Is (n := n) (g := 1) (a := S) (m := m) (fun q => hn13 (Classical.not_not.mp h16) (hfi.mpr q))] at hi
        rw [nI_1]
        exact WP.less (ih (m + 1) t (by omega) (by omega) Ft hi ho) (by simp)
  show WP (d + 2) 17 0 [(0, .ref 1), (1, .int (nI 1)), (2, .int (nI S))] [] s _
  refine wq_con (x := nI 1) rfl (by decide) ?_
  refine wq_sti [(3, .int (nI 1)), (0, .ref 1), (1, .int (nI 1)), (2, .int (nI S))] rfl rfl ?_
  exact WP.less (k2 (n - 1) 1 s (by omega) (Nat.le_refl _) F (fun v => by rw [tg_I1, if_neg List.not_mem_nil]) ⟨rfl, rfl, rfl⟩) (by simp)
set_option maxRecDepth 100000 in
set_option maxHeartbeats 4000000 in
theorem tk_all1 {d n : Nat} {σ s : tm_S} (hn : n ≤ 12) (h3 : 3 ≤ n) (F : tk_F n σ s) (hM : tk_NM n s) : WM (d + 3) 15 [.ref 1, .int (nI 1)] s (fun q t => q = none ∧ tk_F n σ t ∧ tk_NM n t ∧ ∀ v : Nat, v < 2 ^ n → t.1 15 v = nI (tk_nm n 1 v)) := by
  have hp : 2 ^ n ≤ 4096 := Nat.pow_le_pow_right (n := 2) (by decide) hn
  have h1n : ((1 : Int32) <<< (nI n &&& 31)) = nI (2 ^ n) := th_p24 n (by omega)
  have k22 : ∀ (f S : Nat) (t : tm_S), S + f = 2 ^ n → tk_F n σ t → (∀ v : Nat, v < 2 ^ n → t.1 15 v = if tk_nm n 1 v < S then nI (tk_nm n 1 v) else -1) → (t.1 14 = s.1 14 ∧ t.1 16 = s.1 16 ∧ t.1 17 = s.1 17) → WP (d + 3) 15 22 [(2, .int (nI S)), (0, .ref 1), (1, .int (nI 1))] [] t (fun q t => q = none ∧ tk_F n σ t ∧ tk_NM n t ∧ ∀ v : Nat, v < 2 ^ n → t.1 15 v = nI (tk_nm n 1 v)) := by
    intro f
    induction f with
    | zero =>
      intro S t hS Ft hi ho
      have hN := th_N0 Ft.1 hn
      obtain rfl : S = 2 ^ n := by omega
      have hi2 : ∀ v : Nat, v < 2 ^ n → t.1 15 v = nI (tk_nm n 1 v) := fun v hv => by
        rw [hi v hv, if_pos (tk_lt h3 hv)]
      refine wp_ldi rfl tm_m0 ?_
      refine wq_con (x := 1) rfl (by decide) ?_
      refine wp_lda rfl tm_m1 ?_
      refine wq_geti rfl rfl (f := 0) rfl rfl (Or.inl rfl) ?_
      rw [hN]
      refine wq_ishl rfl ?_
      rw [h1n]
      refine wq_icge rfl (fun h29 => ?_) (fun h29 => absurd (nI_le (Nat.le_refl _) (by omega)) h29)
      refine wp_lda rfl tm_m1 ?_
      refine wq_getr (p := 17) rfl rfl (f := 2) rfl rfl ?_
      refine wp_ldi rfl tm_m2 ?_
      refine wq_con (x := 1) rfl (by decide) ?_
      refine wp_zast rfl rfl (nI_in (by decide) (by decide)) (Or.inr rfl) ?_
      rw [show (nI 1).toNatClampNeg = 1 from rfl]
      refine wp_retv rfl ⟨rfl, ⟨tv_TY_row Ft.1 (ty := (0, 1)) (fun _ => rfl) (by decide) (by decide), tv_un_tr Ft.2 (tv_un_ar rfl rfl)⟩, fun q hq h1 v hv => ?_, hi2⟩
      by_cases e : q = 1
      · subst e
        exact hi2 v hv
      · rw [tm_gI, if_neg (fun z => e z.2), ho.2.2] at h1
        have hh := hM q hq h1 v hv
        have eq : t.1 (14 + q) = s.1 (14 + q) := by
          rcases (by omega : q = 0 ∨ q = 2) with rfl | rfl
          · exact ho.1
          · exact ho.2.1
        rw [tm_gI, if_neg (fun z => absurd z.1 (by omega)), eq]
        exact hh
    | succ f ih =>
      intro S t hS Ft hi ho
      have hN := th_N0 Ft.1 hn
      have hSl : S < 2 ^ n := by omega
      have hle : tk_nm n 1 S ≤ S := tk_le
      refine wp_ldi rfl tm_m0 ?_
      refine wq_con (x := 1) rfl (by decide) ?_
      refine wp_lda rfl tm_m1 ?_
      refine wq_geti rfl rfl (f := 0) rfl rfl (Or.inl rfl) ?_
      rw [hN]
      refine wq_ishl rfl ?_
      rw [h1n]
      refine wq_icge rfl (fun h29 => absurd h29 (nI_ge (by omega) (by omega))) (fun h29 => ?_)
      refine wp_lda rfl tm_m1 ?_
      refine wq_getr (p := 13) rfl rfl (f := 1) rfl rfl ?_
      refine wp_ldi rfl tm_m2 ?_
      refine wp_aald rfl rfl (nI_in (by decide) (by decide)) ?_
      rw [show (nI 1).toNatClampNeg = 1 from rfl]
      refine wp_ldi rfl tm_m0 ?_
      refine wp_iald rfl rfl (nI_in (by omega) (by decide)) ?_
      rw [nI_clamp (n := S) (by omega)]
      refine wq_con (x := (-1)) rfl (by decide) ?_
      refine wq_icne rfl (fun h41 => ?_) (fun h41 => ?_)
      · refine wq_inc (c := 1) [(2, .int ((nI S) + 1)), (0, .ref 1), (1, .int (nI 1))] rfl tm_m0 rfl rfl ?_
        refine wp_go rfl ?_
        have hne : ¬ tk_nm n 1 S = S := fun e => h41 (by rw [hi S hSl, if_neg (by omega)])
        rw [nI_1]
        refine WP.less (ih (S + 1) t (by omega) Ft (fun v hv => ?_) ho) (by simp)
        rw [hi v hv]
        by_cases c : tk_nm n 1 v < S
        · rw [if_pos c, if_pos (by omega)]
        · rw [if_neg c, if_neg (fun z => hne ?_)]
          have e : tk_nm n 1 v = S := by omega
          have m := (tk_min (g := 1) h3 hv).1
          rw [e] at m
          exact (tk_eq hn h3 (by decide) hv m).trans e
      · refine wp_lda rfl tm_m1 ?_
        refine wp_ldi rfl tm_m2 ?_
        refine wp_ldi rfl tm_m0 ?_
        refine wq_calv [.int (nI 1), .int (nI S)] rfl rfl rfl rfl rfl rfl rfl rfl rfl (tk_cls1 hn h3 hSl Ft) ?_
        rintro _ t2 ⟨rfl, F2, C2, O2⟩
        refine wq_inc (c := 1) [(2, .int ((nI S) + 1)), (0, .ref 1), (1, .int (nI 1))] rfl tm_m0 rfl rfl ?_
        refine wp_go rfl ?_
        have hnm : tk_nm n 1 S = S := by
          rcases Nat.lt_or_ge (tk_nm n 1 S) S with c | c
          · have q := Classical.not_not.mp h41
            rw [hi S hSl, if_pos c] at q
            exact absurd q (tk_n1 (by omega))
          · omega
        rw [nI_1]
        refine WP.less (ih (S + 1) t2 (by omega) F2 (fun v hv => ?_) ⟨O2.1.trans ho.1, O2.2.1.trans ho.2.1, O2.2.2.trans ho.2.2⟩) (by simp)
        rw [C2 v]
        by_cases c : v ∈ tg_I n 1 S n
        · rw [if_pos c, tk_eq hn h3 (by decide) hSl c, hnm, if_pos (by omega)]
        · have c2 : ¬ tk_nm n 1 v = S := fun e => c ((tk_iff hn h3 (by decide) hSl hv).mp (e.trans hnm.symm))
          rw [if_neg c, hi v hv]
          by_cases c3 : tk_nm n 1 v < S
          · rw [if_pos c3, if_pos (by omega)]
          · rw [if_neg c3, if_neg (by omega)]
  show WP (d + 3) 15 0 [(0, .ref 1), (1, .int (nI 1))] [] s _
  refine wp_lda rfl tm_m0 ?_
  refine wq_getr (p := 17) rfl rfl (f := 2) rfl rfl ?_
  refine wp_ldi rfl tm_m1 ?_
  refine wp_zald rfl rfl (nI_in (by decide) (by decide)) ?_
  rw [show (nI 1).toNatClampNeg = 1 from rfl]
  refine wq_ifeq rfl (fun h6 => ?_) (fun h6 => ?_)
  · refine wp_lda rfl tm_m0 ?_
    refine wq_getr (p := 13) rfl rfl (f := 1) rfl rfl ?_
    refine wp_ldi rfl tm_m1 ?_
    refine wp_aald rfl rfl (nI_in (by decide) (by decide)) ?_
    rw [show (nI 1).toNatClampNeg = 1 from rfl]
    refine wq_con (x := (-1)) rfl (by decide) ?_
    refine wq_cals [.ref 15, .int ((-1))] rfl rfl rfl rfl rfl rfl (tk_fill1 F.1) ?_
    rintro _ t ⟨rfl, T1, U1, Z1⟩
    refine wq_con (x := nI 0) rfl (by decide) ?_
    refine wq_sti [(2, .int (nI 0)), (0, .ref 1), (1, .int (nI 1))] rfl rfl ?_
    refine WP.less (k22 (2 ^ n) 0 t (by omega) ⟨T1, tv_un_tr F.2 (tv_un_mo U1 (by decide))⟩ (fun v hv => ?_) ⟨(tv_un_a U1 (k := 14) rfl rfl).1, (tv_un_a U1 (k := 16) rfl rfl).1, (tv_un_a U1 (k := 17) rfl rfl).1⟩) (by simp)
    rw [Z1 v (by omega), if_neg (by omega)]
  · exact wp_retv rfl ⟨rfl, F, hM, fun v hv => hM 1 (by decide) h6 v hv⟩
set_option maxRecDepth 100000 in
set_option maxHeartbeats 4000000 in
theorem tk_li1 {d n S : Nat} {σ s : tm_S} (hn : n ≤ 12) (h3 : 3 ≤ n) (hS : S < 2 ^ n) (F : tk_F n σ s) (hM : tk_NM n s) : WM (d + 4) 14 [.ref 1, .int (nI 1), .int (nI S)] s (fun r t => r = some (.int (nI (tk_nm n 1 S))) ∧ tk_F n σ t ∧ tk_NM n t) := by
  have hp : 2 ^ n ≤ 4096 := Nat.pow_le_pow_right (n := 2) (by decide) hn
  show WP (d + 4) 14 0 [(0, .ref 1), (1, .int (nI 1)), (2, .int (nI S))] [] s _
  refine wp_lda rfl tm_m0 ?_
  refine wp_ldi rfl tm_m1 ?_
  refine wq_calv [.int (nI 1)] rfl rfl rfl rfl rfl rfl rfl rfl rfl (tk_all1 hn h3 F hM) ?_
  rintro _ t ⟨rfl, Ft, Mt, Vt⟩
  refine wp_lda rfl tm_m0 ?_
  refine wq_getr (p := 13) rfl rfl (f := 1) rfl rfl ?_
  refine wp_ldi rfl tm_m1 ?_
  refine wp_aald rfl rfl (nI_in (by decide) (by decide)) ?_
  rw [show (nI 1).toNatClampNeg = 1 from rfl]
  refine wp_ldi rfl tm_m2 ?_
  refine wp_iald rfl rfl (nI_in (by omega) (by decide)) ?_
  rw [nI_clamp (n := S) (by omega), Vt S hS]
  exact wp_reti rfl (th_nI rfl) ⟨rfl, Ft, Mt⟩
set_option maxRecDepth 100000 in
set_option maxHeartbeats 4000000 in
theorem tk_ins1 {d n K S : Nat} {σ : tm_S} (hn : n ≤ 12) (hK : K ≤ 12) (hS : S < 2 ^ n) (hV : ∀ v : Nat, v < 2 ^ n → σ.1 15 v = nI (tk_nm n 1 v)) : WM (d + 1) 24 [.ref 1, .int (nI 1), .int (nI K), .int (nI S)] σ (fun q σ' => ((q = some (.int 1) ∧ tk_is n 1 K S = true) ∨ (q = some (.int 0) ∧ ¬ tk_is n 1 K S = true)) ∧ σ = σ') := by
  have hp : 2 ^ n ≤ 4096 := Nat.pow_le_pow_right (n := 2) (by decide) hn
  have hle : tk_nm n 1 S ≤ S := tk_le
  have hl : th_po S n ≤ n := th_sm_le
  show WP (d + 1) 24 0 [(0, .ref 1), (1, .int (nI 1)), (2, .int (nI K)), (3, .int (nI S))] [] σ _
  refine wp_lda rfl tm_m0 ?_
  refine wq_getr (p := 13) rfl rfl (f := 1) rfl rfl ?_
  refine wp_ldi rfl tm_m1 ?_
  refine wp_aald rfl rfl (nI_in (by decide) (by decide)) ?_
  rw [show (nI 1).toNatClampNeg = 1 from rfl]
  refine wp_ldi rfl tm_m3 ?_
  refine wp_iald rfl rfl (nI_in (by omega) (by decide)) ?_
  rw [nI_clamp (n := S) (by omega), hV S hS]
  refine wp_ldi rfl tm_m3 ?_
  refine wq_icne rfl (fun h9 => ?_) (fun h9 => ?_)
  · refine wq_con (x := 0) rfl (by decide) ?_
    refine wp_reti rfl (th_n0 rfl) ⟨Or.inr ⟨rfl, fun hk => ?_⟩, rfl⟩
    unfold tk_is at hk
    rw [Bool.and_eq_true, decide_eq_true_eq, decide_eq_true_eq] at hk
    first | exact h17 (by rw [hk.2]) | exact h9 (by rw [hk.1])
  · refine wp_ldi rfl tm_m3 ?_
    refine wq_cals [.int (nI S)] rfl rfl rfl rfl rfl rfl (th_bitCount (nI S) (Q := th_is (.int (nI (th_po S n))) σ) ⟨by rw [th_bn (by omega), th_po12 hn hS], rfl⟩) ?_
    rintro _ _ ⟨rfl, rfl⟩
    refine wp_ldi rfl tm_m2 ?_
    refine wq_icne rfl (fun h17 => ?_) (fun h17 => ?_)
    · refine wq_con (x := 0) rfl (by decide) ?_
      refine wp_reti rfl (th_n0 rfl) ⟨Or.inr ⟨rfl, fun hk => ?_⟩, rfl⟩
      unfold tk_is at hk
      rw [Bool.and_eq_true, decide_eq_true_eq, decide_eq_true_eq] at hk
      first | exact h17 (by rw [hk.2]) | exact h9 (by rw [hk.1])
    · refine wq_con (x := 1) rfl (by decide) ?_
      refine wp_go rfl ?_
      exact wp_reti rfl (th_n1 rfl) ⟨Or.inl ⟨rfl, by unfold tk_is; rw [(nI_eq (by omega) (by omega)).mp (Classical.not_not.mp h9), (nI_eq (by omega) (by omega)).mp (Classical.not_not.mp h17)]; simp⟩, rfl⟩
set_option maxRecDepth 100000 in
set_option maxHeartbeats 4000000 in
theorem tk_cn1 {d n K : Nat} {σ s : tm_S} (hn : n ≤ 12) (h3 : 3 ≤ n) (hK : K ≤ 12) (F : tk_F n σ s) (hM : tk_NM n s) : WM (d + 4) 23 [.ref 1, .int (nI 1), .int (nI K)] s (fun r t => r = some (.int (nI (th_sm (tk_is n 1 K) (2 ^ n)))) ∧ tk_F n σ t ∧ tk_NM n t) := by
  have hp : 2 ^ n ≤ 4096 := Nat.pow_le_pow_right (n := 2) (by decide) hn
  have h1n : ((1 : Int32) <<< (nI n &&& 31)) = nI (2 ^ n) := th_p24 n (by omega)
  have k10 : ∀ (t : tm_S), tk_F n σ t → tk_NM n t → (∀ v : Nat, v < 2 ^ n → t.1 15 v = nI (tk_nm n 1 v)) → ∀ f S : Nat, S + f = 2 ^ n → WP (d + 4) 23 10 [(4, .int (nI S)), (3, .int (nI (th_sm (tk_is n 1 K) S))), (0, .ref 1), (1, .int (nI 1)), (2, .int (nI K))] [] t (fun r t => r = some (.int (nI (th_sm (tk_is n 1 K) (2 ^ n)))) ∧ tk_F n σ t ∧ tk_NM n t) := by
    intro t Ft Mt Vt f
    have hN := th_N0 Ft.1 hn
    induction f with
    | zero =>
      intro S hS
      obtain rfl : S = 2 ^ n := by omega
      refine wp_ldi rfl tm_m0 ?_
      refine wq_con (x := 1) rfl (by decide) ?_
      refine wp_lda rfl tm_m2 ?_
      refine wq_geti rfl rfl (f := 0) rfl rfl (Or.inl rfl) ?_
      rw [hN]
      refine wq_ishl rfl ?_
      rw [h1n]
      refine wq_icge rfl (fun h18 => ?_) (fun h18 => absurd (nI_le (Nat.le_refl _) (by omega)) h18)
      refine wp_ldi rfl tm_m1 ?_
      exact wp_reti rfl (th_nI rfl) ⟨rfl, Ft, Mt⟩
    | succ f ih =>
      intro S hS
      have e : th_sm (tk_is n 1 K) (S + 1) = th_sm (tk_is n 1 K) S + bif tk_is n 1 K S then 1 else 0 := rfl
      refine wp_ldi rfl tm_m0 ?_
      refine wq_con (x := 1) rfl (by decide) ?_
      refine wp_lda rfl tm_m2 ?_
      refine wq_geti rfl rfl (f := 0) rfl rfl (Or.inl rfl) ?_
      rw [hN]
      refine wq_ishl rfl ?_
      rw [h1n]
      refine wq_icge rfl (fun h18 => absurd h18 (nI_ge (by omega) (by omega))) (fun h18 => ?_)
      refine wp_lda rfl tm_m2 ?_
      refine wp_ldi rfl tm_m3 ?_
      refine wp_ldi rfl tm_m4 ?_
      refine wp_ldi rfl tm_m0 ?_
      refine wq_calv [.int (nI 1), .int (nI K), .int (nI S)] rfl rfl rfl rfl rfl rfl rfl rfl rfl (tk_ins1 hn hK (by omega) Vt) ?_
      rintro r26 _ ⟨hr26, rfl⟩
      obtain ⟨z26, rfl, hz26, hn26⟩ : ∃ z : Int32, r26 = some (.int z) ∧ (¬ z = 0 → tk_is n 1 K S = true) ∧ (z = 0 → ¬ tk_is n 1 K S = true) := by
        rcases hr26 with ⟨rfl, g⟩ | ⟨rfl, g⟩
        · exact ⟨_, rfl, fun _ => g, fun e => absurd e (by decide)⟩
        · exact ⟨_, rfl, fun e => absurd rfl e, fun _ => g⟩
      refine wq_ifeq rfl (fun h29 => ?_) (fun h29 => ?_)
      · refine wq_inc (c := 1) [(4, .int ((nI S) + 1)), (3, .int (nI (th_sm (tk_is n 1 K) S))), (0, .ref 1), (1, .int (nI 1)), (2, .int (nI K))] rfl tm_m0 rfl rfl ?_
        refine wp_go rfl ?_
        rw [Bool.eq_false_iff.mpr (hn26 h29)] at e
        rw [nI_1, show th_sm (tk_is n 1 K) S = th_sm (tk_is n 1 K) (S + 1) from e.symm]
        exact WP.less (ih (S + 1) (by omega)) (by simp)
      · refine wq_inc (c := 1) [(3, .int ((nI (th_sm (tk_is n 1 K) S)) + 1)), (4, .int (nI S)), (0, .ref 1), (1, .int (nI 1)), (2, .int (nI K))] rfl tm_m1 rfl rfl ?_
        refine wq_inc (c := 1) [(4, .int ((nI S) + 1)), (3, .int ((nI (th_sm (tk_is n 1 K) S)) + 1)), (0, .ref 1), (1, .int (nI 1)), (2, .int (nI K))] rfl tm_m1 rfl rfl ?_
        refine wp_go rfl ?_
        rw [hz26 h29] at e
        rw [nI_1, nI_1, show th_sm (tk_is n 1 K) S + 1 = th_sm (tk_is n 1 K) (S + 1) from e.symm]
        exact WP.less (ih (S + 1) (by omega)) (by simp)
  show WP (d + 4) 23 0 [(0, .ref 1), (1, .int (nI 1)), (2, .int (nI K))] [] s _
  refine wp_lda rfl tm_m0 ?_
  refine wp_ldi rfl tm_m1 ?_
  refine wq_calv [.int (nI 1)] rfl rfl rfl rfl rfl rfl rfl rfl rfl (tk_all1 hn h3 F hM) ?_
  rintro _ t ⟨rfl, Ft, Mt, Vt⟩
  refine wq_con (x := nI 0) rfl (by decide) ?_
  refine wq_sti [(3, .int (nI 0)), (0, .ref 1), (1, .int (nI 1)), (2, .int (nI K))] rfl rfl ?_
  refine wq_con (x := nI 0) rfl (by decide) ?_
  refine wq_sti [(4, .int (nI 0)), (3, .int (nI 0)), (0, .ref 1), (1, .int (nI 1)), (2, .int (nI K))] rfl rfl ?_
  exact WP.less (k10 t Ft Mt Vt (2 ^ n) 0 (by omega)) (by simp [th_sm])
set_option maxRecDepth 100000 in
set_option maxHeartbeats 4000000 in
theorem tk_fn1 {d n K I : Nat} {σ s : tm_S} (hn : n ≤ 12) (h3 : 3 ≤ n) (hK : K ≤ 12) (hI : I < 2 ^ 31) (F : tk_F n σ s) (hM : tk_NM n s) : WM (d + 4) 27 [.ref 1, .int (nI 1), .int (nI K), .int (nI I)] s (fun r t => (∃ z : Int32, r = some (.int z) ∧ tk_fd n 1 K I z) ∧ tk_F n σ t ∧ tk_NM n t) := by
  have hp : 2 ^ n ≤ 4096 := Nat.pow_le_pow_right (n := 2) (by decide) hn
  have h1n : ((1 : Int32) <<< (nI n &&& 31)) = nI (2 ^ n) := th_p24 n (by omega)
  have k11 : ∀ (t : tm_S), tk_F n σ t → tk_NM n t → (∀ v : Nat, v < 2 ^ n → t.1 15 v = nI (tk_nm n 1 v)) → ∀ f S : Nat, S + f = 2 ^ n → th_sm (tk_is n 1 K) S ≤ I → WP (d + 4) 27 11 [(5, .int (nI S)), (4, .int (nI (th_sm (tk_is n 1 K) S))), (0, .ref 1), (1, .int (nI 1)), (2, .int (nI K)), (3, .int (nI I))] [] t (fun r t => (∃ z : Int32, r = some (.int z) ∧ tk_fd n 1 K I z) ∧ tk_F n σ t ∧ tk_NM n t) := by
    intro t Ft Mt Vt f
    have hN := th_N0 Ft.1 hn
    induction f with
    | zero =>
      intro S hS hle
      obtain rfl : S = 2 ^ n := by omega
      refine wp_ldi rfl tm_m0 ?_
      refine wq_con (x := 1) rfl (by decide) ?_
      refine wp_lda rfl tm_m2 ?_
      refine wq_geti rfl rfl (f := 0) rfl rfl (Or.inl rfl) ?_
      rw [hN]
      refine wq_ishl rfl ?_
      rw [h1n]
      refine wq_icge rfl (fun h19 => ?_) (fun h19 => absurd (nI_le (Nat.le_refl _) (by omega)) h19)
      refine wq_con (x := (-1)) rfl (by decide) ?_
      exact wp_reti rfl (th_nI rfl) ⟨⟨_, rfl, Or.inr ⟨rfl, hle⟩⟩, Ft, Mt⟩
    | succ f ih =>
      intro S hS hle
      have lm : th_sm (tk_is n 1 K) S ≤ S := th_sm_le
      have e : th_sm (tk_is n 1 K) (S + 1) = th_sm (tk_is n 1 K) S + bif tk_is n 1 K S then 1 else 0 := rfl
      refine wp_ldi rfl tm_m0 ?_
      refine wq_con (x := 1) rfl (by decide) ?_
      refine wp_lda rfl tm_m2 ?_
      refine wq_geti rfl rfl (f := 0) rfl rfl (Or.inl rfl) ?_
      rw [hN]
      refine wq_ishl rfl ?_
      rw [h1n]
      refine wq_icge rfl (fun h19 => absurd h19 (nI_ge (by omega) (by omega))) (fun h19 => ?_)
      refine wp_lda rfl tm_m2 ?_
      refine wp_ldi rfl tm_m3 ?_
      refine wp_ldi rfl tm_m4 ?_
      refine wp_ldi rfl tm_m0 ?_
      refine wq_calv [.int (nI 1), .int (nI K), .int (nI S)] rfl rfl rfl rfl rfl rfl rfl rfl rfl (tk_ins1 hn hK (by omega) Vt) ?_
      rintro r27 _ ⟨hr27, rfl⟩
      obtain ⟨z27, rfl, hz27, hn27⟩ : ∃ z : Int32, r27 = some (.int z) ∧ (¬ z = 0 → tk_is n 1 K S = true) ∧ (z = 0 → ¬ tk_is n 1 K S = true) := by
        rcases hr27 with ⟨rfl, g⟩ | ⟨rfl, g⟩
        · exact ⟨_, rfl, fun _ => g, fun e => absurd e (by decide)⟩
        · exact ⟨_, rfl, fun e => absurd rfl e, fun _ => g⟩
      refine wq_ifeq rfl (fun h30 => ?_) (fun h30 => ?_)
      · refine wq_inc (c := 1) [(5, .int ((nI S) + 1)), (4, .int (nI (th_sm (tk_is n 1 K) S))), (0, .ref 1), (1, .int (nI 1)), (2, .int (nI K)), (3, .int (nI I))] rfl tm_m0 rfl rfl ?_
        refine wp_go rfl ?_
        rw [Bool.eq_false_iff.mpr (hn27 h30)] at e
        rw [nI_1, show th_sm (tk_is n 1 K) S = th_sm (tk_is n 1 K) (S + 1) from e.symm]
        exact WP.less (ih (S + 1) (by omega) (by rw [e]; exact hle)) (by simp)
      · refine wp_ldi rfl tm_m1 ?_
        refine wp_ldi rfl tm_m5 ?_
        refine wq_icne rfl (fun h36 => ?_) (fun h36 => ?_)
        · refine wq_inc (c := 1) [(4, .int ((nI (th_sm (tk_is n 1 K) S)) + 1)), (5, .int (nI S)), (0, .ref 1), (1, .int (nI 1)), (2, .int (nI K)), (3, .int (nI I))] rfl tm_m1 rfl rfl ?_
          refine wq_inc (c := 1) [(5, .int ((nI S) + 1)), (4, .int ((nI (th_sm (tk_is n 1 K) S)) + 1)), (0, .ref 1), (1, .int (nI 1)), (2, .int (nI K)), (3, .int (nI I))] rfl tm_m1 rfl rfl ?_
          refine wp_go rfl ?_
          have hne : ¬ th_sm (tk_is n 1 K) S = I := fun q => h36 (by rw [q])
          rw [hz27 h30] at e
          rw [nI_1, nI_1, show th_sm (tk_is n 1 K) S + 1 = th_sm (tk_is n 1 K) (S + 1) from e.symm]
          exact WP.less (ih (S + 1) (by omega) (by rw [e]; show _ + 1 ≤ I; omega)) (by simp)
        · refine wp_ldi rfl tm_m0 ?_
          exact wp_reti rfl (th_nI rfl) ⟨⟨_, rfl, Or.inl ⟨S, rfl, by omega, hz27 h30, (nI_eq (by omega) hI).mp (Classical.not_not.mp h36)⟩⟩, Ft, Mt⟩
  show WP (d + 4) 27 0 [(0, .ref 1), (1, .int (nI 1)), (2, .int (nI K)), (3, .int (nI I))] [] s _
  refine wp_lda rfl tm_m0 ?_
  refine wp_ldi rfl tm_m1 ?_
  refine wq_calv [.int (nI 1)] rfl rfl rfl rfl rfl rfl rfl rfl rfl (tk_all1 hn h3 F hM) ?_
  rintro _ t ⟨rfl, Ft, Mt, Vt⟩
  refine wq_con (x := nI 0) rfl (by decide) ?_
  refine wq_sti [(4, .int (nI 0)), (0, .ref 1), (1, .int (nI 1)), (2, .int (nI K)), (3, .int (nI I))] rfl rfl ?_
  refine wq_con (x := nI 0) rfl (by decide) ?_
  refine wq_sti [(5, .int (nI 0)), (4, .int (nI 0)), (0, .ref 1), (1, .int (nI 1)), (2, .int (nI K)), (3, .int (nI I))] rfl rfl ?_
  exact WP.less (k11 t Ft Mt Vt (2 ^ n) 0 (by omega) (Nat.zero_le _)) (by simp [th_sm])
set_option maxRecDepth 100000 in
set_option maxHeartbeats 4000000 in
theorem tk_cls2 {d n S : Nat} {σ s : tm_S} (hn : n ≤ 12) (h3 : 3 ≤ n) (hS : S < 2 ^ n) (F : tk_F n σ s) : WM (d + 2) 17 [.ref 1, .int (nI 2), .int (nI S)] s (fun q t => q = none ∧ tk_F n σ t ∧ (∀ v : Nat, t.1 16 v = if v ∈ tg_I n 2 S n then nI S else s.1 16 v) ∧ (t.1 14 = s.1 14 ∧ t.1 15 = s.1 15 ∧ t.1 17 = s.1 17)) := by
  have hp : 2 ^ n ≤ 4096 := Nat.pow_le_pow_right (n := 2) (by decide) hn
  have eS : (nI S).toInt = S := nI_toInt (by omega)
  have k2 : ∀ (f m : Nat) (t : tm_S), m + f = n → 1 ≤ m → tk_F n σ t → (∀ v : Nat, t.1 16 v = if v ∈ tg_I n 2 S m then nI S else s.1 16 v) → (t.1 14 = s.1 14 ∧ t.1 15 = s.1 15 ∧ t.1 17 = s.1 17) → WP (d + 2) 17 2 [(3, .int (nI m)), (0, .ref 1), (1, .int (nI 2)), (2, .int (nI S))] [] t (fun q t => q = none ∧ tk_F n σ t ∧ (∀ v : Nat, t.1 16 v = if v ∈ tg_I n 2 S n then nI S else s.1 16 v) ∧ (t.1 14 = s.1 14 ∧ t.1 15 = s.1 15 ∧ t.1 17 = s.1 17)) := by
    intro f
    induction f with
    | zero =>
      intro m t hm h1 Ft hi ho
      obtain rfl : m = n := by omega
      have hN := th_N0 Ft.1 hn
      refine wp_ldi rfl tm_m0 ?_
      refine wp_lda rfl tm_m1 ?_
      refine wq_geti rfl rfl (f := 0) rfl rfl (Or.inl rfl) ?_
      rw [hN]
      refine wq_icge rfl (fun h7 => ?_) (fun h7 => absurd (nI_le (Nat.le_refl _) (by omega)) h7)
      exact wp_retv rfl ⟨rfl, Ft, hi, ho⟩
    | succ f ih =>
      intro m t hm h1 Ft hi ho
      have hN := th_N0 Ft.1 hn
      have hfi := th_fP_iff (g := 2) (m := m) hn (by omega)
      have lw : th_im n S m 0 n < 2 ^ n := th_im_lt (by omega) n
      have k33 : th_fac n 2 m = true → ∀ (f2 u : Nat) (t : tm_S), u + f2 = n → tk_F n σ t → (∀ v : Nat, t.1 16 v = if v ∈ tg_J n 2 S m u then nI S else s.1 16 v) → (t.1 14 = s.1 14 ∧ t.1 15 = s.1 15 ∧ t.1 17 = s.1 17) → WP (d + 2) 17 33 [(5, .int (nI u)), (4, .int (nI (th_im n S m 0 n))), (3, .int (nI m)), (0, .ref 1), (1, .int (nI 2)), (2, .int (nI S))] [] t (fun q t => q = none ∧ tk_F n σ t ∧ (∀ v : Nat, t.1 16 v = if v ∈ tg_I n 2 S n then nI S else s.1 16 v) ∧ (t.1 14 = s.1 14 ∧ t.1 15 = s.1 15 ∧ t.1 17 = s.1 17)) := by
        intro hf f2
        induction f2 with
        | zero =>
          intro u t hu Ft hi ho
          have hN := th_N0 Ft.1 hn
          obtain rfl : u = n := by omega
          refine wp_ldi rfl tm_m0 ?_
          refine wp_lda rfl tm_m3 ?_
          refine wq_geti rfl rfl (f := 0) rfl rfl (Or.inl rfl) ?_
          rw [hN]
          refine wq_icge rfl (fun h39 => ?_) (fun h39 => absurd (nI_le (Nat.le_refl _) (by omega)) h39)
          refine wq_inc (c := 1) [(3, .int ((nI m) + 1)), (5, .int (nI u)), (4, .int (nI (th_im u S m 0 u))), (0, .ref 1), (1, .int (nI 2)), (2, .int (nI S))] rfl tm_m2 rfl rfl ?_
          refine wp_go rfl ?_
          rw [nI_1]
          rw [tg_Jn hf] at hi
          exact WP.less (ih (m + 1) t (by omega) (by omega) Ft hi ho) (by simp)
        | succ f2 ihf =>
          intro u t hu Ft hi ho
          have hN := th_N0 Ft.1 hn
          have li : th_im n S m u n < 2 ^ n := th_im_lt (by omega) n
          refine wp_ldi rfl tm_m0 ?_
          refine wp_lda rfl tm_m3 ?_
          refine wq_geti rfl rfl (f := 0) rfl rfl (Or.inl rfl) ?_
          rw [hN]
          refine wq_icge rfl (fun h39 => absurd h39 (nI_ge (by omega) (by omega))) (fun h39 => ?_)
          refine wp_lda rfl tm_m3 ?_
          refine wq_getr (p := 13) rfl rfl (f := 1) rfl rfl ?_
          refine wp_ldi rfl tm_m4 ?_
          refine wp_aald rfl rfl (nI_in (by decide) (by decide)) ?_
          rw [show (nI 2).toNatClampNeg = 2 from rfl]
          refine wp_ldi rfl tm_m1 ?_
          refine wp_ldi rfl tm_m0 ?_
          refine wp_lda rfl tm_m3 ?_
          refine wq_geti rfl rfl (f := 0) rfl rfl (Or.inl rfl) ?_
          rw [hN]
          refine wq_cals [.int (nI (th_im n S m 0 n)), .int (nI u), .int (nI n)] rfl rfl rfl rfl rfl rfl (th_trnd (by omega) lw (by omega)) ?_
          rintro _ _ ⟨rfl, rfl⟩
          rw [th_im_rot (by omega) (by omega)]
          refine wp_ldi rfl tm_m5 ?_
          refine wp_iast rfl rfl (nI_in (by omega) (by decide)) ?_
          refine wq_inc (c := 1) [(5, .int ((nI u) + 1)), (4, .int (nI (th_im n S m 0 n))), (3, .int (nI m)), (0, .ref 1), (1, .int (nI 2)), (2, .int (nI S))] rfl tm_m0 rfl rfl ?_
          refine wp_go rfl ?_
          rw [nI_1, nI_clamp (n := th_im n S m u n) (by omega)]
          refine WP.less (ihf (u + 1) _ (by omega) ⟨tv_TY_row Ft.1 (ty := ((-1), 4095)) (fun _ => rfl) (by rw [eS]; show (-1 : Int) ≤ _; omega) (by rw [eS]; show _ ≤ (4095 : Int); omega), tv_un_tr Ft.2 (tv_un_ar rfl rfl)⟩ (fun v => ?_) ho) (by simp)
          rw [tg_J1, tm_gI]
          by_cases e : v = th_im n S m u n
          · rw [if_pos ⟨rfl, e⟩, if_pos (by rw [e]; exact List.mem_append_right _ List.mem_cons_self)]
          · rw [if_neg (fun z => e z.2), hi v]
            by_cases c : v ∈ tg_J n 2 S m u
            · rw [if_pos c, if_pos (List.mem_append_left _ c)]
            · rw [if_neg c, if_neg (fun z => by
                rcases List.mem_append.mp z with z | z
                · exact c z
                · exact e (List.mem_singleton.mp z))]
      refine wp_ldi rfl tm_m0 ?_
      refine wp_lda rfl tm_m1 ?_
      refine wq_geti rfl rfl (f := 0) rfl rfl (Or.inl rfl) ?_
      rw [hN]
      refine wq_icge rfl (fun h7 => absurd h7 (nI_ge (by omega) (by omega))) (fun h7 => ?_)
      refine wp_lda rfl tm_m1 ?_
      refine wp_ldi rfl tm_m2 ?_
      refine wp_ldi rfl tm_m0 ?_
      refine wq_calv [.int (nI 2), .int (nI m)] rfl rfl rfl rfl rfl rfl rfl rfl rfl (th_xfac hN hn h3 (by decide)) ?_
      rintro r13 _ ⟨hr13, rfl⟩
      obtain ⟨z13, rfl, hz13, hn13⟩ : ∃ z : Int32, r13 = some (.int z) ∧ (¬ z = 0 → th_fP n 2 (nI m)) ∧ (z = 0 → ¬ th_fP n 2 (nI m)) := by
        rcases hr13 with ⟨rfl, g⟩ | ⟨rfl, g⟩
        · exact ⟨_, rfl, fun _ => g, fun e => absurd e (by decide)⟩
        · exact ⟨_, rfl, fun e => absurd rfl e, fun _ => g⟩
      refine wq_ifne rfl (fun h16 => ?_) (fun h16 => ?_)
      · refine wp_lda rfl tm_m1 ?_
        refine wp_ldi rfl tm_m3 ?_
        refine wp_ldi rfl tm_m0 ?_
        refine wq_calv [.int (nI S), .int (nI m)] rfl rfl rfl rfl rfl rfl rfl rfl rfl (th_mult hN hn hS (by omega)) ?_
        rintro _ _ ⟨rfl, rfl⟩
        refine wq_sti [(4, .int (nI (th_im n S m 0 n))), (3, .int (nI m)), (0, .ref 1), (1, .int (nI 2)), (2, .int (nI S))] rfl rfl ?_
        refine wq_con (x := nI 0) rfl (by decide) ?_
        refine wq_sti [(5, .int (nI 0)), (4, .int (nI (th_im n S m 0 n))), (3, .int (nI m)), (0, .ref 1), (1, .int (nI 2)), (2, .int (nI S))] rfl rfl ?_
        exact WP.less (k33 (hfi.mp (hz13 h16)) n 0 t (by omega) Ft (by rw [tg_J0]; exact hi) ho) (by simp)
      · refine wp_go rfl ?_
        refine wq_inc (c := 1) [(3, .int ((nI m) + 1)), (0, .ref 1), (1, .int (nI 2)), (2, .int (nI S))] rfl tm_m0 rfl rfl ?_
        refine wp_go rfl ?_
        rw [← tg_Is (n := n) (g := 2) (a := S) (m := m) (fun q => hn13 (Classical.not_not.mp h16) (hfi.mpr q))] at hi
        rw [nI_1]
        exact WP.less (ih (m + 1) t (by omega) (by omega) Ft hi ho) (by simp)
  show WP (d + 2) 17 0 [(0, .ref 1), (1, .int (nI 2)), (2, .int (nI S))] [] s _
  refine wq_con (x := nI 1) rfl (by decide) ?_
  refine wq_sti [(3, .int (nI 1)), (0, .ref 1), (1, .int (nI 2)), (2, .int (nI S))] rfl rfl ?_
  exact WP.less (k2 (n - 1) 1 s (by omega) (Nat.le_refl _) F (fun v => by rw [tg_I1, if_neg List.not_mem_nil]) ⟨rfl, rfl, rfl⟩) (by simp)
set_option maxRecDepth 100000 in
set_option maxHeartbeats 4000000 in
theorem tk_all2 {d n : Nat} {σ s : tm_S} (hn : n ≤ 12) (h3 : 3 ≤ n) (F : tk_F n σ s) (hM : tk_NM n s) : WM (d + 3) 15 [.ref 1, .int (nI 2)] s (fun q t => q = none ∧ tk_F n σ t ∧ tk_NM n t ∧ ∀ v : Nat, v < 2 ^ n → t.1 16 v = nI (tk_nm n 2 v)) := by
  have hp : 2 ^ n ≤ 4096 := Nat.pow_le_pow_right (n := 2) (by decide) hn
  have h1n : ((1 : Int32) <<< (nI n &&& 31)) = nI (2 ^ n) := th_p24 n (by omega)
  have k22 : ∀ (f S : Nat) (t : tm_S), S + f = 2 ^ n → tk_F n σ t → (∀ v : Nat, v < 2 ^ n → t.1 16 v = if tk_nm n 2 v < S then nI (tk_nm n 2 v) else -1) → (t.1 14 = s.1 14 ∧ t.1 15 = s.1 15 ∧ t.1 17 = s.1 17) → WP (d + 3) 15 22 [(2, .int (nI S)), (0, .ref 1), (1, .int (nI 2))] [] t (fun q t => q = none ∧ tk_F n σ t ∧ tk_NM n t ∧ ∀ v : Nat, v < 2 ^ n → t.1 16 v = nI (tk_nm n 2 v)) := by
    intro f
    induction f with
    | zero =>
      intro S t hS Ft hi ho
      have hN := th_N0 Ft.1 hn
      obtain rfl : S = 2 ^ n := by omega
      have hi2 : ∀ v : Nat, v < 2 ^ n → t.1 16 v = nI (tk_nm n 2 v) := fun v hv => by
        rw [hi v hv, if_pos (tk_lt h3 hv)]
      refine wp_ldi rfl tm_m0 ?_
      refine wq_con (x := 1) rfl (by decide) ?_
      refine wp_lda rfl tm_m1 ?_
      refine wq_geti rfl rfl (f := 0) rfl rfl (Or.inl rfl) ?_
      rw [hN]
      refine wq_ishl rfl ?_
      rw [h1n]
      refine wq_icge rfl (fun h29 => ?_) (fun h29 => absurd (nI_le (Nat.le_refl _) (by omega)) h29)
      refine wp_lda rfl tm_m1 ?_
      refine wq_getr (p := 17) rfl rfl (f := 2) rfl rfl ?_
      refine wp_ldi rfl tm_m2 ?_
      refine wq_con (x := 1) rfl (by decide) ?_
      refine wp_zast rfl rfl (nI_in (by decide) (by decide)) (Or.inr rfl) ?_
      rw [show (nI 2).toNatClampNeg = 2 from rfl]
      refine wp_retv rfl ⟨rfl, ⟨tv_TY_row Ft.1 (ty := (0, 1)) (fun _ => rfl) (by decide) (by decide), tv_un_tr Ft.2 (tv_un_ar rfl rfl)⟩, fun q hq h1 v hv => ?_, hi2⟩
      by_cases e : q = 2
      · subst e
        exact hi2 v hv
      · rw [tm_gI, if_neg (fun z => e z.2), ho.2.2] at h1
        have hh := hM q hq h1 v hv
        have eq : t.1 (14 + q) = s.1 (14 + q) := by
          rcases (by omega : q = 0 ∨ q = 1) with rfl | rfl
          · exact ho.1
          · exact ho.2.1
        rw [tm_gI, if_neg (fun z => absurd z.1 (by omega)), eq]
        exact hh
    | succ f ih =>
      intro S t hS Ft hi ho
      have hN := th_N0 Ft.1 hn
      have hSl : S < 2 ^ n := by omega
      have hle : tk_nm n 2 S ≤ S := tk_le
      refine wp_ldi rfl tm_m0 ?_
      refine wq_con (x := 1) rfl (by decide) ?_
      refine wp_lda rfl tm_m1 ?_
      refine wq_geti rfl rfl (f := 0) rfl rfl (Or.inl rfl) ?_
      rw [hN]
      refine wq_ishl rfl ?_
      rw [h1n]
      refine wq_icge rfl (fun h29 => absurd h29 (nI_ge (by omega) (by omega))) (fun h29 => ?_)
      refine wp_lda rfl tm_m1 ?_
      refine wq_getr (p := 13) rfl rfl (f := 1) rfl rfl ?_
      refine wp_ldi rfl tm_m2 ?_
      refine wp_aald rfl rfl (nI_in (by decide) (by decide)) ?_
      rw [show (nI 2).toNatClampNeg = 2 from rfl]
      refine wp_ldi rfl tm_m0 ?_
      refine wp_iald rfl rfl (nI_in (by omega) (by decide)) ?_
      rw [nI_clamp (n := S) (by omega)]
      refine wq_con (x := (-1)) rfl (by decide) ?_
      refine wq_icne rfl (fun h41 => ?_) (fun h41 => ?_)
      · refine wq_inc (c := 1) [(2, .int ((nI S) + 1)), (0, .ref 1), (1, .int (nI 2))] rfl tm_m0 rfl rfl ?_
        refine wp_go rfl ?_
        have hne : ¬ tk_nm n 2 S = S := fun e => h41 (by rw [hi S hSl, if_neg (by omega)])
        rw [nI_1]
        refine WP.less (ih (S + 1) t (by omega) Ft (fun v hv => ?_) ho) (by simp)
        rw [hi v hv]
        by_cases c : tk_nm n 2 v < S
        · rw [if_pos c, if_pos (by omega)]
        · rw [if_neg c, if_neg (fun z => hne ?_)]
          have e : tk_nm n 2 v = S := by omega
          have m := (tk_min (g := 2) h3 hv).1
          rw [e] at m
          exact (tk_eq hn h3 (by decide) hv m).trans e
      · refine wp_lda rfl tm_m1 ?_
        refine wp_ldi rfl tm_m2 ?_
        refine wp_ldi rfl tm_m0 ?_
        refine wq_calv [.int (nI 2), .int (nI S)] rfl rfl rfl rfl rfl rfl rfl rfl rfl (tk_cls2 hn h3 hSl Ft) ?_
        rintro _ t2 ⟨rfl, F2, C2, O2⟩
        refine wq_inc (c := 1) [(2, .int ((nI S) + 1)), (0, .ref 1), (1, .int (nI 2))] rfl tm_m0 rfl rfl ?_
        refine wp_go rfl ?_
        have hnm : tk_nm n 2 S = S := by
          rcases Nat.lt_or_ge (tk_nm n 2 S) S with c | c
          · have q := Classical.not_not.mp h41
            rw [hi S hSl, if_pos c] at q
            exact absurd q (tk_n1 (by omega))
          · omega
        rw [nI_1]
        refine WP.less (ih (S + 1) t2 (by omega) F2 (fun v hv => ?_) ⟨O2.1.trans ho.1, O2.2.1.trans ho.2.1, O2.2.2.trans ho.2.2⟩) (by simp)
        rw [C2 v]
        by_cases c : v ∈ tg_I n 2 S n
        · rw [if_pos c, tk_eq hn h3 (by decide) hSl c, hnm, if_pos (by omega)]
        · have c2 : ¬ tk_nm n 2 v = S := fun e => c ((tk_iff hn h3 (by decide) hSl hv).mp (e.trans hnm.symm))
          rw [if_neg c, hi v hv]
          by_cases c3 : tk_nm n 2 v < S
          · rw [if_pos c3, if_pos (by omega)]
          · rw [if_neg c3, if_neg (by omega)]
  show WP (d + 3) 15 0 [(0, .ref 1), (1, .int (nI 2))] [] s _
  refine wp_lda rfl tm_m0 ?_
  refine wq_getr (p := 17) rfl rfl (f := 2) rfl rfl ?_
  refine wp_ldi rfl tm_m1 ?_
  refine wp_zald rfl rfl (nI_in (by decide) (by decide)) ?_
  rw [show (nI 2).toNatClampNeg = 2 from rfl]
  refine wq_ifeq rfl (fun h6 => ?_) (fun h6 => ?_)
  · refine wp_lda rfl tm_m0 ?_
    refine wq_getr (p := 13) rfl rfl (f := 1) rfl rfl ?_
    refine wp_ldi rfl tm_m1 ?_
    refine wp_aald rfl rfl (nI_in (by decide) (by decide)) ?_
    rw [show (nI 2).toNatClampNeg = 2 from rfl]
    refine wq_con (x := (-1)) rfl (by decide) ?_
    refine wq_cals [.ref 16, .int ((-1))] rfl rfl rfl rfl rfl rfl (tk_fill2 F.1) ?_
    rintro _ t ⟨rfl, T1, U1, Z1⟩
    refine wq_con (x := nI 0) rfl (by decide) ?_
    refine wq_sti [(2, .int (nI 0)), (0, .ref 1), (1, .int (nI 2))] rfl rfl ?_
    refine WP.less (k22 (2 ^ n) 0 t (by omega) ⟨T1, tv_un_tr F.2 (tv_un_mo U1 (by decide))⟩ (fun v hv => ?_) ⟨(tv_un_a U1 (k := 14) rfl rfl).1, (tv_un_a U1 (k := 15) rfl rfl).1, (tv_un_a U1 (k := 17) rfl rfl).1⟩) (by simp)
    rw [Z1 v (by omega), if_neg (by omega)]
  · exact wp_retv rfl ⟨rfl, F, hM, fun v hv => hM 2 (by decide) h6 v hv⟩
set_option maxRecDepth 100000 in
set_option maxHeartbeats 4000000 in
theorem tk_li2 {d n S : Nat} {σ s : tm_S} (hn : n ≤ 12) (h3 : 3 ≤ n) (hS : S < 2 ^ n) (F : tk_F n σ s) (hM : tk_NM n s) : WM (d + 4) 14 [.ref 1, .int (nI 2), .int (nI S)] s (fun r t => r = some (.int (nI (tk_nm n 2 S))) ∧ tk_F n σ t ∧ tk_NM n t) := by
  have hp : 2 ^ n ≤ 4096 := Nat.pow_le_pow_right (n := 2) (by decide) hn
  show WP (d + 4) 14 0 [(0, .ref 1), (1, .int (nI 2)), (2, .int (nI S))] [] s _
  refine wp_lda rfl tm_m0 ?_
  refine wp_ldi rfl tm_m1 ?_
  refine wq_calv [.int (nI 2)] rfl rfl rfl rfl rfl rfl rfl rfl rfl (tk_all2 hn h3 F hM) ?_
  rintro _ t ⟨rfl, Ft, Mt, Vt⟩
  refine wp_lda rfl tm_m0 ?_
  refine wq_getr (p := 13) rfl rfl (f := 1) rfl rfl ?_
  refine wp_ldi rfl tm_m1 ?_
  refine wp_aald rfl rfl (nI_in (by decide) (by decide)) ?_
  rw [show (nI 2).toNatClampNeg = 2 from rfl]
  refine wp_ldi rfl tm_m2 ?_
  refine wp_iald rfl rfl (nI_in (by omega) (by decide)) ?_
  rw [nI_clamp (n := S) (by omega), Vt S hS]
  exact wp_reti rfl (th_nI rfl) ⟨rfl, Ft, Mt⟩
set_option maxRecDepth 100000 in
set_option maxHeartbeats 4000000 in
theorem tk_ins2 {d n K S : Nat} {σ : tm_S} (hn : n ≤ 12) (hK : K ≤ 12) (hS : S < 2 ^ n) (hV : ∀ v : Nat, v < 2 ^ n → σ.1 16 v = nI (tk_nm n 2 v)) : WM (d + 1) 24 [.ref 1, .int (nI 2), .int (nI K), .int (nI S)] σ (fun q σ' => ((q = some (.int 1) ∧ tk_is n 2 K S = true) ∨ (q = some (.int 0) ∧ ¬ tk_is n 2 K S = true)) ∧ σ = σ') := by
  have hp : 2 ^ n ≤ 4096 := Nat.pow_le_pow_right (n := 2) (by decide) hn
  have hle : tk_nm n 2 S ≤ S := tk_le
  have hl : th_po S n ≤ n := th_sm_le
  show WP (d + 1) 24 0 [(0, .ref 1), (1, .int (nI 2)), (2, .int (nI K)), (3, .int (nI S))] [] σ _
  refine wp_lda rfl tm_m0 ?_
  refine wq_getr (p := 13) rfl rfl (f := 1) rfl rfl ?_
  refine wp_ldi rfl tm_m1 ?_
  refine wp_aald rfl rfl (nI_in (by decide) (by decide)) ?_
  rw [show (nI 2).toNatClampNeg = 2 from rfl]
  refine wp_ldi rfl tm_m3 ?_
  refine wp_iald rfl rfl (nI_in (by omega) (by decide)) ?_
  rw [nI_clamp (n := S) (by omega), hV S hS]
  refine wp_ldi rfl tm_m3 ?_
  refine wq_icne rfl (fun h9 => ?_) (fun h9 => ?_)
  · refine wq_con (x := 0) rfl (by decide) ?_
    refine wp_reti rfl (th_n0 rfl) ⟨Or.inr ⟨rfl, fun hk => ?_⟩, rfl⟩
    unfold tk_is at hk
    rw [Bool.and_eq_true, decide_eq_true_eq, decide_eq_true_eq] at hk
    first | exact h17 (by rw [hk.2]) | exact h9 (by rw [hk.1])
  · refine wp_ldi rfl tm_m3 ?_
    refine wq_cals [.int (nI S)] rfl rfl rfl rfl rfl rfl (th_bitCount (nI S) (Q := th_is (.int (nI (th_po S n))) σ) ⟨by rw [th_bn (by omega), th_po12 hn hS], rfl⟩) ?_
    rintro _ _ ⟨rfl, rfl⟩
    refine wp_ldi rfl tm_m2 ?_
    refine wq_icne rfl (fun h17 => ?_) (fun h17 => ?_)
    · refine wq_con (x := 0) rfl (by decide) ?_
      refine wp_reti rfl (th_n0 rfl) ⟨Or.inr ⟨rfl, fun hk => ?_⟩, rfl⟩
      unfold tk_is at hk
      rw [Bool.and_eq_true, decide_eq_true_eq, decide_eq_true_eq] at hk
      first | exact h17 (by rw [hk.2]) | exact h9 (by rw [hk.1])
    · refine wq_con (x := 1) rfl (by decide) ?_
      refine wp_go rfl ?_
      exact wp_reti rfl (th_n1 rfl) ⟨Or.inl ⟨rfl, by unfold tk_is; rw [(nI_eq (by omega) (by omega)).mp (Classical.not_not.mp h9), (nI_eq (by omega) (by omega)).mp (Classical.not_not.mp h17)]; simp⟩, rfl⟩
set_option maxRecDepth 100000 in
set_option maxHeartbeats 4000000 in
theorem tk_cn2 {d n K : Nat} {σ s : tm_S} (hn : n ≤ 12) (h3 : 3 ≤ n) (hK : K ≤ 12) (F : tk_F n σ s) (hM : tk_NM n s) : WM (d + 4) 23 [.ref 1, .int (nI 2), .int (nI K)] s (fun r t => r = some (.int (nI (th_sm (tk_is n 2 K) (2 ^ n)))) ∧ tk_F n σ t ∧ tk_NM n t) := by
  have hp : 2 ^ n ≤ 4096 := Nat.pow_le_pow_right (n := 2) (by decide) hn
  have h1n : ((1 : Int32) <<< (nI n &&& 31)) = nI (2 ^ n) := th_p24 n (by omega)
  have k10 : ∀ (t : tm_S), tk_F n σ t → tk_NM n t → (∀ v : Nat, v < 2 ^ n → t.1 16 v = nI (tk_nm n 2 v)) → ∀ f S : Nat, S + f = 2 ^ n → WP (d + 4) 23 10 [(4, .int (nI S)), (3, .int (nI (th_sm (tk_is n 2 K) S))), (0, .ref 1), (1, .int (nI 2)), (2, .int (nI K))] [] t (fun r t => r = some (.int (nI (th_sm (tk_is n 2 K) (2 ^ n)))) ∧ tk_F n σ t ∧ tk_NM n t) := by
    intro t Ft Mt Vt f
    have hN := th_N0 Ft.1 hn
    induction f with
    | zero =>
      intro S hS
      obtain rfl : S = 2 ^ n := by omega
      refine wp_ldi rfl tm_m0 ?_
      refine wq_con (x := 1) rfl (by decide) ?_
      refine wp_lda rfl tm_m2 ?_
      refine wq_geti rfl rfl (f := 0) rfl rfl (Or.inl rfl) ?_
      rw [hN]
      refine wq_ishl rfl ?_
      rw [h1n]
      refine wq_icge rfl (fun h18 => ?_) (fun h18 => absurd (nI_le (Nat.le_refl _) (by omega)) h18)
      refine wp_ldi rfl tm_m1 ?_
      exact wp_reti rfl (th_nI rfl) ⟨rfl, Ft, Mt⟩
    | succ f ih =>
      intro S hS
      have e : th_sm (tk_is n 2 K) (S + 1) = th_sm (tk_is n 2 K) S + bif tk_is n 2 K S then 1 else 0 := rfl
      refine wp_ldi rfl tm_m0 ?_
      refine wq_con (x := 1) rfl (by decide) ?_
      refine wp_lda rfl tm_m2 ?_
      refine wq_geti rfl rfl (f := 0) rfl rfl (Or.inl rfl) ?_
      rw [hN]
      refine wq_ishl rfl ?_
      rw [h1n]
      refine wq_icge rfl (fun h18 => absurd h18 (nI_ge (by omega) (by omega))) (fun h18 => ?_)
      refine wp_lda rfl tm_m2 ?_
      refine wp_ldi rfl tm_m3 ?_
      refine wp_ldi rfl tm_m4 ?_
      refine wp_ldi rfl tm_m0 ?_
      refine wq_calv [.int (nI 2), .int (nI K), .int (nI S)] rfl rfl rfl rfl rfl rfl rfl rfl rfl (tk_ins2 hn hK (by omega) Vt) ?_
      rintro r26 _ ⟨hr26, rfl⟩
      obtain ⟨z26, rfl, hz26, hn26⟩ : ∃ z : Int32, r26 = some (.int z) ∧ (¬ z = 0 → tk_is n 2 K S = true) ∧ (z = 0 → ¬ tk_is n 2 K S = true) := by
        rcases hr26 with ⟨rfl, g⟩ | ⟨rfl, g⟩
        · exact ⟨_, rfl, fun _ => g, fun e => absurd e (by decide)⟩
        · exact ⟨_, rfl, fun e => absurd rfl e, fun _ => g⟩
      refine wq_ifeq rfl (fun h29 => ?_) (fun h29 => ?_)
      · refine wq_inc (c := 1) [(4, .int ((nI S) + 1)), (3, .int (nI (th_sm (tk_is n 2 K) S))), (0, .ref 1), (1, .int (nI 2)), (2, .int (nI K))] rfl tm_m0 rfl rfl ?_
        refine wp_go rfl ?_
        rw [Bool.eq_false_iff.mpr (hn26 h29)] at e
        rw [nI_1, show th_sm (tk_is n 2 K) S = th_sm (tk_is n 2 K) (S + 1) from e.symm]
        exact WP.less (ih (S + 1) (by omega)) (by simp)
      · refine wq_inc (c := 1) [(3, .int ((nI (th_sm (tk_is n 2 K) S)) + 1)), (4, .int (nI S)), (0, .ref 1), (1, .int (nI 2)), (2, .int (nI K))] rfl tm_m1 rfl rfl ?_
        refine wq_inc (c := 1) [(4, .int ((nI S) + 1)), (3, .int ((nI (th_sm (tk_is n 2 K) S)) + 1)), (0, .ref 1), (1, .int (nI 2)), (2, .int (nI K))] rfl tm_m1 rfl rfl ?_
        refine wp_go rfl ?_
        rw [hz26 h29] at e
        rw [nI_1, nI_1, show th_sm (tk_is n 2 K) S + 1 = th_sm (tk_is n 2 K) (S + 1) from e.symm]
        exact WP.less (ih (S + 1) (by omega)) (by simp)
  show WP (d + 4) 23 0 [(0, .ref 1), (1, .int (nI 2)), (2, .int (nI K))] [] s _
  refine wp_lda rfl tm_m0 ?_
  refine wp_ldi rfl tm_m1 ?_
  refine wq_calv [.int (nI 2)] rfl rfl rfl rfl rfl rfl rfl rfl rfl (tk_all2 hn h3 F hM) ?_
  rintro _ t ⟨rfl, Ft, Mt, Vt⟩
  refine wq_con (x := nI 0) rfl (by decide) ?_
  refine wq_sti [(3, .int (nI 0)), (0, .ref 1), (1, .int (nI 2)), (2, .int (nI K))] rfl rfl ?_
  refine wq_con (x := nI 0) rfl (by decide) ?_
  refine wq_sti [(4, .int (nI 0)), (3, .int (nI 0)), (0, .ref 1), (1, .int (nI 2)), (2, .int (nI K))] rfl rfl ?_
  exact WP.less (k10 t Ft Mt Vt (2 ^ n) 0 (by omega)) (by simp [th_sm])
set_option maxRecDepth 100000 in
set_option maxHeartbeats 4000000 in
theorem tk_fn2 {d n K I : Nat} {σ s : tm_S} (hn : n ≤ 12) (h3 : 3 ≤ n) (hK : K ≤ 12) (hI : I < 2 ^ 31) (F : tk_F n σ s) (hM : tk_NM n s) : WM (d + 4) 27 [.ref 1, .int (nI 2), .int (nI K), .int (nI I)] s (fun r t => (∃ z : Int32, r = some (.int z) ∧ tk_fd n 2 K I z) ∧ tk_F n σ t ∧ tk_NM n t) := by
  have hp : 2 ^ n ≤ 4096 := Nat.pow_le_pow_right (n := 2) (by decide) hn
  have h1n : ((1 : Int32) <<< (nI n &&& 31)) = nI (2 ^ n) := th_p24 n (by omega)
  have k11 : ∀ (t : tm_S), tk_F n σ t → tk_NM n t → (∀ v : Nat, v < 2 ^ n → t.1 16 v = nI (tk_nm n 2 v)) → ∀ f S : Nat, S + f = 2 ^ n → th_sm (tk_is n 2 K) S ≤ I → WP (d + 4) 27 11 [(5, .int (nI S)), (4, .int (nI (th_sm (tk_is n 2 K) S))), (0, .ref 1), (1, .int (nI 2)), (2, .int (nI K)), (3, .int (nI I))] [] t (fun r t => (∃ z : Int32, r = some (.int z) ∧ tk_fd n 2 K I z) ∧ tk_F n σ t ∧ tk_NM n t) := by
    intro t Ft Mt Vt f
    have hN := th_N0 Ft.1 hn
    induction f with
    | zero =>
      intro S hS hle
      obtain rfl : S = 2 ^ n := by omega
      refine wp_ldi rfl tm_m0 ?_
      refine wq_con (x := 1) rfl (by decide) ?_
      refine wp_lda rfl tm_m2 ?_
      refine wq_geti rfl rfl (f := 0) rfl rfl (Or.inl rfl) ?_
      rw [hN]
      refine wq_ishl rfl ?_
      rw [h1n]
      refine wq_icge rfl (fun h19 => ?_) (fun h19 => absurd (nI_le (Nat.le_refl _) (by omega)) h19)
      refine wq_con (x := (-1)) rfl (by decide) ?_
      exact wp_reti rfl (th_nI rfl) ⟨⟨_, rfl, Or.inr ⟨rfl, hle⟩⟩, Ft, Mt⟩
    | succ f ih =>
      intro S hS hle
      have lm : th_sm (tk_is n 2 K) S ≤ S := th_sm_le
      have e : th_sm (tk_is n 2 K) (S + 1) = th_sm (tk_is n 2 K) S + bif tk_is n 2 K S then 1 else 0 := rfl
      refine wp_ldi rfl tm_m0 ?_
      refine wq_con (x := 1) rfl (by decide) ?_
      refine wp_lda rfl tm_m2 ?_
      refine wq_geti rfl rfl (f := 0) rfl rfl (Or.inl rfl) ?_
      rw [hN]
      refine wq_ishl rfl ?_
      rw [h1n]
      refine wq_icge rfl (fun h19 => absurd h19 (nI_ge (by omega) (by omega))) (fun h19 => ?_)
      refine wp_lda rfl tm_m2 ?_
      refine wp_ldi rfl tm_m3 ?_
      refine wp_ldi rfl tm_m4 ?_
      refine wp_ldi rfl tm_m0 ?_
      refine wq_calv [.int (nI 2), .int (nI K), .int (nI S)] rfl rfl rfl rfl rfl rfl rfl rfl rfl (tk_ins2 hn hK (by omega) Vt) ?_
      rintro r27 _ ⟨hr27, rfl⟩
      obtain ⟨z27, rfl, hz27, hn27⟩ : ∃ z : Int32, r27 = some (.int z) ∧ (¬ z = 0 → tk_is n 2 K S = true) ∧ (z = 0 → ¬ tk_is n 2 K S = true) := by
        rcases hr27 with ⟨rfl, g⟩ | ⟨rfl, g⟩
        · exact ⟨_, rfl, fun _ => g, fun e => absurd e (by decide)⟩
        · exact ⟨_, rfl, fun e => absurd rfl e, fun _ => g⟩
      refine wq_ifeq rfl (fun h30 => ?_) (fun h30 => ?_)
      · refine wq_inc (c := 1) [(5, .int ((nI S) + 1)), (4, .int (nI (th_sm (tk_is n 2 K) S))), (0, .ref 1), (1, .int (nI 2)), (2, .int (nI K)), (3, .int (nI I))] rfl tm_m0 rfl rfl ?_
        refine wp_go rfl ?_
        rw [Bool.eq_false_iff.mpr (hn27 h30)] at e
        rw [nI_1, show th_sm (tk_is n 2 K) S = th_sm (tk_is n 2 K) (S + 1) from e.symm]
        exact WP.less (ih (S + 1) (by omega) (by rw [e]; exact hle)) (by simp)
      · refine wp_ldi rfl tm_m1 ?_
        refine wp_ldi rfl tm_m5 ?_
        refine wq_icne rfl (fun h36 => ?_) (fun h36 => ?_)
        · refine wq_inc (c := 1) [(4, .int ((nI (th_sm (tk_is n 2 K) S)) + 1)), (5, .int (nI S)), (0, .ref 1), (1, .int (nI 2)), (2, .int (nI K)), (3, .int (nI I))] rfl tm_m1 rfl rfl ?_
          refine wq_inc (c := 1) [(5, .int ((nI S) + 1)), (4, .int ((nI (th_sm (tk_is n 2 K) S)) + 1)), (0, .ref 1), (1, .int (nI 2)), (2, .int (nI K)), (3, .int (nI I))] rfl tm_m1 rfl rfl ?_
          refine wp_go rfl ?_
          have hne : ¬ th_sm (tk_is n 2 K) S = I := fun q => h36 (by rw [q])
          rw [hz27 h30] at e
          rw [nI_1, nI_1, show th_sm (tk_is n 2 K) S + 1 = th_sm (tk_is n 2 K) (S + 1) from e.symm]
          exact WP.less (ih (S + 1) (by omega) (by rw [e]; show _ + 1 ≤ I; omega)) (by simp)
        · refine wp_ldi rfl tm_m0 ?_
          exact wp_reti rfl (th_nI rfl) ⟨⟨_, rfl, Or.inl ⟨S, rfl, by omega, hz27 h30, (nI_eq (by omega) hI).mp (Classical.not_not.mp h36)⟩⟩, Ft, Mt⟩
  show WP (d + 4) 27 0 [(0, .ref 1), (1, .int (nI 2)), (2, .int (nI K)), (3, .int (nI I))] [] s _
  refine wp_lda rfl tm_m0 ?_
  refine wp_ldi rfl tm_m1 ?_
  refine wq_calv [.int (nI 2)] rfl rfl rfl rfl rfl rfl rfl rfl rfl (tk_all2 hn h3 F hM) ?_
  rintro _ t ⟨rfl, Ft, Mt, Vt⟩
  refine wq_con (x := nI 0) rfl (by decide) ?_
  refine wq_sti [(4, .int (nI 0)), (0, .ref 1), (1, .int (nI 2)), (2, .int (nI K)), (3, .int (nI I))] rfl rfl ?_
  refine wq_con (x := nI 0) rfl (by decide) ?_
  refine wq_sti [(5, .int (nI 0)), (4, .int (nI 0)), (0, .ref 1), (1, .int (nI 2)), (2, .int (nI K)), (3, .int (nI I))] rfl rfl ?_
  exact WP.less (k11 t Ft Mt Vt (2 ^ n) 0 (by omega) (Nat.zero_le _)) (by simp [th_sm])
