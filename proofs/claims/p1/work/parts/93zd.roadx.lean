/-! ===== roads: what both answer ===== -/
def tr_in (V : Nat → Nat) (t w : Nat) : Prop := ∃ i : Nat, i < t ∧ V i = w
theorem tr_inp {V : Nat → Nat} {t w x : Nat} (h : tr_in V t w) : tr_in (fun i => if i = t then x else V i) (t + 1) w := by
  obtain ⟨i, i1, i2⟩ := h
  exact ⟨i, by omega, by simp only [if_neg (show ¬ i = t by omega)]; exact i2⟩
theorem tr_inq {V : Nat → Nat} {t x : Nat} : tr_in (fun i => if i = t then x else V i) (t + 1) x := ⟨t, by omega, by simp only [if_true]⟩
theorem tr_ti {T : tv_TT} {s : tm_S} {f : Nat → Int32} (h : tv_TY T s) : tv_TY T s := h
set_option maxRecDepth 100000 in
set_option maxHeartbeats 4000000 in
theorem tr_fill {d n : Nat} {σ : tm_S} (hT : tv_TY (tc_T (n : Int)) σ) : WM d 16 [.ref 22, .int (-1)] σ (fun q t => q = none ∧ tv_TY (tc_T (n : Int)) t ∧ tv_un σ t [(22, 64)] ∧ ∀ v : Nat, v < 4096 → t.1 22 v = -1) := by
  have k5 : ∀ (f k : Nat) (t : tm_S), k + f = 4096 → tv_TY (tc_T (n : Int)) t → tv_un σ t [(22, 64)] → (∀ v : Nat, v < k → t.1 22 v = -1) → WP d 16 5 [(2, .int (nI k)), (3, .int 4096), (0, .ref 22), (1, .int ((-1)))] [] t (fun q t => q = none ∧ tv_TY (tc_T (n : Int)) t ∧ tv_un σ t [(22, 64)] ∧ ∀ v : Nat, v < 4096 → t.1 22 v = -1) := by
    intro f
    induction f with
    | zero =>
      intro k t hk Tt Ut hx
      obtain rfl : k = 4096 := by omega
      refine wp_ldi rfl tm_m0 ?_
      refine wp_ldi rfl tm_m1 ?_
      refine wq_icge rfl (fun h7 => ?_) (fun h7 => absurd (by decide) h7)
      exact wp_retv rfl ⟨rfl, Tt, Ut, hx⟩
    | succ f ih =>
      intro k t hk Tt Ut hx
      refine wp_ldi rfl tm_m0 ?_
      refine wp_ldi rfl tm_m1 ?_
      refine wq_icge rfl (fun h7 => absurd h7 (nI_ge (a := k) (b := 4096) (by omega) (by decide))) (fun h7 => ?_)
      refine wp_lda rfl tm_m2 ?_
      refine wp_ldi rfl tm_m0 ?_
      refine wp_ldi rfl tm_m3 ?_
      refine wp_iast rfl rfl (nI_in (by omega) (by decide)) ?_
      refine wq_inc (c := 1) [(2, .int ((nI k) + 1)), (3, .int 4096), (0, .ref 22), (1, .int ((-1)))] rfl tm_m0 rfl rfl ?_
      refine wp_go rfl ?_
      have ck : (nI k).toNatClampNeg = k := nI_clamp (by omega)
      rw [nI_1]
      refine WP.less (ih (k + 1) _ (by omega) (tv_TY_row Tt (ty := ((-2147483648), 2147483647)) (fun _ => rfl) (by decide) (by decide)) (tv_un_tr Ut (tv_un_ar rfl rfl)) (fun x hx2 => ?_)) (by simp)
      rw [tm_gI, ck]
      split
      · rfl
      · rename_i e
        exact hx x (by have : ¬ x = k := fun e2 => e ⟨rfl, e2⟩; omega)
  show WP d 16 0 [(0, .ref 22), (1, .int (-1))] [] σ _
  refine wq_con (x := nI 0) rfl (by decide) ?_
  refine wq_sti [(2, .int (nI 0)), (0, .ref 22), (1, .int ((-1)))] rfl rfl ?_
  refine wp_lda rfl tm_m1 ?_
  refine wq_len (x := 4096) rfl rfl (by decide) ?_
  refine wq_sti [(3, .int 4096), (2, .int (nI 0)), (0, .ref 22), (1, .int ((-1)))] rfl rfl ?_
  exact WP.less (k5 4096 0 σ (by omega) hT tv_un_rf (fun v hv => absurd hv (by omega))) (by simp)
def tr_st (s : tm_S) (w e t : Nat) : tm_S := tm_sI (tm_sI (tm_sI s 22 w (nI e)) 23 t (nI w)) 3 2 (nI (t + 1))
def tr_X (n c : Nat) (σ s : tm_S) (V D : Nat → Nat) (h t : Nat) : Prop := (tv_TY (tc_T (n : Int)) s ∧ tv_un σ s [(3, 2), (22, 64), (23, 64)]) ∧ s.1 3 2 = nI t ∧ tr_I n (fun v => v ∈ tg_I n 1 c n) (s.1 22) (s.1 23) V D h t
theorem tr_Xs {n : Nat} {σ s : tm_S} {w e t : Nat} (hw : w < 4096) (ht : t < 4096) (h : tv_TY (tc_T (n : Int)) s ∧ tv_un σ s [(3, 2), (22, 64), (23, 64)]) : tv_TY (tc_T (n : Int)) (tr_st s w e t) ∧ tv_un σ (tr_st s w e t) [(3, 2), (22, 64), (23, 64)] := by
  have ew : (nI w).toInt = w := nI_toInt (by omega)
  have et : (nI (t + 1)).toInt = (t + 1 : Nat) := nI_toInt (by omega)
  exact ⟨tv_TY_sI (tv_TY_row (tv_TY_row h.1 (ty := ((-2147483648), 2147483647)) (fun _ => rfl) (tn_rng _).1 (tn_rng _).2) (ty := (0, 4095)) (fun _ => rfl) (by rw [ew]; show (0 : Int) ≤ _; omega) (by rw [ew]; show _ ≤ (4095 : Int); omega)) (by rw [et]; show (0 : Int) ≤ _; omega) (by rw [et]; show _ ≤ (4096 : Int); omega), tv_un_tr (tv_un_tr (tv_un_tr h.2 (tv_un_ar rfl rfl)) (tv_un_ar rfl rfl)) (tv_un_fI rfl)⟩
theorem tr_Xg {s : tm_S} {w e t : Nat} : (tr_st s w e t).1 3 2 = nI (t + 1) ∧ (tr_st s w e t).1 22 w = nI e ∧ (∀ v : Nat, ¬ v = w → (tr_st s w e t).1 22 v = s.1 22 v) ∧ (tr_st s w e t).1 23 t = nI w ∧ ∀ i : Nat, ¬ i = t → (tr_st s w e t).1 23 i = s.1 23 i := by
  unfold tr_st
  refine ⟨by rw [tm_gI, if_pos ⟨rfl, rfl⟩], ?_, fun v hv => ?_, ?_, fun i hi => ?_⟩
  · rw [tm_gI, if_neg (fun z => absurd z.1 (by decide)), tm_gI, if_neg (fun z => absurd z.1 (by decide)), tm_gI, if_pos ⟨rfl, rfl⟩]
  · rw [tm_gI, if_neg (fun z => absurd z.1 (by decide)), tm_gI, if_neg (fun z => absurd z.1 (by decide)), tm_gI, if_neg (fun z => hv z.2)]
  · rw [tm_gI, if_neg (fun z => absurd z.1 (by decide)), tm_gI, if_pos ⟨rfl, rfl⟩]
  · rw [tm_gI, if_neg (fun z => absurd z.1 (by decide)), tm_gI, if_neg (fun z => hi z.2), tm_gI, if_neg (fun z => absurd z.1 (by decide))]
set_option maxRecDepth 100000 in
set_option maxHeartbeats 4000000 in
theorem tr_reach {d w e t : Nat} {s : tm_S} (hw : w < 4096) (ht : s.1 22 w = -1 → t < 4096) (ht2 : t ≤ 4096) (hq : s.1 3 2 = nI t) : WM d 50 [.ref 3, .int (nI w), .int (nI e)] s (fun q s' => q = none ∧ ((¬ s.1 22 w = -1 ∧ s' = s) ∨ (s.1 22 w = -1 ∧ s' = tr_st s w e t))) := by
  show WP d 50 0 [(0, .ref 3), (1, .int (nI w)), (2, .int (nI e))] [] s _
  refine wp_lda rfl tm_m0 ?_
  refine wq_getr (p := 22) rfl rfl (f := 0) rfl rfl ?_
  refine wp_ldi rfl tm_m1 ?_
  refine wp_iald rfl rfl (nI_in hw (by decide)) ?_
  rw [nI_clamp (n := w) (by omega)]
  refine wq_con (x := (-1)) rfl (by decide) ?_
  refine wq_icne rfl (fun h7 => ?_) (fun h7 => ?_)
  · exact wp_retv rfl ⟨rfl, Or.inl ⟨h7, rfl⟩⟩
  · refine wp_lda rfl tm_m0 ?_
    refine wq_geti rfl rfl (f := 2) rfl rfl (Or.inl rfl) ?_
    rw [hq]
    refine wp_lda rfl tm_m0 ?_
    refine wq_getr (p := 23) rfl rfl (f := 1) rfl rfl ?_
    refine wq_len (x := 4096) rfl rfl (by decide) ?_
    refine wq_icge rfl (fun h19 => absurd h19 (nI_ge (a := t) (b := 4096) (ht (Classical.not_not.mp h7)) (by decide))) (fun h19 => ?_)
    refine wp_lda rfl tm_m0 ?_
    refine wq_getr (p := 22) rfl rfl (f := 0) rfl rfl ?_
    refine wp_ldi rfl tm_m1 ?_
    refine wp_ldi rfl tm_m2 ?_
    refine wp_iast rfl rfl (nI_in hw (by decide)) ?_
    refine wp_lda rfl tm_m0 ?_
    refine wq_getr (p := 23) rfl rfl (f := 1) rfl rfl ?_
    refine wp_lda rfl tm_m0 ?_
    refine wq_geti rfl rfl (f := 2) rfl rfl (Or.inl rfl) ?_
    rw [tm_gI, if_neg (fun z => absurd z.1 (by decide)), hq]
    refine wp_ldi rfl tm_m1 ?_
    refine wp_iast rfl rfl (nI_in (ht (Classical.not_not.mp h7)) (by decide)) ?_
    refine wp_lda rfl tm_m0 ?_
    refine wp_dup rfl rfl ?_
    refine wq_geti rfl rfl (f := 2) rfl rfl (Or.inl rfl) ?_
    rw [tm_gI, if_neg (fun z => absurd z.1 (by decide)), tm_gI, if_neg (fun z => absurd z.1 (by decide)), hq]
    refine wq_con (x := 1) rfl (by decide) ?_
    refine wq_iadd rfl ?_
    rw [nI_1]
    refine wq_puti rfl rfl (f := 2) rfl rfl ?_
    refine wp_retv rfl ⟨rfl, Or.inr ⟨Classical.not_not.mp h7, ?_⟩⟩
    unfold tr_st
    rw [nI_clamp (n := w) (by omega), nI_clamp (n := t) (by omega)]
theorem tr_rg {d n c w t : Nat} {V D : Nat → Nat} {σ s : tm_S} (hn : n ≤ 12) (hX : tr_X n c σ s V D 0 t) (hD : ∀ i : Nat, i < t → D i = 0) (hw : w < 2 ^ n) (hc : w ∈ tg_I n 1 c n) : WM d 50 [.ref 3, .int (nI w), .int (nI 0)] s (fun q s' => q = none ∧ ∃ (V' D' : Nat → Nat) (t' : Nat), tr_X n c σ s' V' D' 0 t' ∧ (∀ i : Nat, i < t' → D' i = 0) ∧ (∀ x : Nat, tr_in V t x → tr_in V' t' x) ∧ tr_in V' t' w) := by
  have hp : 2 ^ n ≤ 4096 := Nat.pow_le_pow_right (n := 2) (by decide) hn
  obtain ⟨F, hq, hI⟩ := hX
  have ht : s.1 22 w = -1 → t < 4096 := fun e => tr_t1 hI (by omega) e
  refine WM.mono (tr_reach (by omega) ht (tr_t hI) hq) ?_
  rintro q s1 ⟨rfl, ⟨h1, rfl⟩ | ⟨h1, rfl⟩⟩
  · exact ⟨rfl, V, D, t, ⟨F, hq, hI⟩, hD, fun x hx => hx, hI.2.1 w hw h1⟩
  · obtain ⟨g1, g2, g3, g4, g5⟩ := tr_Xg (s := s) (w := w) (e := 0) (t := t)
    refine ⟨rfl, _, _, t + 1, ⟨tr_Xs (by omega) (ht h1) F, g1, tr_put (e := 0) hn hI hw h1 ⟨hc, fun k hk => absurd hk (by omega)⟩ (by omega) (fun k hk => Nat.le_of_eq (hD k hk)) (fun hh => by omega) g2 g3 g4 g5⟩, fun i hi => ?_, fun x hx => tr_inp hx, tr_inq⟩
    by_cases q : i = t
    · simp only [if_pos q]
    · simp only [if_neg q]
      exact hD i (by omega)
theorem tr_rn {d n c w h t : Nat} {V D : Nat → Nat} {σ s : tm_S} (hn : n ≤ 12) (h3 : 3 ≤ n) (hX : tr_X n c σ s V D h t) (hS : tr_S (fun v => v ∈ tg_I n 1 c n) V t) (hh : h < t) (hw : tr_adj n (V h) w) : WM d 50 [.ref 3, .int (nI w), .int (nI (D h + 1))] s (fun q s' => q = none ∧ ∃ (V' D' : Nat → Nat) (t' : Nat), tr_X n c σ s' V' D' h t' ∧ tr_S (fun v => v ∈ tg_I n 1 c n) V' t' ∧ h < t' ∧ V' h = V h ∧ D' h = D h ∧ (∀ x : Nat, tr_in V t x → tr_in V' t' x) ∧ tr_in V' t' w) := by
  have hp : 2 ^ n ≤ 4096 := Nat.pow_le_pow_right (n := 2) (by decide) hn
  obtain ⟨F, hq, hI⟩ := hX
  have lw := tr_adl h3 (hI.1 h hh).2.1 hw
  have ht : s.1 22 w = -1 → t < 4096 := fun e => tr_t1 hI (by omega) e
  refine WM.mono (tr_reach (by omega) ht (tr_t hI) hq) ?_
  rintro q s1 ⟨rfl, ⟨h1, rfl⟩ | ⟨h1, rfl⟩⟩
  · exact ⟨rfl, V, D, t, ⟨F, hq, hI⟩, hS, hh, rfl, rfl, fun x hx => hx, hI.2.1 w lw h1⟩
  · obtain ⟨g1, g2, g3, g4, g5⟩ := tr_Xg (s := s) (w := w) (e := D h + 1) (t := t)
    obtain ⟨p1, p2⟩ := tr_put1 hn h3 hI hS hh hw h1 g2 g3 g4 g5
    exact ⟨rfl, _, _, t + 1, ⟨tr_Xs (by omega) (ht h1) F, g1, p1⟩, p2, by omega, if_neg (by omega), if_neg (by omega), fun x hx => tr_inp hx, tr_inq⟩
theorem tr_g1 {n c u : Nat} (hc : c < 2 ^ n) (hn : n ≤ 12) (h3 : 3 ≤ n) (hu : u < n) : th_R n c u = th_im n c 1 u n ∧ th_R n c u ∈ tg_I n 1 c n := by
  have e : th_R n c u = th_im n c 1 u n := by
    have := th_im_rot (n := n) (S := c) (m := 1) (t := u) (by omega) hu
    rw [tg_one hc] at this
    exact this
  refine ⟨e, ?_⟩
  rw [e]
  exact tg_in (by omega) (th_fy (Nat.le_refl _) (by omega) (Or.inr ⟨by decide, Or.inl rfl⟩)) hu
theorem tr_g2 {n c u : Nat} (hn : n ≤ 12) (h3 : 3 ≤ n) (hu : u < n) : th_R n (th_im n c (n - 1) 0 n) u = th_im n c (n - 1) u n ∧ th_R n (th_im n c (n - 1) 0 n) u ∈ tg_I n 1 c n := by
  have e := th_im_rot (n := n) (S := c) (m := n - 1) (t := u) (by omega) hu
  refine ⟨e, ?_⟩
  rw [e]
  exact tg_in (by omega) (th_fy (by omega) (by omega) (Or.inr ⟨by decide, Or.inr ⟨rfl, rfl⟩⟩)) hu
set_option maxRecDepth 100000 in
set_option maxHeartbeats 4000000 in
theorem tr_start {d n c : Nat} {σ s : tm_S} (hn : n ≤ 12) (h3 : 3 ≤ n) (hc : c < 2 ^ n) (hX : tr_X n c σ s (fun _ => 0) (fun _ => 0) 0 0) : WM (d + 1) 49 [.ref 3, .ref 1, .int (nI c)] s (fun q s' => q = none ∧ ∃ (V D : Nat → Nat) (t : Nat), tr_X n c σ s' V D 0 t ∧ tr_S (fun v => v ∈ tg_I n 1 c n) V t) := by
  have hp : 2 ^ n ≤ 4096 := Nat.pow_le_pow_right (n := 2) (by decide) hn
  have hN := th_N0 hX.1.1 hn
  have lm : th_im n c (n - 1) 0 n < 2 ^ n := th_im_lt (by omega) n
  have k18 : ∀ (f u : Nat) (V D : Nat → Nat) (t : Nat) (s : tm_S), u + f = n → tr_X n c σ s V D 0 t → (∀ i : Nat, i < t → D i = 0) → (∀ x : Nat, x < u → tr_in V t (th_im n c 1 x n) ∧ tr_in V t (th_im n c (n - 1) x n)) → WP (d + 1) 49 18 [(5, .int (nI u)), (4, .int (nI (th_im n c (n - 1) 0 n))), (3, .int (nI n)), (0, .ref 3), (1, .ref 1), (2, .int (nI c))] [] s (fun q s' => q = none ∧ ∃ (V D : Nat → Nat) (t : Nat), tr_X n c σ s' V D 0 t ∧ tr_S (fun v => v ∈ tg_I n 1 c n) V t) := by
    intro f
    induction f with
    | zero =>
      intro u V D t s hu hX hD hg
      obtain rfl : u = n := by omega
      refine wp_ldi rfl tm_m0 ?_
      refine wp_ldi rfl tm_m2 ?_
      refine wq_icge rfl (fun h21 => ?_) (fun h21 => absurd (nI_le (Nat.le_refl _) (by omega)) h21)
      refine wp_retv rfl ⟨rfl, V, D, t, hX, fun v hv => ?_⟩
      obtain ⟨m, m1, m2, x, x1, rfl⟩ := tg_mem hv
      rcases th_fz m2 with ⟨e, -⟩ | ⟨-, rfl | ⟨-, rfl⟩⟩
      · exact absurd e (by decide)
      · exact (hg x x1).1
      · exact (hg x x1).2
    | succ f ih =>
      intro u V D t s hu hX hD hg
      have hun : u < n := by omega
      obtain ⟨g1, g2⟩ := tr_g1 hc hn h3 hun
      obtain ⟨g3, g4⟩ := tr_g2 (c := c) hn h3 hun
      have l1 := tg_lt (by omega) g2
      have l2 := tg_lt (by omega) g4
      refine wp_ldi rfl tm_m0 ?_
      refine wp_ldi rfl tm_m2 ?_
      refine wq_icge rfl (fun h21 => absurd h21 (nI_ge (by omega) (by omega))) (fun h21 => ?_)
      refine wp_lda rfl tm_m3 ?_
      refine wp_ldi rfl tm_m5 ?_
      refine wp_ldi rfl tm_m0 ?_
      refine wp_ldi rfl tm_m2 ?_
      refine wq_cals [.int (nI c), .int (nI u), .int (nI n)] rfl rfl rfl rfl rfl rfl (th_trnd (by omega) hc hun) ?_
      rintro _ _ ⟨rfl, rfl⟩
      refine wq_con (x := nI 0) rfl (by decide) ?_
      refine wq_calv [.int (nI (th_R n c u)), .int (nI 0)] rfl rfl rfl rfl rfl rfl rfl rfl rfl (tr_rg hn hX hD l1 g2) ?_
      rintro _ s1 ⟨rfl, V1, D1, t1, X1, E1, M1, I1⟩
      refine wp_lda rfl tm_m3 ?_
      refine wp_ldi rfl tm_m1 ?_
      refine wp_ldi rfl tm_m0 ?_
      refine wp_ldi rfl tm_m2 ?_
      refine wq_cals [.int (nI (th_im n c (n - 1) 0 n)), .int (nI u), .int (nI n)] rfl rfl rfl rfl rfl rfl (th_trnd (by omega) lm hun) ?_
      rintro _ _ ⟨rfl, rfl⟩
      refine wq_con (x := nI 0) rfl (by decide) ?_
      refine wq_calv [.int (nI (th_R n (th_im n c (n - 1) 0 n) u)), .int (nI 0)] rfl rfl rfl rfl rfl rfl rfl rfl rfl (tr_rg hn X1 E1 l2 g4) ?_
      rintro _ s2 ⟨rfl, V2, D2, t2, X2, E2, M2, I2⟩
      refine wq_inc (c := 1) [(5, .int ((nI u) + 1)), (4, .int (nI (th_im n c (n - 1) 0 n))), (3, .int (nI n)), (0, .ref 3), (1, .ref 1), (2, .int (nI c))] rfl tm_m0 rfl rfl ?_
      refine wp_go rfl ?_
      rw [nI_1]
      refine WP.less (ih (u + 1) V2 D2 t2 s2 (by omega) X2 E2 (fun x hx => ?_)) (by simp)
      by_cases e : x = u
      · subst e
        rw [g1] at I1
        rw [g3] at I2
        exact ⟨M2 _ I1, I2⟩
      · obtain ⟨a1, a2⟩ := hg x (by omega)
        exact ⟨M2 _ (M1 _ a1), M2 _ (M1 _ a2)⟩
  show WP (d + 1) 49 0 [(0, .ref 3), (1, .ref 1), (2, .int (nI c))] [] s _
  refine wp_lda rfl tm_m1 ?_
  refine wq_calv [] rfl rfl rfl rfl rfl rfl rfl rfl rfl (th_size) ?_
  rintro _ _ ⟨rfl, rfl⟩
  rw [hN]
  refine wq_sti [(3, .int (nI n)), (0, .ref 3), (1, .ref 1), (2, .int (nI c))] rfl rfl ?_
  refine wp_lda rfl tm_m2 ?_
  refine wp_ldi rfl tm_m3 ?_
  refine wp_ldi rfl tm_m0 ?_
  refine wq_con (x := 1) rfl (by decide) ?_
  refine wq_isub rfl ?_
  rw [show (1 : Int32) = nI 1 from rfl, th_subN (by omega) (by omega)]
  refine wq_calv [.int (nI c), .int (nI (n - 1))] rfl rfl rfl rfl rfl rfl rfl rfl rfl (th_mult hN hn hc (by omega)) ?_
  rintro _ _ ⟨rfl, rfl⟩
  refine wq_sti [(4, .int (nI (th_im n c (n - 1) 0 n))), (3, .int (nI n)), (0, .ref 3), (1, .ref 1), (2, .int (nI c))] rfl rfl ?_
  refine wq_con (x := nI 0) rfl (by decide) ?_
  refine wq_sti [(5, .int (nI 0)), (4, .int (nI (th_im n c (n - 1) 0 n))), (3, .int (nI n)), (0, .ref 3), (1, .ref 1), (2, .int (nI c))] rfl rfl ?_
  exact WP.less (k18 n 0 _ _ 0 s (by omega) hX (fun i hi => absurd hi (by omega)) (fun x hx => absurd hx (by omega))) (by simp)
theorem tr_and {u x y : Nat} : u &&& (2 ^ x ||| 2 ^ y) = (if u.testBit x = true then 2 ^ x else 0) ||| (if u.testBit y = true then 2 ^ y else 0) := by
  apply Nat.eq_of_testBit_eq
  intro i
  rw [Nat.testBit_and, Nat.testBit_or, Nat.testBit_or]
  have h : ∀ z : Nat, (if u.testBit z = true then 2 ^ z else 0).testBit i = (u.testBit i && (2 ^ z).testBit i) := fun z => by
    rw [Nat.testBit_two_pow]
    by_cases e : z = i
    · subst e
      by_cases c : u.testBit z = true
      · rw [if_pos c, Nat.testBit_two_pow_self, c]
        simp
      · rw [if_neg c, Nat.zero_testBit, Bool.eq_false_iff.mpr c]
        rfl
    · by_cases c : u.testBit z = true
      · rw [if_pos c, Nat.testBit_two_pow]
        simp [e]
      · rw [if_neg c, Nat.zero_testBit]
        simp [e]
  rw [h, h]
  cases u.testBit i <;> simp
theorem tr_pok : (List.range 12).all (fun x => (List.range 12).all (fun y => Nat.beq x y || (Nat.beq (th_po (2 ^ x ||| 2 ^ y) 12) 2 && Nat.beq (th_po (2 ^ x) 12) 1))) = true := by decide +kernel
theorem tr_po {x y : Nat} (hx : x < 12) (hy : y < 12) (h : ¬ x = y) : th_po (2 ^ x ||| 2 ^ y) 12 = 2 ∧ th_po (2 ^ x) 12 = 1 := by
  have h1 := List.all_eq_true.mp (List.all_eq_true.mp tr_pok x (List.mem_range.mpr hx)) y (List.mem_range.mpr hy)
  rw [Bool.or_eq_true] at h1
  rcases h1 with h1 | h1
  · exact absurd (Nat.eq_of_beq_eq_true h1) h
  · rw [Bool.and_eq_true] at h1
    exact ⟨Nat.eq_of_beq_eq_true h1.1, Nat.eq_of_beq_eq_true h1.2⟩
theorem tr_b1 {n u x : Nat} (hn : n ≤ 12) (h3 : 3 ≤ n) (hx : x < n) : th_po (u &&& tr_bo n x) 12 = 1 ↔ ¬ u.testBit x = u.testBit (tr_nx n x) := by
  obtain ⟨y1, y2⟩ := tr_nxo h3 hx
  unfold tr_bo
  rw [tr_and]
  have p0 : th_po 0 12 = 0 := by decide
  have p1 := tr_po (x := x) (y := tr_nx n x) (by omega) (by omega) (fun e => y2 e.symm)
  have p2 := tr_po (x := tr_nx n x) (y := x) (by omega) (by omega) y2
  cases u.testBit x <;> cases u.testBit (tr_nx n x) <;> simp [p0, p1.1, p1.2, p2.2]
theorem tr_nIx {a c : Nat} (ha : a < 4096) (hc : c < 4096) : nI a ^^^ nI c = nI (a ^^^ c) := by
  have h2 : a ^^^ c < 2 ^ 12 := Nat.xor_lt_two_pow ha hc
  refine th_iof ?_ (by omega)
  rw [tn_xor, th_nn (by omega), th_nn (by omega)]
theorem tr_nIo {x y : Nat} (hx : x < 12) (hy : y < 12) : (1 : Int32) <<< (nI x &&& 31) ||| (1 : Int32) <<< (nI y &&& 31) = nI (2 ^ x ||| 2 ^ y) := by
  rw [th_1p x hx, th_nIor (Nat.pow_lt_pow_right (by decide) (by omega)) (by omega)]
set_option maxRecDepth 100000 in
set_option maxHeartbeats 4000000 in
theorem tr_move {d n c h t u : Nat} {V D : Nat → Nat} {σ s : tm_S} (hn : n ≤ 12) (h3 : 3 ≤ n) (hX : tr_X n c σ s V D h t) (hS : tr_S (fun v => v ∈ tg_I n 1 c n) V t) (hh : h < t) (hu : V h = u) : WM (d + 1) 51 [.ref 3, .int (nI u), .int (nI n)] s (fun q s' => q = none ∧ ∃ (V' D' : Nat → Nat) (t' : Nat), tr_X n c σ s' V' D' h t' ∧ tr_S (fun v => v ∈ tg_I n 1 c n) V' t' ∧ h < t' ∧ V' h = u ∧ ∀ w : Nat, tr_adj n u w → tr_in V' t' w) := by
  have hp : 2 ^ n ≤ 4096 := Nat.pow_le_pow_right (n := 2) (by decide) hn
  have lu : u < 2 ^ n := by rw [← hu]; exact (hX.2.2.1 h hh).2.1
  have k2 : ∀ (f x : Nat) (V D : Nat → Nat) (t : Nat) (s : tm_S), x + f = n → tr_X n c σ s V D h t → tr_S (fun v => v ∈ tg_I n 1 c n) V t → h < t → V h = u → (∀ i : Nat, i < x → ¬ u.testBit i = u.testBit (tr_nx n i) → tr_in V t (u ^^^ tr_bo n i)) → WP (d + 1) 51 2 [(3, .int (nI x)), (0, .ref 3), (1, .int (nI u)), (2, .int (nI n))] [] s (fun q s' => q = none ∧ ∃ (V' D' : Nat → Nat) (t' : Nat), tr_X n c σ s' V' D' h t' ∧ tr_S (fun v => v ∈ tg_I n 1 c n) V' t' ∧ h < t' ∧ V' h = u ∧ ∀ w : Nat, tr_adj n u w → tr_in V' t' w) := by
    intro f
    induction f with
    | zero =>
      intro x V D t s hx hX hS hh hu hg
      obtain rfl : x = n := by omega
      refine wp_ldi rfl tm_m0 ?_
      refine wp_ldi rfl tm_m3 ?_
      refine wq_icge rfl (fun h4 => ?_) (fun h4 => absurd (nI_le (Nat.le_refl _) (by omega)) h4)
      refine wp_retv rfl ⟨rfl, V, D, t, hX, hS, hh, hu, fun w hw => ?_⟩
      obtain ⟨i, i1, i2, rfl⟩ := hw
      exact hg i i1 i2
    | succ f ih =>
      intro x V D t s hx hX hS hh hu hg
      have hxn : x < n := by omega
      obtain ⟨y1, y2⟩ := tr_nxo h3 hxn
      have lb := tr_bol h3 hxn
      have la : u &&& tr_bo n x < 2 ^ n := Nat.and_lt_two_pow _ lb
      have lp : th_po (u &&& tr_bo n x) 12 ≤ 12 := th_sm_le
      have hb1 := tr_b1 (u := u) hn h3 hxn
      have hf : s.1 22 u = nI (D h) := by rw [← hu]; exact (hX.2.2.1 h hh).2.2.1
      have k21 : WP (d + 1) 51 21 [(3, .int (nI x)), (0, .ref 3), (1, .int (nI u)), (2, .int (nI n))] [.int (nI (tr_nx n x))] s (fun q s' => q = none ∧ ∃ (V' D' : Nat → Nat) (t' : Nat), tr_X n c σ s' V' D' h t' ∧ tr_S (fun v => v ∈ tg_I n 1 c n) V' t' ∧ h < t' ∧ V' h = u ∧ ∀ w : Nat, tr_adj n u w → tr_in V' t' w) := by
        refine wq_sti [(4, .int (nI (tr_nx n x))), (3, .int (nI x)), (0, .ref 3), (1, .int (nI u)), (2, .int (nI n))] rfl rfl ?_
        refine wq_con (x := 1) rfl (by decide) ?_
        refine wp_ldi rfl tm_m1 ?_
        refine wq_ishl rfl ?_
        refine wq_con (x := 1) rfl (by decide) ?_
        refine wp_ldi rfl tm_m0 ?_
        refine wq_ishl rfl ?_
        refine wq_ior rfl ?_
        rw [tr_nIo (by omega) (by omega), show 2 ^ x ||| 2 ^ tr_nx n x = tr_bo n x from rfl]
        refine wq_sti [(5, .int (nI (tr_bo n x))), (4, .int (nI (tr_nx n x))), (3, .int (nI x)), (0, .ref 3), (1, .int (nI u)), (2, .int (nI n))] rfl rfl ?_
        refine wp_ldi rfl tm_m4 ?_
        refine wp_ldi rfl tm_m0 ?_
        refine wq_iand rfl ?_
        rw [th_and24 (by omega) (by omega)]
        refine wq_cals [.int (nI (u &&& tr_bo n x))] rfl rfl rfl rfl rfl rfl (th_bitCount (nI (u &&& tr_bo n x)) (Q := th_is (.int (nI (th_po (u &&& tr_bo n x) 12))) s) ⟨by rw [th_bn (by omega)], rfl⟩) ?_
        rintro _ _ ⟨rfl, rfl⟩
        refine wq_con (x := 1) rfl (by decide) ?_
        refine wq_icne rfl (fun h41 => ?_) (fun h41 => ?_)
        · refine wq_inc (c := 1) [(3, .int ((nI x) + 1)), (5, .int (nI (tr_bo n x))), (4, .int (nI (tr_nx n x))), (0, .ref 3), (1, .int (nI u)), (2, .int (nI n))] rfl tm_m2 rfl rfl ?_
          refine wp_go rfl ?_
          rw [nI_1]
          refine WP.less (ih (x + 1) V D t s (by omega) hX hS hh hu (fun i hi hd => ?_)) (by simp)
          by_cases e : i = x
          · subst e
            exact absurd (by rw [hb1.mpr hd]; rfl) h41
          · exact hg i (by omega) hd
        · have hadj : tr_adj n (V h) (u ^^^ tr_bo n x) := by
            rw [hu]
            exact ⟨x, hxn, hb1.mp ((nI_eq (a := th_po (u &&& tr_bo n x) 12) (b := 1) (by omega) (by decide)).mp (Classical.not_not.mp h41)), rfl⟩
          refine wp_lda rfl tm_m3 ?_
          refine wp_ldi rfl tm_m4 ?_
          refine wp_ldi rfl tm_m0 ?_
          refine wq_ixor rfl ?_
          rw [tr_nIx (by omega) (by omega)]
          refine wp_lda rfl tm_m3 ?_
          refine wq_getr (p := 22) rfl rfl (f := 0) rfl rfl ?_
          refine wp_ldi rfl tm_m4 ?_
          refine wp_iald rfl rfl (nI_in (by omega) (by decide)) ?_
          rw [nI_clamp (n := u) (by omega), hf]
          refine wq_con (x := 1) rfl (by decide) ?_
          refine wq_iadd rfl ?_
          rw [nI_1]
          refine wq_calv [.int (nI (u ^^^ tr_bo n x)), .int (nI (D h + 1))] rfl rfl rfl rfl rfl rfl rfl rfl rfl (tr_rn hn h3 hX hS hh hadj) ?_
          rintro _ s1 ⟨rfl, V1, D1, t1, X1, S1, H1, e1, -, M1, I1⟩
          refine wq_inc (c := 1) [(3, .int ((nI x) + 1)), (5, .int (nI (tr_bo n x))), (4, .int (nI (tr_nx n x))), (0, .ref 3), (1, .int (nI u)), (2, .int (nI n))] rfl tm_m2 rfl rfl ?_
          refine wp_go rfl ?_
          rw [nI_1]
          refine WP.less (ih (x + 1) V1 D1 t1 s1 (by omega) X1 S1 H1 (e1.trans hu) (fun i hi hd => ?_)) (by simp)
          by_cases e : i = x
          · subst e
            exact I1
          · exact M1 _ (hg i (by omega) hd)
      refine wp_ldi rfl tm_m0 ?_
      refine wp_ldi rfl tm_m3 ?_
      refine wq_icge rfl (fun h4 => absurd h4 (nI_ge (by omega) (by omega))) (fun h4 => ?_)
      refine wp_ldi rfl tm_m0 ?_
      refine wq_con (x := 1) rfl (by decide) ?_
      refine wq_iadd rfl ?_
      rw [nI_1]
      refine wp_ldi rfl tm_m3 ?_
      refine wq_icge rfl (fun h11 => ?_) (fun h11 => ?_)
      · refine wq_con (x := nI 0) rfl (by decide) ?_
        rw [show nI 0 = nI (tr_nx n x) by unfold tr_nx; rw [if_neg (fun q => absurd h11 (nI_ge q (by omega)))]]
        exact k21
      · refine wp_ldi rfl tm_m0 ?_
        refine wq_con (x := 1) rfl (by decide) ?_
        refine wq_iadd rfl ?_
        rw [nI_1]
        refine wp_go rfl ?_
        rw [show nI (x + 1) = nI (tr_nx n x) by unfold tr_nx; rw [if_pos (Classical.byContradiction (fun q => h11 (nI_le (by omega) (by omega))))]]
        exact k21
  show WP (d + 1) 51 0 [(0, .ref 3), (1, .int (nI u)), (2, .int (nI n))] [] s _
  refine wq_con (x := nI 0) rfl (by decide) ?_
  refine wq_sti [(3, .int (nI 0)), (0, .ref 3), (1, .int (nI u)), (2, .int (nI n))] rfl rfl ?_
  exact WP.less (k2 n 0 V D t s (by omega) hX hS hh hu (fun i hi => absurd hi (by omega))) (by simp)
set_option maxRecDepth 100000 in
set_option maxHeartbeats 4000000 in
theorem tr_few {d n a c : Nat} {σ : tm_S} (hn : n ≤ 12) (h3 : 3 ≤ n) (ha : a < 2 ^ n) (hc : c < 2 ^ n) (hT : tv_TY (tc_T (n : Int)) σ) : WM (d + 2) 48 [.ref 3, .ref 1, .int (nI a), .int (nI c)] σ (fun q s' => ∃ z : Int32, q = some (.int z) ∧ tr_A n a c z ∧ tv_TY (tc_T (n : Int)) s' ∧ tv_un σ s' [(3, 2), (22, 64), (23, 64)]) := by
  have hp : 2 ^ n ≤ 4096 := Nat.pow_le_pow_right (n := 2) (by decide) hn
  have k22 : ∀ (f i : Nat) (V D : Nat → Nat) (t : Nat) (s : tm_S), 4096 ≤ i + f → tr_X n c σ s V D i t → tr_S (fun v => v ∈ tg_I n 1 c n) V t → WP (d + 2) 48 22 [(4, .int (nI i)), (0, .ref 3), (1, .ref 1), (2, .int (nI a)), (3, .int (nI c))] [] s (fun q s' => ∃ z : Int32, q = some (.int z) ∧ tr_A n a c z ∧ tv_TY (tc_T (n : Int)) s' ∧ tv_un σ s' [(3, 2), (22, 64), (23, 64)]) := by
    intro f
    induction f with
    | zero =>
      intro i V D t s hi hX hS
      have tl := tr_t hX.2.2
      have hit2 : i ≤ t := hX.2.2.2.2.2.2.2.2
      have hN := th_N0 hX.1.1 hn
      refine wp_ldi rfl tm_m0 ?_
      refine wp_lda rfl tm_m1 ?_
      refine wq_geti rfl rfl (f := 2) rfl rfl (Or.inl rfl) ?_
      rw [hX.2.1]
      refine wq_icge rfl (fun h28 => ?_) (fun h28 => absurd (nI_le (by omega) (by omega)) h28)
      refine wp_lda rfl tm_m1 ?_
      refine wq_getr (p := 22) rfl rfl (f := 0) rfl rfl ?_
      refine wp_ldi rfl tm_m3 ?_
      refine wp_iald rfl rfl (nI_in (by omega) (by decide)) ?_
      rw [nI_clamp (n := a) (by omega)]
      have hz : tr_A n a c (s.1 22 a) := by
        by_cases e : s.1 22 a = -1
        · first
          | exact absurd e h48
          | (have hit : i = t := Classical.byContradiction (fun q => absurd h28 (nI_ge (by omega) (by omega)))
             subst hit
             rw [e]
             exact tr_Ay hX.2.2 hS e)
        · obtain ⟨k, k1, k2⟩ := hX.2.2.2.1 a ha e
          exact tr_Ax hX.2.2 ha k1 k2
      exact wp_reti rfl (th_nI rfl) ⟨_, rfl, hz, hX.1.1, hX.1.2⟩
    | succ f ih =>
      intro i V D t s hi hX hS
      have tl := tr_t hX.2.2
      have hit2 : i ≤ t := hX.2.2.2.2.2.2.2.2
      have hN := th_N0 hX.1.1 hn
      refine wp_ldi rfl tm_m0 ?_
      refine wp_lda rfl tm_m1 ?_
      refine wq_geti rfl rfl (f := 2) rfl rfl (Or.inl rfl) ?_
      rw [hX.2.1]
      refine wq_icge rfl (fun h28 => ?_) (fun h28 => ?_)
      · refine wp_lda rfl tm_m1 ?_
        refine wq_getr (p := 22) rfl rfl (f := 0) rfl rfl ?_
        refine wp_ldi rfl tm_m3 ?_
        refine wp_iald rfl rfl (nI_in (by omega) (by decide)) ?_
        rw [nI_clamp (n := a) (by omega)]
        have hz : tr_A n a c (s.1 22 a) := by
          by_cases e : s.1 22 a = -1
          · first
            | exact absurd e h48
            | (have hit : i = t := Classical.byContradiction (fun q => absurd h28 (nI_ge (by omega) (by omega)))
               subst hit
               rw [e]
               exact tr_Ay hX.2.2 hS e)
          · obtain ⟨k, k1, k2⟩ := hX.2.2.2.1 a ha e
            exact tr_Ax hX.2.2 ha k1 k2
        exact wp_reti rfl (th_nI rfl) ⟨_, rfl, hz, hX.1.1, hX.1.2⟩
      · have hlt : i < t := Classical.byContradiction (fun q => h28 (nI_le (by omega) (by omega)))
        refine wp_ldi rfl tm_m0 ?_
        refine wp_lda rfl tm_m1 ?_
        refine wq_getr (p := 23) rfl rfl (f := 1) rfl rfl ?_
        refine wq_len (x := 4096) rfl rfl (by decide) ?_
        refine wq_icge rfl (fun h38 => absurd h38 (nI_ge (a := i) (b := 4096) (by omega) (by decide))) (fun h38 => ?_)
        refine wp_lda rfl tm_m1 ?_
        refine wq_getr (p := 22) rfl rfl (f := 0) rfl rfl ?_
        refine wp_ldi rfl tm_m3 ?_
        refine wp_iald rfl rfl (nI_in (by omega) (by decide)) ?_
        rw [nI_clamp (n := a) (by omega)]
        refine wq_con (x := (-1)) rfl (by decide) ?_
        refine wq_icne rfl (fun h48 => ?_) (fun h48 => ?_)
        · refine wp_lda rfl tm_m1 ?_
          refine wq_getr (p := 22) rfl rfl (f := 0) rfl rfl ?_
          refine wp_ldi rfl tm_m3 ?_
          refine wp_iald rfl rfl (nI_in (by omega) (by decide)) ?_
          rw [nI_clamp (n := a) (by omega)]
          have hz : tr_A n a c (s.1 22 a) := by
            by_cases e : s.1 22 a = -1
            · first
              | exact absurd e h48
              | (have hit : i = t := Classical.byContradiction (fun q => absurd h28 (nI_ge (by omega) (by omega)))
                 subst hit
                 rw [e]
                 exact tr_Ay hX.2.2 hS e)
            · obtain ⟨k, k1, k2⟩ := hX.2.2.2.1 a ha e
              exact tr_Ax hX.2.2 ha k1 k2
          exact wp_reti rfl (th_nI rfl) ⟨_, rfl, hz, hX.1.1, hX.1.2⟩
        · refine wp_lda rfl tm_m1 ?_
          refine wp_lda rfl tm_m1 ?_
          refine wq_getr (p := 23) rfl rfl (f := 1) rfl rfl ?_
          refine wp_ldi rfl tm_m0 ?_
          refine wp_iald rfl rfl (nI_in (by omega) (by decide)) ?_
          rw [nI_clamp (n := i) (by omega), (hX.2.2.1 i hlt).1]
          refine wp_lda rfl tm_m2 ?_
          refine wq_calv [] rfl rfl rfl rfl rfl rfl rfl rfl rfl (th_size) ?_
          rintro _ _ ⟨rfl, rfl⟩
          rw [hN]
          refine wq_calv [.int (nI (V i)), .int (nI n)] rfl rfl rfl rfl rfl rfl rfl rfl rfl (tr_move hn h3 hX hS hlt rfl) ?_
          rintro _ s1 ⟨rfl, V1, D1, t1, X1, S1, H1, e1, A1⟩
          refine wq_inc (c := 1) [(4, .int ((nI i) + 1)), (0, .ref 3), (1, .ref 1), (2, .int (nI a)), (3, .int (nI c))] rfl tm_m0 rfl rfl ?_
          refine wp_go rfl ?_
          rw [nI_1]
          exact WP.less (ih (i + 1) V1 D1 t1 s1 (by omega) ⟨X1.1, X1.2.1, tr_next X1.2.2 H1 (fun w hw => A1 w (by rw [← e1]; exact hw))⟩ S1) (by simp)
  show WP (d + 2) 48 0 [(0, .ref 3), (1, .ref 1), (2, .int (nI a)), (3, .int (nI c))] [] σ _
  refine wp_lda rfl tm_m0 ?_
  refine wq_getr (p := 22) rfl rfl (f := 0) rfl rfl ?_
  refine wq_con (x := (-1)) rfl (by decide) ?_
  refine wq_cals [.ref 22, .int ((-1))] rfl rfl rfl rfl rfl rfl (tr_fill hT) ?_
  rintro _ s1 ⟨rfl, T1, U1, Z1⟩
  refine wp_lda rfl tm_m0 ?_
  refine wq_con (x := nI 0) rfl (by decide) ?_
  refine wq_puti rfl rfl (f := 2) rfl rfl ?_
  have X0 : tr_X n c σ (tm_sI s1 3 2 (nI 0)) (fun _ => 0) (fun _ => 0) 0 0 := ⟨⟨tv_TY_sI T1 (by show (0 : Int) ≤ _; decide) (by show _ ≤ (4096 : Int); decide), tv_un_tr (tv_un_mo U1 (by decide)) (tv_un_fI rfl)⟩, by rw [tm_gI, if_pos ⟨rfl, rfl⟩], tr_I0 (fun v hv => by rw [tm_gI, if_neg (fun z => absurd z.1 (by decide))]; exact Z1 v hv) hn⟩
  generalize tm_sI s1 3 2 (nI 0) = s2 at X0 ⊢
  refine wp_lda rfl tm_m0 ?_
  refine wp_lda rfl tm_m1 ?_
  refine wp_ldi rfl tm_m3 ?_
  refine wq_calv [.ref 1, .int (nI c)] rfl rfl rfl rfl rfl rfl rfl rfl rfl (tr_start hn h3 hc X0) ?_
  rintro _ s3 ⟨rfl, V, D, t, X3, S3⟩
  refine wq_con (x := nI 0) rfl (by decide) ?_
  refine wq_sti [(4, .int (nI 0)), (0, .ref 3), (1, .ref 1), (2, .int (nI a)), (3, .int (nI c))] rfl rfl ?_
  exact WP.less (k22 4096 0 V D t s3 (by omega) X3 S3) (by simp)
/-- what road answers -/
def tp_road (n : Nat) (x y z : Int32) : Prop := (∃ a c : Nat, x = nI a ∧ y = nI c ∧ a < 2 ^ 12 ∧ c < 2 ^ 12 ∧ tr_A n a c z ∧ th_oz n x y) ∨ (¬ th_oz n x y ∧ z = -1)
theorem tp_road_u {n : Nat} {x y z w : Int32} (h : tp_road n x y z) (k : tp_road n x y w) : z = w := by
  rcases h with ⟨S, q, e1, e2, e3, e4, e5, e6⟩ | ⟨h1, h2⟩
  · rcases k with ⟨S', q', f1, f2, f3, f4, f5, f6⟩ | ⟨g1, g2⟩
    · rw [← (nI_eq (by omega) (by omega)).mp (e1.symm.trans f1), ← (nI_eq (by omega) (by omega)).mp (e2.symm.trans f2)] at f5
      exact tr_Au e5 f5
    · exact absurd e6 g1
  · rcases k with ⟨S', q', f1, f2, f3, f4, f5, f6⟩ | ⟨g1, g2⟩
    · exact absurd f6 h1
    · rw [h2, g2]
set_option maxRecDepth 100000 in
set_option maxHeartbeats 4000000 in
theorem tf_x_road {n : Nat} {a1 a2 : Int32} {σ : tm_S} (h : th_IV n σ) : WM 90 47 [.ref 0, .int a1, .int a2] σ (fun r σ' => ∃ z : Int32, r = some (.int z) ∧ tp_road n a1 a2 z ∧ th_IV n σ') := by
  have ⟨h3, hn, hT, hSL⟩ := h
  have hN := th_N0 hT hn
  have hp : 2 ^ n ≤ 4096 := Nat.pow_le_pow_right (n := 2) (by decide) hn
  show WP 90 47 0 [(0, .ref 0), (1, .int a1), (2, .int a2)] [] σ _
  refine wp_lda rfl tm_m0 ?_
  refine wq_getr (p := 1) rfl rfl (f := 0) rfl rfl ?_
  refine wp_ldi rfl tm_m1 ?_
  refine wp_ldi rfl tm_m2 ?_
  refine wq_calv [.int a1, .int a2] rfl rfl rfl rfl rfl rfl rfl rfl rfl (tl_oz (d := 88) hN hn) ?_
  rintro r6 _ ⟨hr6, rfl⟩
  obtain ⟨z6, rfl, hz6, hn6⟩ : ∃ z : Int32, r6 = some (.int z) ∧ (¬ z = 0 → th_oz n a1 a2) ∧ (z = 0 → ¬ th_oz n a1 a2) := by
    rcases hr6 with ⟨rfl, g⟩ | ⟨rfl, g⟩
    · exact ⟨_, rfl, fun _ => g, fun e => absurd e (by decide)⟩
    · exact ⟨_, rfl, fun e => absurd rfl e, fun _ => g⟩
  refine wq_ifeq rfl (fun h9 => ?_) (fun h9 => ?_)
  · refine wq_con (x := (-1)) rfl (by decide) ?_
    exact wp_reti rfl (th_nI rfl) ⟨_, rfl, Or.inr ⟨hn6 h9, rfl⟩, h⟩
  · obtain ⟨a, c, q1, q2, q3, q4, q5⟩ := hz6 h9
    refine wp_lda rfl tm_m0 ?_
    refine wq_getr (p := 3) rfl rfl (f := 2) rfl rfl ?_
    refine wp_lda rfl tm_m0 ?_
    refine wq_getr (p := 1) rfl rfl (f := 0) rfl rfl ?_
    refine wp_ldi rfl tm_m1 ?_
    refine wp_ldi rfl tm_m2 ?_
    refine wq_calv [.ref 1, .int a1, .int a2] rfl rfl rfl rfl rfl rfl rfl rfl rfl (by rw [q1, q2]; exact tr_few (d := 87) hn h3 q3 q4 hT) ?_
    rintro _ t ⟨z, rfl, hz, Tt, ut⟩
    refine wp_go rfl ?_
    exact wp_reti rfl (th_nI rfl) ⟨_, rfl, Or.inl ⟨a, c, q1, q2, by omega, by omega, hz, hz6 h9⟩, h3, hn, Tt, th_SLu hT hSL ut (by decide)⟩
