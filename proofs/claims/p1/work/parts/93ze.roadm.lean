/-! ===== roads: the reference ===== -/
def tr_y (n x up : Nat) : Nat := if up = 1 then (x + 1) % n else (x + n - 1) % n
def tr_c (n u x up : Nat) : Prop := u.testBit x = true ∧ u.testBit (tr_y n x up) = false
def tr_w (n u x up : Nat) : Nat := u ^^^ 2 ^ x ^^^ 2 ^ tr_y n x up
theorem tr_yl {n x up : Nat} (h3 : 3 ≤ n) : tr_y n x up < n := by
  unfold tr_y
  split <;> exact Nat.mod_lt _ (by omega)
theorem tr_y1 {n x : Nat} (h3 : 3 ≤ n) (hx : x < n) : tr_y n x 1 = tr_nx n x := by
  unfold tr_y tr_nx
  rw [if_pos rfl]
  by_cases h : x + 1 < n
  · rw [if_pos h, Nat.mod_eq_of_lt h]
  · rw [if_neg h, show x + 1 = n by omega, Nat.mod_self]
theorem tr_y0 {n x : Nat} (h3 : 3 ≤ n) (hx : x < n) : tr_nx n (tr_y n x 0) = x := by
  unfold tr_y tr_nx
  rw [if_neg (show ¬ (0 : Nat) = 1 by decide)]
  by_cases h : x = 0
  · subst h
    rw [Nat.mod_eq_of_lt (by omega), if_neg (by omega)]
  · rw [show x + n - 1 = (x - 1) + n by omega, Nat.add_mod_right, Nat.mod_eq_of_lt (by omega), if_pos (by omega)]
    omega
theorem tr_yn {n x : Nat} (h3 : 3 ≤ n) (hx : x < n) : tr_y n (tr_nx n x) 0 = x := by
  unfold tr_y tr_nx
  rw [if_neg (show ¬ (0 : Nat) = 1 by decide)]
  by_cases h : x + 1 < n
  · rw [if_pos h, show x + 1 + n - 1 = x + n by omega, Nat.add_mod_right, Nat.mod_eq_of_lt hx]
  · rw [if_neg h, show 0 + n - 1 = x by omega, Nat.mod_eq_of_lt hx]
theorem tr_xo {u x y : Nat} (h : ¬ x = y) : u ^^^ 2 ^ x ^^^ 2 ^ y = u ^^^ (2 ^ x ||| 2 ^ y) := by
  apply Nat.eq_of_testBit_eq
  intro i
  rw [Nat.testBit_xor, Nat.testBit_xor, Nat.testBit_xor, Nat.testBit_or, Nat.testBit_two_pow, Nat.testBit_two_pow]
  by_cases c : x = i
  · subst c
    simp [show ¬ y = x from fun e => h e.symm]
  · simp [c]
theorem tr_ya {n u x up : Nat} (h3 : 3 ≤ n) (hx : x < n) (hup : up < 2) (h : tr_c n u x up) : tr_adj n u (tr_w n u x up) := by
  obtain ⟨h1, h2⟩ := h
  rcases (by omega : up = 1 ∨ up = 0) with rfl | rfl
  · rw [tr_y1 h3 hx] at h2
    refine ⟨x, hx, by rw [h1, h2]; decide, ?_⟩
    unfold tr_w tr_bo
    rw [tr_y1 h3 hx, tr_xo (fun e => (tr_nxo h3 hx).2 e.symm)]
  · have e := tr_y0 h3 hx
    refine ⟨tr_y n x 0, tr_yl h3, by rw [e, h1, h2]; decide, ?_⟩
    unfold tr_w tr_bo
    rw [e, Nat.or_comm, tr_xo (fun q => by rw [← q, h1] at h2; cases h2)]
theorem tr_yb {n u w : Nat} (h3 : 3 ≤ n) (h : tr_adj n u w) : ∃ x up : Nat, x < n ∧ up < 2 ∧ tr_c n u x up ∧ w = tr_w n u x up := by
  obtain ⟨x, hx, hb, rfl⟩ := h
  obtain ⟨y1, y2⟩ := tr_nxo h3 hx
  cases h1 : u.testBit x with
  | true =>
    have h2 : u.testBit (tr_nx n x) = false := by
      cases h2 : u.testBit (tr_nx n x) with
      | false => rfl
      | true => exact absurd (h1.trans h2.symm) hb
    refine ⟨x, 1, hx, by decide, ⟨h1, by rw [tr_y1 h3 hx]; exact h2⟩, ?_⟩
    unfold tr_w tr_bo
    rw [tr_y1 h3 hx, tr_xo (fun e => y2 e.symm)]
  | false =>
    have h2 : u.testBit (tr_nx n x) = true := by
      cases h2 : u.testBit (tr_nx n x) with
      | true => rfl
      | false => exact absurd (h1.trans h2.symm) hb
    refine ⟨tr_nx n x, 0, y1, by decide, ⟨h2, by rw [tr_yn h3 hx]; exact h1⟩, ?_⟩
    unfold tr_w tr_bo
    rw [tr_yn h3 hx, Nat.or_comm, tr_xo y2]
def tr_Y (n a : Nat) (σ s : tm_S) (V D : Nat → Nat) (h t : Nat) : Prop := (tv_TY (tc_T (n : Int)) s ∧ tv_un σ s [(11, 0), (48, 64), (49, 64)]) ∧ tr_I n (fun v => v = a) (s.1 48) (s.1 49) V D h t ∧ tr_S (fun v => v = a) V t
theorem tr_Ys {n : Nat} {σ s : tm_S} {w e t : Nat} (hw : w < 4096) (he : e ≤ 4096) (h : tv_TY (tc_T (n : Int)) s ∧ tv_un σ s [(11, 0), (48, 64), (49, 64)]) : tv_TY (tc_T (n : Int)) (tm_sI (tm_sI s 48 w (nI e)) 49 t (nI w)) ∧ tv_un σ (tm_sI (tm_sI s 48 w (nI e)) 49 t (nI w)) [(11, 0), (48, 64), (49, 64)] := by
  have ew : (nI w).toInt = w := nI_toInt (by omega)
  have ee : (nI e).toInt = e := nI_toInt (by omega)
  exact ⟨tv_TY_row (tv_TY_row h.1 (ty := (-1, 4096)) (fun _ => rfl) (by rw [ee]; show (-1 : Int) ≤ _; omega) (by rw [ee]; show _ ≤ (4096 : Int); omega)) (ty := (0, 4095)) (fun _ => rfl) (by rw [ew]; show (0 : Int) ≤ _; omega) (by rw [ew]; show _ ≤ (4095 : Int); omega), tv_un_tr (tv_un_tr h.2 (tv_un_ar rfl rfl)) (tv_un_ar rfl rfl)⟩
theorem tr_Yg {s : tm_S} {w e t : Nat} : (tm_sI (tm_sI s 48 w (nI e)) 49 t (nI w)).1 48 w = nI e ∧ (∀ v : Nat, ¬ v = w → (tm_sI (tm_sI s 48 w (nI e)) 49 t (nI w)).1 48 v = s.1 48 v) ∧ (tm_sI (tm_sI s 48 w (nI e)) 49 t (nI w)).1 49 t = nI w ∧ ∀ i : Nat, ¬ i = t → (tm_sI (tm_sI s 48 w (nI e)) 49 t (nI w)).1 49 i = s.1 49 i := by
  refine ⟨?_, fun v hv => ?_, ?_, fun i hi => ?_⟩
  · rw [tm_gI, if_neg (fun z => absurd z.1 (by decide)), tm_gI, if_pos ⟨rfl, rfl⟩]
  · rw [tm_gI, if_neg (fun z => absurd z.1 (by decide)), tm_gI, if_neg (fun z => hv z.2)]
  · rw [tm_gI, if_pos ⟨rfl, rfl⟩]
  · rw [tm_gI, if_neg (fun z => hi z.2), tm_gI, if_neg (fun z => absurd z.1 (by decide))]
set_option maxRecDepth 100000 in
set_option maxHeartbeats 4000000 in
theorem tr_m88 {n a c : Nat} {σ : tm_S} (hn : n ≤ 12) (h3 : 3 ≤ n) (ha : a < 2 ^ n) (hc : c < 2 ^ n) : ∀ (f h t : Nat) (s : tm_S) (V D : Nat → Nat), 4096 ≤ h + f → tr_Y n a σ s V D h t → (∀ i : Nat, i < h → ¬ V i ∈ tg_I n 1 c n) → WP 89 184 88 [(5, .int (nI t)), (4, .int (nI h)), (3, .int (nI (tk_nm n 1 c))), (0, .ref 11), (1, .int (nI a)), (2, .int (nI c))] [] s (fun r t => ∃ z : Int32, r = some (.int z) ∧ tr_A n a c z ∧ tv_TY (tc_T (n : Int)) t ∧ tv_un σ t [(11, 0), (48, 64), (49, 64)]) := by
  have hp : 2 ^ n ≤ 4096 := Nat.pow_le_pow_right (n := 2) (by decide) hn
  intro f
  induction f with
    | zero =>
      intro h t s V D hm hY hg
      have tl := tr_t hY.2.1
      have hN1 := th_N1 hY.1.1 hn
      have hle : h ≤ t := hY.2.1.2.2.2.2.2.2
      refine wp_ldi rfl tm_m1 ?_
      refine wp_ldi rfl tm_m0 ?_
      refine wq_icge rfl (fun h92 => ?_) (fun h92 => absurd (nI_le (by omega) (by omega)) h92)
      refine wq_con (x := (-1)) rfl (by decide) ?_
      have e : h = t := by first | omega | exact Classical.byContradiction (fun q => absurd h92 (nI_ge (by omega) (by omega)))
      subst e
      exact wp_reti rfl (th_nI rfl) ⟨_, rfl, tr_An h3 hY.2.1 hY.2.2 hg, hY.1.1, hY.1.2⟩
    | succ f ih =>
      intro h t s V D hm hY hg
      have tl := tr_t hY.2.1
      have hN1 := th_N1 hY.1.1 hn
      have hle : h ≤ t := hY.2.1.2.2.2.2.2.2
      have k132 : ∀ (u mx x t : Nat) (s : tm_S) (V D : Nat → Nat), x + mx = n → tr_Y n a σ s V D h t → h < t → V h = u → (∀ i : Nat, i < h + 1 → ¬ V i ∈ tg_I n 1 c n) → (∀ x' up : Nat, x' < x → up < 2 → tr_c n u x' up → tr_in V t (tr_w n u x' up)) → WP 89 184 132 [(7, .int (nI x)), (6, .int (nI u)), (5, .int (nI t)), (4, .int (nI (h + 1))), (3, .int (nI (tk_nm n 1 c))), (0, .ref 11), (1, .int (nI a)), (2, .int (nI c))] [] s (fun r t => ∃ z : Int32, r = some (.int z) ∧ tr_A n a c z ∧ tv_TY (tc_T (n : Int)) t ∧ tv_un σ t [(11, 0), (48, 64), (49, 64)]) := by
        intro u mx
        induction mx with
        | zero =>
          intro x t s V D hx hY hh hu hg hx2
          have tl := tr_t hY.2.1
          have hN1 := th_N1 hY.1.1 hn
          have lu : u < 2 ^ n := by rw [← hu]; exact (hY.2.1.1 h hh).2.1
          obtain rfl : x = n := by omega
          refine wp_ldi rfl tm_m0 ?_
          refine wp_lda rfl tm_m5 ?_
          refine wq_geti rfl rfl (f := 1) rfl rfl (Or.inl rfl) ?_
          rw [hN1]
          refine wq_icge rfl (fun h138 => ?_) (fun h138 => absurd (nI_le (Nat.le_refl _) (by omega)) h138)
          refine wp_go rfl ?_
          refine WP.less (ih (h + 1) t s V D (by omega) ⟨hY.1, tr_next hY.2.1 hh (fun w hw => ?_), hY.2.2⟩ hg) (by simp)
          rw [hu] at hw
          obtain ⟨x1, up, q1, q2, q3, rfl⟩ := tr_yb h3 hw
          exact hx2 x1 up q1 q2 q3
        | succ mx ihx =>
          intro x t s V D hx hY hh hu hg hx2
          have tl := tr_t hY.2.1
          have hN1 := th_N1 hY.1.1 hn
          have lu : u < 2 ^ n := by rw [← hu]; exact (hY.2.1.1 h hh).2.1
          have hxn : x < n := by omega
          have k144 : ∀ (mu up t : Nat) (s : tm_S) (V D : Nat → Nat), up + mu = 2 → tr_Y n a σ s V D h t → h < t → V h = u → (∀ i : Nat, i < h + 1 → ¬ V i ∈ tg_I n 1 c n) → (∀ x' up' : Nat, (x' < x ∨ (x' = x ∧ up' < up)) → up' < 2 → tr_c n u x' up' → tr_in V t (tr_w n u x' up')) → WP 89 184 144 [(8, .int (nI up)), (7, .int (nI x)), (6, .int (nI u)), (5, .int (nI t)), (4, .int (nI (h + 1))), (3, .int (nI (tk_nm n 1 c))), (0, .ref 11), (1, .int (nI a)), (2, .int (nI c))] [] s (fun r t => ∃ z : Int32, r = some (.int z) ∧ tr_A n a c z ∧ tv_TY (tc_T (n : Int)) t ∧ tv_un σ t [(11, 0), (48, 64), (49, 64)]) := by
            intro mu
            induction mu with
            | zero =>
              intro up t s V D hm2 hY hh hu hg hx3
              obtain rfl : up = 2 := by omega
              refine wp_ldi rfl tm_m0 ?_
              refine wq_con (x := 2) rfl (by decide) ?_
              refine wq_icge rfl (fun h147 => ?_) (fun h147 => absurd (by decide) h147)
              refine wq_inc (c := 1) [(7, .int ((nI x) + 1)), (8, .int (nI 2)), (6, .int (nI u)), (5, .int (nI t)), (4, .int (nI (h + 1))), (3, .int (nI (tk_nm n 1 c))), (0, .ref 11), (1, .int (nI a)), (2, .int (nI c))] rfl tm_m1 rfl rfl ?_
              refine wp_go rfl ?_
              rw [nI_1]
              exact WP.less (ihx (x + 1) t s V D (by omega) hY hh hu hg (fun x1 up1 q1 q2 q3 => hx3 x1 up1 (by omega) q2 q3)) (by simp)
            | succ mu ihu =>
              intro up t s V D hm2 hY hh hu hg hx3
              have tl := tr_t hY.2.1
              have hN1 := th_N1 hY.1.1 hn
              have nxt : ∀ (t : Nat) (s : tm_S) (V D : Nat → Nat), tr_Y n a σ s V D h t → h < t → V h = u → (∀ i : Nat, i < h + 1 → ¬ V i ∈ tg_I n 1 c n) → (∀ x' up' : Nat, (x' < x ∨ (x' = x ∧ up' < up)) → up' < 2 → tr_c n u x' up' → tr_in V t (tr_w n u x' up')) → (tr_c n u x up → tr_in V t (tr_w n u x up)) → WP 89 184 260 [(8, .int (nI up)), (7, .int (nI x)), (6, .int (nI u)), (5, .int (nI t)), (4, .int (nI (h + 1))), (3, .int (nI (tk_nm n 1 c))), (0, .ref 11), (1, .int (nI a)), (2, .int (nI c))] [] s (fun r t => ∃ z : Int32, r = some (.int z) ∧ tr_A n a c z ∧ tv_TY (tc_T (n : Int)) t ∧ tv_un σ t [(11, 0), (48, 64), (49, 64)]) := by
                intro t s V D hY hh hu hg hx3 hnew
                refine wq_inc (c := 1) [(8, .int ((nI up) + 1)), (7, .int (nI x)), (6, .int (nI u)), (5, .int (nI t)), (4, .int (nI (h + 1))), (3, .int (nI (tk_nm n 1 c))), (0, .ref 11), (1, .int (nI a)), (2, .int (nI c))] rfl tm_m0 rfl rfl ?_
                refine wp_go rfl ?_
                rw [nI_1]
                refine WP.less (ihu (up + 1) t s V D (by omega) hY hh hu hg (fun x1 up1 q1 q2 q3 => ?_)) (by simp)
                by_cases e : x1 = x ∧ up1 = up
                · obtain ⟨rfl, rfl⟩ := e
                  exact hnew q3
                · exact hx3 x1 up1 (by omega) q2 q3
              have k168 : ∀ v : Int32, (nI x + v) - (nI x + v) / nI n * nI n = nI (tr_y n x up) → WP 89 184 168 [(8, .int (nI up)), (7, .int (nI x)), (6, .int (nI u)), (5, .int (nI t)), (4, .int (nI (h + 1))), (3, .int (nI (tk_nm n 1 c))), (0, .ref 11), (1, .int (nI a)), (2, .int (nI c))] [.int v, .int (nI x)] s (fun r t => ∃ z : Int32, r = some (.int z) ∧ tr_A n a c z ∧ tv_TY (tc_T (n : Int)) t ∧ tv_un σ t [(11, 0), (48, 64), (49, 64)]) := by
                intro v ev
                have ly : tr_y n x up < n := tr_yl h3
                obtain ⟨x1, x2⟩ := th_xor12 (a := u) (w := x) (by omega) (by omega)
                obtain ⟨y1, y2⟩ := th_xor12 x2 (w := tr_y n x up) (by omega)
                have ew : u ^^^ 2 ^ x ^^^ 2 ^ tr_y n x up = tr_w n u x up := rfl
                rw [ew] at y1 y2
                refine wq_iadd rfl ?_
                refine wp_lda rfl tm_m6 ?_
                refine wq_geti rfl rfl (f := 1) rfl rfl (Or.inl rfl) ?_
                rw [hN1]
                refine wp_rem rfl (nI_ne0 (by omega) (by omega)) ?_
                rw [ev]
                refine wq_sti [(9, .int (nI (tr_y n x up))), (8, .int (nI up)), (7, .int (nI x)), (6, .int (nI u)), (5, .int (nI t)), (4, .int (nI (h + 1))), (3, .int (nI (tk_nm n 1 c))), (0, .ref 11), (1, .int (nI a)), (2, .int (nI c))] rfl rfl ?_
                refine wp_lda rfl tm_m7 ?_
                refine wp_ldi rfl tm_m3 ?_
                refine wp_ldi rfl tm_m2 ?_
                refine wq_calv [.int (nI u), .int (nI x)] rfl rfl rfl rfl rfl rfl rfl rfl rfl (th_has) ?_
                rintro _ _ ⟨rfl, rfl⟩
                refine wq_ifeq rfl (fun h184 => ?_) (fun h184 => ?_)
                · exact WP.less (nxt t s V D hY hh hu hg hx3 (fun hcc => by
                    first
                    | exact absurd hcc.1 (by rw [tl_hb (by omega) (by omega) h184]; decide)
                    | exact absurd (tl_hc (by omega) (by omega) h195) (by rw [hcc.2]; decide)
                    | exact hY.2.1.2.1 _ (tr_adl h3 lu (tr_ya h3 hxn (by omega) hcc)) (by rw [← nI_clamp (n := tr_w n u x up) (by omega)]; exact h223))) (by simp)
                · refine wp_lda rfl tm_m7 ?_
                  refine wp_ldi rfl tm_m3 ?_
                  refine wp_ldi rfl tm_m0 ?_
                  refine wq_calv [.int (nI u), .int (nI (tr_y n x up))] rfl rfl rfl rfl rfl rfl rfl rfl rfl (th_has) ?_
                  rintro _ _ ⟨rfl, rfl⟩
                  refine wq_ifeq rfl (fun h195 => ?_) (fun h195 => ?_)
                  · refine wp_ldi rfl tm_m3 ?_
                    refine wq_con (x := 1) rfl (by decide) ?_
                    refine wp_ldi rfl tm_m2 ?_
                    refine wq_ishl rfl ?_
                    refine wq_ixor rfl ?_
                    rw [x1]
                    refine wq_con (x := 1) rfl (by decide) ?_
                    refine wp_ldi rfl tm_m0 ?_
                    refine wq_ishl rfl ?_
                    refine wq_ixor rfl ?_
                    rw [y1]
                    refine wq_sti [(10, .int (nI (tr_w n u x up))), (9, .int (nI (tr_y n x up))), (8, .int (nI up)), (7, .int (nI x)), (6, .int (nI u)), (5, .int (nI t)), (4, .int (nI (h + 1))), (3, .int (nI (tk_nm n 1 c))), (0, .ref 11), (1, .int (nI a)), (2, .int (nI c))] rfl rfl ?_
                    refine wp_lda rfl tm_m8 ?_
                    refine wq_getr (p := 48) rfl rfl (f := 7) rfl rfl ?_
                    refine wp_ldi rfl tm_m0 ?_
                    refine wp_iald rfl rfl (nI_in y2 (by decide)) ?_
                    refine wq_con (x := (-1)) rfl (by decide) ?_
                    refine wq_iceq rfl (fun h223 => ?_) (fun h223 => ?_)
                    · have hcc : tr_c n u x up := ⟨tl_hc (by omega) (by omega) h184, tl_hb (by omega) (by omega) h195⟩
                      have hadj : tr_adj n (V h) (tr_w n u x up) := by rw [hu]; exact tr_ya h3 hxn (by omega) hcc
                      have hf1 : s.1 48 (tr_w n u x up) = -1 := by rw [← nI_clamp (n := tr_w n u x up) (by omega)]; exact h223
                      have hlt := tr_t1 hY.2.1 y2 hf1
                      have hb4 := (hY.2.1.1 h hh).2.2.2.1
                      have hfu : s.1 48 u = nI (D h) := by rw [← hu]; exact (hY.2.1.1 h hh).2.2.1
                      refine wp_lda rfl tm_m8 ?_
                      refine wq_getr (p := 48) rfl rfl (f := 7) rfl rfl ?_
                      refine wp_ldi rfl tm_m0 ?_
                      refine wp_lda rfl tm_m8 ?_
                      refine wq_getr (p := 48) rfl rfl (f := 7) rfl rfl ?_
                      refine wp_ldi rfl tm_m4 ?_
                      refine wp_iald rfl rfl (nI_in (by omega) (by decide)) ?_
                      rw [nI_clamp (n := u) (by omega), hfu]
                      refine wq_con (x := 1) rfl (by decide) ?_
                      refine wq_iadd rfl ?_
                      rw [nI_1]
                      refine wp_iast rfl rfl (nI_in y2 (by decide)) ?_
                      refine wp_lda rfl tm_m8 ?_
                      refine wq_getr (p := 49) rfl rfl (f := 8) rfl rfl ?_
                      refine wp_ldi rfl tm_m5 ?_
                      refine wp_ldi rfl tm_m0 ?_
                      refine wp_iast rfl rfl (nI_in hlt (by decide)) ?_
                      refine wp_ldi rfl tm_m5 ?_
                      refine wq_con (x := 1) rfl (by decide) ?_
                      refine wq_iadd rfl ?_
                      refine wq_sti [(5, .int ((nI t) + 1)), (10, .int (nI (tr_w n u x up))), (9, .int (nI (tr_y n x up))), (8, .int (nI up)), (7, .int (nI x)), (6, .int (nI u)), (4, .int (nI (h + 1))), (3, .int (nI (tk_nm n 1 c))), (0, .ref 11), (1, .int (nI a)), (2, .int (nI c))] rfl rfl ?_
                      rw [nI_1, nI_clamp (n := tr_w n u x up) (by omega), nI_clamp (n := t) (by omega)]
                      obtain ⟨g1, g2, g3, g4⟩ := tr_Yg (s := s) (w := tr_w n u x up) (e := D h + 1) (t := t)
                      obtain ⟨p1, p2⟩ := tr_put1 hn h3 hY.2.1 hY.2.2 hh hadj hf1 g1 g2 g3 g4
                      refine WP.less (nxt (t + 1) _ _ _ ⟨tr_Ys (by omega) (by omega) hY.1, p1, p2⟩ (by omega) (by simp only [if_neg (show ¬ h = t by omega)]; exact hu) (fun i hi => by simp only [if_neg (show ¬ i = t by omega)]; exact hg i hi) (fun x4 up4 q1 q2 q3 => tr_inp (hx3 x4 up4 q1 q2 q3)) (fun _ => tr_inq)) (by simp)
                    · refine wp_go rfl ?_
                      exact WP.less (nxt t s V D hY hh hu hg hx3 (fun hcc => by
                        first
                        | exact absurd hcc.1 (by rw [tl_hb (by omega) (by omega) h184]; decide)
                        | exact absurd (tl_hc (by omega) (by omega) h195) (by rw [hcc.2]; decide)
                        | exact hY.2.1.2.1 _ (tr_adl h3 lu (tr_ya h3 hxn (by omega) hcc)) (by rw [← nI_clamp (n := tr_w n u x up) (by omega)]; exact h223))) (by simp)
                  · refine wp_go rfl ?_
                    exact WP.less (nxt t s V D hY hh hu hg hx3 (fun hcc => by
                      first
                      | exact absurd hcc.1 (by rw [tl_hb (by omega) (by omega) h184]; decide)
                      | exact absurd (tl_hc (by omega) (by omega) h195) (by rw [hcc.2]; decide)
                      | exact hY.2.1.2.1 _ (tr_adl h3 lu (tr_ya h3 hxn (by omega) hcc)) (by rw [← nI_clamp (n := tr_w n u x up) (by omega)]; exact h223))) (by simp)
              refine wp_ldi rfl tm_m0 ?_
              refine wq_con (x := 2) rfl (by decide) ?_
              refine wq_icge rfl (fun h147 => absurd h147 (nI_ge (a := up) (b := 2) (by omega) (by decide))) (fun h147 => ?_)
              refine wp_ldi rfl tm_m1 ?_
              refine wp_ldi rfl tm_m0 ?_
              refine wq_con (x := 1) rfl (by decide) ?_
              refine wq_icne rfl (fun h155 => ?_) (fun h155 => ?_)
              · refine wp_lda rfl tm_m6 ?_
                refine wq_geti rfl rfl (f := 1) rfl rfl (Or.inl rfl) ?_
                rw [hN1]
                refine wq_con (x := 1) rfl (by decide) ?_
                refine wq_isub rfl ?_
                have e1 : ¬ up = 1 := fun e => h155 (by rw [e]; rfl)
                exact k168 (nI n - 1) (by unfold tr_y; rw [if_neg e1]; exact (th_up hn hxn).2)
              · refine wq_con (x := 1) rfl (by decide) ?_
                refine wp_go rfl ?_
                have e1 : up = 1 := (nI_eq (a := up) (b := 1) (by omega) (by decide)).mp (Classical.not_not.mp h155)
                exact k168 1 (by unfold tr_y; rw [if_pos e1]; exact (th_up hn hxn).1)
          refine wp_ldi rfl tm_m0 ?_
          refine wp_lda rfl tm_m5 ?_
          refine wq_geti rfl rfl (f := 1) rfl rfl (Or.inl rfl) ?_
          rw [hN1]
          refine wq_icge rfl (fun h138 => absurd h138 (nI_ge (by omega) (by omega))) (fun h138 => ?_)
          refine wq_con (x := nI 0) rfl (by decide) ?_
          refine wq_sti [(8, .int (nI 0)), (7, .int (nI x)), (6, .int (nI u)), (5, .int (nI t)), (4, .int (nI (h + 1))), (3, .int (nI (tk_nm n 1 c))), (0, .ref 11), (1, .int (nI a)), (2, .int (nI c))] rfl rfl ?_
          exact WP.less (k144 2 0 t s V D (by omega) hY hh hu hg (fun x1 up1 q1 q2 q3 => hx2 x1 up1 (by omega) q2 q3)) (by simp)
      refine wp_ldi rfl tm_m1 ?_
      refine wp_ldi rfl tm_m0 ?_
      refine wq_icge rfl (fun h92 => ?_) (fun h92 => ?_)
      · refine wq_con (x := (-1)) rfl (by decide) ?_
        have e : h = t := by first | omega | exact Classical.byContradiction (fun q => absurd h92 (nI_ge (by omega) (by omega)))
        subst e
        exact wp_reti rfl (th_nI rfl) ⟨_, rfl, tr_An h3 hY.2.1 hY.2.2 hg, hY.1.1, hY.1.2⟩
      · have hlt : h < t := Classical.byContradiction (fun q => h92 (nI_le (by omega) (by omega)))
        have lu : V h < 2 ^ n := (hY.2.1.1 h hlt).2.1
        have lk := tk_lt (g := 1) h3 lu
        have lk2 := tk_lt (g := 1) h3 hc
        have hif := tk_iff (g := 1) hn h3 (by decide) hc lu
        refine wp_lda rfl tm_m3 ?_
        refine wq_getr (p := 49) rfl rfl (f := 8) rfl rfl ?_
        refine wp_ldi rfl tm_m1 ?_
        refine wp_iald rfl rfl (nI_in (by omega) (by decide)) ?_
        rw [nI_clamp (n := h) (by omega), (hY.2.1.1 h hlt).1]
        refine wq_sti [(6, .int (nI (V h))), (5, .int (nI t)), (4, .int (nI h)), (3, .int (nI (tk_nm n 1 c))), (0, .ref 11), (1, .int (nI a)), (2, .int (nI c))] rfl rfl ?_
        refine wp_ldi rfl tm_m2 ?_
        refine wq_con (x := 1) rfl (by decide) ?_
        refine wq_iadd rfl ?_
        rw [nI_1]
        refine wq_sti [(4, .int (nI (h + 1))), (6, .int (nI (V h))), (5, .int (nI t)), (3, .int (nI (tk_nm n 1 c))), (0, .ref 11), (1, .int (nI a)), (2, .int (nI c))] rfl rfl ?_
        refine wp_lda rfl tm_m4 ?_
        refine wq_con (x := nI 1) rfl (by decide) ?_
        refine wp_ldi rfl tm_m1 ?_
        refine wq_calv [.int (nI 1), .int (nI (V h))] rfl rfl rfl rfl rfl rfl rfl rfl rfl (tk_in (d := 86) hN1 hn h3 (by decide) lu) ?_
        rintro _ _ ⟨rfl, rfl⟩
        refine wp_ldi rfl tm_m3 ?_
        refine wq_icne rfl (fun h118 => ?_) (fun h118 => ?_)
        · refine wq_con (x := nI 0) rfl (by decide) ?_
          refine wq_sti [(7, .int (nI 0)), (4, .int (nI (h + 1))), (6, .int (nI (V h))), (5, .int (nI t)), (3, .int (nI (tk_nm n 1 c))), (0, .ref 11), (1, .int (nI a)), (2, .int (nI c))] rfl rfl ?_
          refine WP.less (k132 (V h) n 0 t s V D (by omega) hY hlt rfl (fun i hi => ?_) (fun x1 up1 q1 => absurd q1 (by omega))) (by simp)
          by_cases e : i = h
          · subst e
            exact fun q => h118 (by rw [hif.mpr q])
          · exact hg i (by omega)
        · refine wp_lda rfl tm_m4 ?_
          refine wq_getr (p := 48) rfl rfl (f := 7) rfl rfl ?_
          refine wp_ldi rfl tm_m1 ?_
          refine wp_iald rfl rfl (nI_in (by omega) (by decide)) ?_
          rw [nI_clamp (n := V h) (by omega), (hY.2.1.1 h hlt).2.2.1]
          exact wp_reti rfl (th_nI rfl) ⟨_, rfl, tr_Am h3 hY.2.1 hY.2.2 hlt (hif.mp ((nI_eq (by omega) (by omega)).mp (Classical.not_not.mp h118))) hg, hY.1.1, hY.1.2⟩
set_option maxRecDepth 100000 in
set_option maxHeartbeats 4000000 in
theorem tr_m46 {n a c : Nat} {σ : tm_S} (hn : n ≤ 12) (h3 : 3 ≤ n) (ha : a < 2 ^ n) (hc : c < 2 ^ n) : ∀ (f k : Nat) (s : tm_S), k + f = 4096 → tv_TY (tc_T (n : Int)) s → tv_un σ s [(11, 0), (48, 64), (49, 64)] → (∀ x : Nat, x < k → s.1 48 x = -1) → WP 89 184 46 [(4, .int (nI k)), (3, .int (nI (tk_nm n 1 c))), (0, .ref 11), (1, .int (nI a)), (2, .int (nI c))] [] s (fun r t => ∃ z : Int32, r = some (.int z) ∧ tr_A n a c z ∧ tv_TY (tc_T (n : Int)) t ∧ tv_un σ t [(11, 0), (48, 64), (49, 64)]) := by
  have hp : 2 ^ n ≤ 4096 := Nat.pow_le_pow_right (n := 2) (by decide) hn
  intro f
  induction f with
    | zero =>
      intro k s hk Ts Us hx
      obtain rfl : k = 4096 := by omega
      have I0 : tr_I n (fun v => v = a) (s.1 48) (s.1 49) (fun _ => 0) (fun _ => 0) 0 0 := tr_I0 hx hn
      obtain ⟨g1, g2, g3, g4⟩ := tr_Yg (s := s) (w := a) (e := 0) (t := 0)
      have I1 := tr_put (e := 0) hn I0 ha (hx a (by omega)) ⟨rfl, fun k hk => absurd hk (by omega)⟩ (Nat.le_refl _) (fun k hk => absurd hk (by omega)) (fun hh => absurd hh (by omega)) g1 g2 g3 g4
      refine wp_ldi rfl tm_m0 ?_
      refine wq_con (x := 4096) rfl (by decide) ?_
      refine wq_icge rfl (fun h51 => ?_) (fun h51 => absurd (by decide) h51)
      refine wp_lda rfl tm_m2 ?_
      refine wq_getr (p := 48) rfl rfl (f := 7) rfl rfl ?_
      refine wp_ldi rfl tm_m3 ?_
      refine wq_con (x := nI 0) rfl (by decide) ?_
      refine wp_iast rfl rfl (nI_in (by omega) (by decide)) ?_
      refine wp_lda rfl tm_m2 ?_
      refine wq_getr (p := 49) rfl rfl (f := 8) rfl rfl ?_
      refine wq_con (x := nI 0) rfl (by decide) ?_
      refine wp_ldi rfl tm_m3 ?_
      refine wp_iast rfl rfl (tn_in (by decide) (by decide)) ?_
      refine wq_con (x := nI 0) rfl (by decide) ?_
      refine wq_sti [(4, .int (nI 0)), (3, .int (nI (tk_nm n 1 c))), (0, .ref 11), (1, .int (nI a)), (2, .int (nI c))] rfl rfl ?_
      refine wq_con (x := nI 1) rfl (by decide) ?_
      refine wq_sti [(5, .int (nI 1)), (4, .int (nI 0)), (3, .int (nI (tk_nm n 1 c))), (0, .ref 11), (1, .int (nI a)), (2, .int (nI c))] rfl rfl ?_
      rw [nI_clamp (n := a) (by omega), show (nI 0).toNatClampNeg = 0 from rfl]
      exact WP.less (tr_m88 hn h3 ha hc 4096 0 1 _ _ _ (by omega) ⟨tr_Ys (by omega) (by omega) ⟨Ts, Us⟩, I1, fun v hv => ⟨0, by omega, by simp only [if_true]; exact hv.symm⟩⟩ (fun i hi => absurd hi (by omega))) (by simp)
    | succ f ih =>
      intro k s hk Ts Us hx
      refine wp_ldi rfl tm_m0 ?_
      refine wq_con (x := 4096) rfl (by decide) ?_
      refine wq_icge rfl (fun h51 => absurd h51 (nI_ge (a := k) (b := 4096) (by omega) (by decide))) (fun h51 => ?_)
      refine wp_lda rfl tm_m2 ?_
      refine wq_getr (p := 48) rfl rfl (f := 7) rfl rfl ?_
      refine wp_ldi rfl tm_m0 ?_
      refine wq_con (x := (-1)) rfl (by decide) ?_
      refine wp_iast rfl rfl (nI_in (by omega) (by decide)) ?_
      refine wq_inc (c := 1) [(4, .int ((nI k) + 1)), (3, .int (nI (tk_nm n 1 c))), (0, .ref 11), (1, .int (nI a)), (2, .int (nI c))] rfl tm_m0 rfl rfl ?_
      refine wp_go rfl ?_
      have ck : (nI k).toNatClampNeg = k := nI_clamp (by omega)
      rw [nI_1]
      refine WP.less (ih (k + 1) _ (by omega) (tv_TY_row Ts (ty := (-1, 4096)) (fun _ => rfl) (by decide) (by decide)) (tv_un_tr Us (tv_un_ar rfl rfl)) (fun x hx2 => ?_)) (by simp)
      rw [tm_gI, ck]
      split
      · rfl
      · rename_i e
        exact hx x (by have : ¬ x = k := fun e2 => e ⟨rfl, e2⟩; omega)
set_option maxRecDepth 100000 in
set_option maxHeartbeats 4000000 in
theorem tf_m_road {n : Nat} {a1 a2 : Int32} {σ : tm_S} (h : th_IV n σ) : WM 90 184 [.ref 11, .int a1, .int a2] σ (fun r σ' => ∃ z : Int32, r = some (.int z) ∧ tp_road n a1 a2 z ∧ th_IV n σ') := by
  have hI := th_IV0 h
  generalize e0 : tm_sI σ 11 0 0 = s0 at hI
  have ⟨h3, hn, hT, hSL⟩ := hI
  have hN1 := th_N1 hT hn
  have hp : 2 ^ n ≤ 4096 := Nat.pow_le_pow_right (n := 2) (by decide) hn
  have k21 : ∀ a c : Nat, a1 = nI a → a2 = nI c → a < 2 ^ n → c < 2 ^ n → WP 90 184 21 [(0, .ref 11), (1, .int (nI a)), (2, .int (nI c))] [] s0 (fun r σ' => ∃ z : Int32, r = some (.int z) ∧ tp_road n a1 a2 z ∧ th_IV n σ') := by
    intro a c e1 e2 ha hc
    have hk : th_po a n ≤ n := th_sm_le
    have hk2 : th_po c n ≤ n := th_sm_le
    have pa : th_po a 24 = th_po a n := th_po24 ha (by omega)
    have pc : th_po c 24 = th_po c n := th_po24 hc (by omega)
    refine wp_lda rfl tm_m0 ?_
    refine wp_ldi rfl tm_m1 ?_
    refine wq_calv [.int (nI a)] rfl rfl rfl rfl rfl rfl rfl rfl rfl (th_on24 (by omega)) ?_
    rintro _ _ ⟨rfl, rfl⟩
    rw [pa]
    refine wp_lda rfl tm_m0 ?_
    refine wp_ldi rfl tm_m2 ?_
    refine wq_calv [.int (nI c)] rfl rfl rfl rfl rfl rfl rfl rfl rfl (th_on24 (by omega)) ?_
    rintro _ _ ⟨rfl, rfl⟩
    rw [pc]
    refine wq_iceq rfl (fun h31 => ?_) (fun h31 => ?_)
    · refine wp_lda rfl tm_m0 ?_
      refine wq_con (x := nI 1) rfl (by decide) ?_
      refine wp_ldi rfl tm_m2 ?_
      refine wq_calv [.int (nI 1), .int (nI c)] rfl rfl rfl rfl rfl rfl rfl rfl rfl (tk_in (d := 87) hN1 hn h3 (by decide) hc) ?_
      rintro _ _ ⟨rfl, rfl⟩
      refine wq_sti [(3, .int (nI (tk_nm n 1 c))), (0, .ref 11), (1, .int (nI a)), (2, .int (nI c))] rfl rfl ?_
      refine wq_con (x := nI 0) rfl (by decide) ?_
      refine wq_sti [(4, .int (nI 0)), (3, .int (nI (tk_nm n 1 c))), (0, .ref 11), (1, .int (nI a)), (2, .int (nI c))] rfl rfl ?_
      have ez : th_po a n = th_po c n := (nI_eq (by omega) (by omega)).mp h31
      refine WP.mono (WP.less (WP.deep (tr_m46 (σ := s0) hn h3 ha hc 4096 0 s0 (by omega) hT tv_un_rf (fun x hx => absurd hx (by omega))) (by decide)) (by simp)) ?_
      rintro r t ⟨z, rfl, hz, Tt, ut⟩
      exact ⟨z, rfl, Or.inl ⟨a, c, e1, e2, by omega, by omega, hz, by rw [e1, e2]; exact ⟨a, c, rfl, rfl, ha, hc, ez⟩⟩, h3, hn, Tt, th_SLu hT hSL ut (by decide)⟩
    · refine wq_con (x := (-1)) rfl (by decide) ?_
      refine wp_reti rfl (th_nI rfl) ⟨_, rfl, Or.inr ⟨fun hk => ?_, rfl⟩, hI⟩
      rw [e1, e2] at hk
      exact h31 (by rw [th_ozn hn ha hc hk])
  show WP 90 184 0 [(0, .ref 11), (1, .int a1), (2, .int a2)] [] σ _
  refine wp_lda rfl tm_m0 ?_
  refine wq_con (x := 0) rfl (by decide) ?_
  refine wq_puti rfl rfl (f := 0) rfl rfl ?_
  rw [e0]
  refine wp_lda rfl tm_m0 ?_
  refine wp_ldi rfl tm_m1 ?_
  refine wq_calv [.int a1] rfl rfl rfl rfl rfl rfl rfl rfl rfl (tg_mset hN1 hn) ?_
  rintro r7 _ ⟨hr7, rfl⟩
  obtain ⟨z7, rfl, hz7, hn7⟩ : ∃ z : Int32, r7 = some (.int z) ∧ (¬ z = 0 → th_st n a1) ∧ (z = 0 → ¬ th_st n a1) := by
    rcases hr7 with ⟨rfl, g⟩ | ⟨rfl, g⟩
    · exact ⟨_, rfl, fun _ => g, fun e => absurd e (by decide)⟩
    · exact ⟨_, rfl, fun e => absurd rfl e, fun _ => g⟩
  refine wq_ifeq rfl (fun h10 => ?_) (fun h10 => ?_)
  · refine wq_con (x := (-1)) rfl (by decide) ?_
    refine wp_reti rfl (th_nI rfl) ⟨_, rfl, Or.inr ⟨fun hk => ?_, rfl⟩, hI⟩
    obtain ⟨a', c', f1, f2, f4, f5, f6⟩ := hk
    first | exact hn7 h10 ⟨a', f1, f4⟩ | exact hn15 h18 ⟨c', f2, f5⟩
  · refine wp_lda rfl tm_m0 ?_
    refine wp_ldi rfl tm_m2 ?_
    refine wq_calv [.int a2] rfl rfl rfl rfl rfl rfl rfl rfl rfl (tg_mset hN1 hn) ?_
    rintro r15 _ ⟨hr15, rfl⟩
    obtain ⟨z15, rfl, hz15, hn15⟩ : ∃ z : Int32, r15 = some (.int z) ∧ (¬ z = 0 → th_st n a2) ∧ (z = 0 → ¬ th_st n a2) := by
      rcases hr15 with ⟨rfl, g⟩ | ⟨rfl, g⟩
      · exact ⟨_, rfl, fun _ => g, fun e => absurd e (by decide)⟩
      · exact ⟨_, rfl, fun e => absurd rfl e, fun _ => g⟩
    refine wq_ifeq rfl (fun h18 => ?_) (fun h18 => ?_)
    · refine wq_con (x := (-1)) rfl (by decide) ?_
      refine wp_reti rfl (th_nI rfl) ⟨_, rfl, Or.inr ⟨fun hk => ?_, rfl⟩, hI⟩
      obtain ⟨a', c', f1, f2, f4, f5, f6⟩ := hk
      first | exact hn7 h10 ⟨a', f1, f4⟩ | exact hn15 h18 ⟨c', f2, f5⟩
    · obtain ⟨a, e1, ha⟩ := hz7 h10
      obtain ⟨c, e2, hc⟩ := hz15 h18
      have kk := k21 a c e1 e2 ha hc
      rw [← e1, ← e2] at kk
      exact kk
