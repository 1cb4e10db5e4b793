/-! ===== names: nameIn ===== -/
set_option maxRecDepth 100000 in
set_option maxHeartbeats 4000000 in
theorem tk_in {d n g S : Nat} {σ : tm_S} (hN : σ.1 11 1 = nI n) (hn : n ≤ 12) (h3 : 3 ≤ n) (hg : g ≤ 2) (hS : S < 2 ^ n) : WM (d + 2) 169 [.ref 11, .int (nI g), .int (nI S)] σ (th_is (.int (nI (tk_nm n g S))) σ) := by
  have hp : 2 ^ n ≤ 4096 := Nat.pow_le_pow_right (n := 2) (by decide) hn
  have k5 : ∀ f m : Nat, m + f = n → 1 ≤ m → WP (d + 2) 169 5 [(4, .int (nI m)), (3, .int (nI (tk_lf (tg_I n g S m) S))), (0, .ref 11), (1, .int (nI g)), (2, .int (nI S))] [] σ (th_is (.int (nI (tk_nm n g S))) σ) := by
    intro f
    induction f with
    | zero =>
      intro m hm h1
      obtain rfl : m = n := by omega
      refine wp_ldi rfl tm_m0 ?_
      refine wp_lda rfl tm_m2 ?_
      refine wq_geti rfl rfl (f := 1) rfl rfl (Or.inl rfl) ?_
      rw [hN]
      refine wq_icge rfl (fun h11 => ?_) (fun h11 => absurd (nI_le (Nat.le_refl _) (by omega)) h11)
      refine wp_ldi rfl tm_m1 ?_
      exact wp_reti rfl (th_nI rfl) ⟨rfl, rfl⟩
    | succ f ih =>
      intro m hm h1
      have hfi := th_fP_iff (g := g) (m := m) hn (by omega)
      have k30 : th_fac n g m = true → ∀ f2 t : Nat, t + f2 = n → WP (d + 2) 169 30 [(5, .int (nI t)), (4, .int (nI m)), (3, .int (nI (tk_lf (tg_J n g S m t) S))), (0, .ref 11), (1, .int (nI g)), (2, .int (nI S))] [] σ (th_is (.int (nI (tk_nm n g S))) σ) := by
        intro hf f2
        induction f2 with
        | zero =>
          intro t ht
          obtain rfl : t = n := by omega
          refine wp_ldi rfl tm_m0 ?_
          refine wp_lda rfl tm_m3 ?_
          refine wq_geti rfl rfl (f := 1) rfl rfl (Or.inl rfl) ?_
          rw [hN]
          refine wq_icge rfl (fun h36 => ?_) (fun h36 => absurd (nI_le (Nat.le_refl _) (by omega)) h36)
          refine wq_inc (c := 1) [(4, .int ((nI m) + 1)), (5, .int (nI t)), (3, .int (nI (tk_lf (tg_J t g S m t) S))), (0, .ref 11), (1, .int (nI g)), (2, .int (nI S))] rfl tm_m1 rfl rfl ?_
          refine wp_go rfl ?_
          rw [nI_1, tg_Jn hf]
          exact WP.less (ih (m + 1) (by omega) (by omega)) (by simp)
        | succ f2 ihf =>
          intro t ht
          have e : tk_lf (tg_J n g S m (t + 1)) S = (if th_im n S m t n < tk_lf (tg_J n g S m t) S then th_im n S m t n else tk_lf (tg_J n g S m t) S) := by rw [tg_J1, tk_lf1]
          have li : th_im n S m t n < 2 ^ n := th_im_lt (by omega) n
          have ll : tk_lf (tg_J n g S m t) S ≤ S := (tk_lfg _ _).1
          refine wp_ldi rfl tm_m0 ?_
          refine wp_lda rfl tm_m3 ?_
          refine wq_geti rfl rfl (f := 1) rfl rfl (Or.inl rfl) ?_
          rw [hN]
          refine wq_icge rfl (fun h36 => absurd h36 (nI_ge (by omega) (by omega))) (fun h36 => ?_)
          refine wp_lda rfl tm_m3 ?_
          refine wp_ldi rfl tm_m5 ?_
          refine wp_ldi rfl tm_m1 ?_
          refine wp_ldi rfl tm_m0 ?_
          refine wq_calv [.int (nI S), .int (nI m), .int (nI t)] rfl rfl rfl rfl rfl rfl rfl rfl rfl (th_imof hN hn hS (by omega) (by omega)) ?_
          rintro _ _ ⟨rfl, rfl⟩
          refine wq_sti [(6, .int (nI (th_im n S m t n))), (5, .int (nI t)), (4, .int (nI m)), (3, .int (nI (tk_lf (tg_J n g S m t) S))), (0, .ref 11), (1, .int (nI g)), (2, .int (nI S))] rfl rfl ?_
          refine wp_ldi rfl tm_m0 ?_
          refine wp_ldi rfl tm_m3 ?_
          refine wq_icge rfl (fun h53 => ?_) (fun h53 => ?_)
          · refine wq_inc (c := 1) [(5, .int ((nI t) + 1)), (6, .int (nI (th_im n S m t n))), (4, .int (nI m)), (3, .int (nI (tk_lf (tg_J n g S m t) S))), (0, .ref 11), (1, .int (nI g)), (2, .int (nI S))] rfl tm_m1 rfl rfl ?_
            refine wp_go rfl ?_
            rw [if_neg (fun q => absurd h53 (nI_ge q (by omega)))] at e
            rw [nI_1, ← e]
            exact WP.less (ihf (t + 1) (by omega)) (by simp)
          · refine wp_ldi rfl tm_m0 ?_
            refine wq_sti [(3, .int (nI (th_im n S m t n))), (6, .int (nI (th_im n S m t n))), (5, .int (nI t)), (4, .int (nI m)), (0, .ref 11), (1, .int (nI g)), (2, .int (nI S))] rfl rfl ?_
            refine wq_inc (c := 1) [(5, .int ((nI t) + 1)), (3, .int (nI (th_im n S m t n))), (6, .int (nI (th_im n S m t n))), (4, .int (nI m)), (0, .ref 11), (1, .int (nI g)), (2, .int (nI S))] rfl tm_m2 rfl rfl ?_
            refine wp_go rfl ?_
            rw [if_pos (Classical.byContradiction (fun q => h53 (nI_le (by omega) (by omega))))] at e
            rw [nI_1, ← e]
            exact WP.less (ihf (t + 1) (by omega)) (by simp)
      refine wp_ldi rfl tm_m0 ?_
      refine wp_lda rfl tm_m2 ?_
      refine wq_geti rfl rfl (f := 1) rfl rfl (Or.inl rfl) ?_
      rw [hN]
      refine wq_icge rfl (fun h11 => absurd h11 (nI_ge (by omega) (by omega))) (fun h11 => ?_)
      refine wp_lda rfl tm_m2 ?_
      refine wp_ldi rfl tm_m3 ?_
      refine wp_ldi rfl tm_m0 ?_
      refine wq_calv [.int (nI g), .int (nI m)] rfl rfl rfl rfl rfl rfl rfl rfl rfl (th_mfac hN hn h3 hg) ?_
      rintro r18 _ ⟨hr18, rfl⟩
      obtain ⟨z18, rfl, hz18, hn18⟩ : ∃ z : Int32, r18 = some (.int z) ∧ (¬ z = 0 → th_fP n g (nI m)) ∧ (z = 0 → ¬ th_fP n g (nI m)) := by
        rcases hr18 with ⟨rfl, g⟩ | ⟨rfl, g⟩
        · exact ⟨_, rfl, fun _ => g, fun e => absurd e (by decide)⟩
        · exact ⟨_, rfl, fun e => absurd rfl e, fun _ => g⟩
      refine wq_ifne rfl (fun h21 => ?_) (fun h21 => ?_)
      · refine wq_con (x := nI 0) rfl (by decide) ?_
        refine wq_sti [(5, .int (nI 0)), (4, .int (nI m)), (3, .int (nI (tk_lf (tg_I n g S m) S))), (0, .ref 11), (1, .int (nI g)), (2, .int (nI S))] rfl rfl ?_
        exact WP.less (k30 (hfi.mp (hz18 h21)) n 0 (by omega)) (by simp [tg_J0])
      · refine wp_go rfl ?_
        refine wq_inc (c := 1) [(4, .int ((nI m) + 1)), (3, .int (nI (tk_lf (tg_I n g S m) S))), (0, .ref 11), (1, .int (nI g)), (2, .int (nI S))] rfl tm_m0 rfl rfl ?_
        refine wp_go rfl ?_
        rw [nI_1, ← tg_Is (n := n) (g := g) (a := S) (m := m) (fun q => hn18 (Classical.not_not.mp h21) (hfi.mpr q))]
        exact WP.less (ih (m + 1) (by omega) (by omega)) (by simp)
  show WP (d + 2) 169 0 [(0, .ref 11), (1, .int (nI g)), (2, .int (nI S))] [] σ _
  refine wp_ldi rfl tm_m2 ?_
  refine wq_sti [(3, .int (nI S)), (0, .ref 11), (1, .int (nI g)), (2, .int (nI S))] rfl rfl ?_
  refine wq_con (x := nI 1) rfl (by decide) ?_
  refine wq_sti [(4, .int (nI 1)), (3, .int (nI S)), (0, .ref 11), (1, .int (nI g)), (2, .int (nI S))] rfl rfl ?_
  exact WP.less (k5 (n - 1) 1 (by omega) (Nat.le_refl _)) (by simp [tg_I1, tk_lf])
