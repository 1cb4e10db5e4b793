/-! ===== leadings of the reference ===== -/
def tl_G (n : Nat) (σ s : tm_S) : Prop := tv_TY (tc_T (n : Int)) s ∧ tv_un σ s [(11, 0), (44, 64), (45, 64), (46, 64), (47, 64)]
theorem tl_hb {u q : Nat} (hu : u < 4096) (hq : q < 12) (h : th_hs (nI u) (nI q) = 0) : u.testBit q = false := by
  rw [th_hs24 (by omega) (by omega)] at h
  cases hb : u.testBit q with
  | false => rfl
  | true => rw [hb] at h; exact absurd h (by decide)
theorem tl_hc {u q : Nat} (hu : u < 4096) (hq : q < 12) (h : ¬ th_hs (nI u) (nI q) = 0) : u.testBit q = true := by
  rw [th_hs24 (by omega) (by omega)] at h
  cases hb : u.testBit q with
  | true => rfl
  | false => rw [hb] at h; exact absurd rfl h
/-- while the sum of T is made -/
def tl_B (n a c T : Nat) (p : Nat × Int32) (σ t : tm_S) : Prop := tl_G n σ t ∧ (tl_N a n (t.1 44) ∧ tl_N c n (t.1 45)) ∧ tl_A n a c (T + 1) (t.1 46) (t.1 47) ∧ t.1 46 T = nI p.1 ∧ t.1 47 T = p.2 ∧ p.1 ≤ 10000
theorem tl_Bs {n a c T v : Nat} {x : Int32} {σ t : tm_S} (hv : v ≤ 10000) (G : tl_G n σ t) (hN : tl_N a n (t.1 44) ∧ tl_N c n (t.1 45)) (hA : tl_A n a c (T + 1) (t.1 46) (t.1 47)) : tl_B n a c T (v, x) σ (tm_sI (tm_sI t 46 T (nI v)) 47 T x) := by
  have ev : (nI v).toInt = v := nI_toInt (by omega)
  refine ⟨⟨tv_TY_row (tv_TY_row G.1 (ty := (0, 20000)) (fun _ => rfl) (by rw [ev]; show (0 : Int) ≤ _; omega) (by rw [ev]; show _ ≤ (20000 : Int); omega)) (ty := ((-2147483648), 2147483647)) (fun _ => rfl) (tn_rng _).1 (tn_rng _).2, tv_un_tr (tv_un_tr G.2 (tv_un_ar rfl rfl)) (tv_un_ar rfl rfl)⟩, hN, fun u u1 u2 => ?_, ?_, ?_, hv⟩
  · rw [tm_gI, if_neg (fun z => absurd z.1 (by decide)), tm_gI, if_neg (fun z => absurd z.2 (by omega)), tm_gI, if_neg (fun z => absurd z.2 (by omega)), tm_gI, if_neg (fun z => absurd z.1 (by decide))]
    exact hA u u1 u2
  · rw [tm_gI, if_neg (fun z => absurd z.1 (by decide)), tm_gI, if_pos ⟨rfl, rfl⟩]
  · rw [tm_gI, if_pos ⟨rfl, rfl⟩]
theorem tl_Bw {n a c T : Nat} {p : Nat × Int32} {x : Int32} {σ t : tm_S} (h : tl_B n a c T p σ t) : tl_B n a c T (p.1, x) σ (tm_sI t 47 T x) := by
  obtain ⟨G, hN, hA, h1, h2, h3⟩ := h
  refine ⟨⟨tv_TY_row G.1 (ty := ((-2147483648), 2147483647)) (fun _ => rfl) (tn_rng _).1 (tn_rng _).2, tv_un_tr G.2 (tv_un_ar rfl rfl)⟩, hN, fun u u1 u2 => ?_, ?_, ?_, h3⟩
  · rw [tm_gI, if_neg (fun z => absurd z.1 (by decide)), tm_gI, if_neg (fun z => absurd z.2 (by omega))]
    exact hA u u1 u2
  · rw [tm_gI, if_neg (fun z => absurd z.1 (by decide))]
    exact h1
  · rw [tm_gI, if_pos ⟨rfl, rfl⟩]
theorem tl_Ms {S n x : Nat} {f : Nat → Int32} (hM : tl_M S n (th_po S x) f) (hb : S.testBit x = false) : tl_M S n (th_po S (x + 1)) f := by
  rw [th_po_s, hb]
  exact hM
theorem tl_Mt {S n x p : Nat} {t : tm_S} (hx : x < n) (hM : tl_M S n (th_po S x) (t.1 p)) (hb : S.testBit x = true) : tl_M S n (th_po S (x + 1)) ((tm_sI t p (th_po S x) (nI x)).1 p) := by
  rw [th_po_s, hb]
  intro i hi
  change i < th_po S x + 1 at hi
  by_cases e : i = th_po S x
  · exact ⟨x, hx, by rw [tm_gI, if_pos ⟨rfl, e⟩], hb, e.symm⟩
  · obtain ⟨y, y1, y2, y3⟩ := hM i (by omega)
    exact ⟨y, y1, by rw [tm_gI, if_neg (fun z => e z.2)]; exact y2, y3⟩
set_option maxRecDepth 100000 in
set_option maxHeartbeats 4000000 in
theorem tl_steps {d n a c i q : Nat} {s : tm_S} (hn : n ≤ 12) (hT : tv_TY (tc_T (n : Int)) s) (hi : i < th_po a n) (hq : q < th_po c n) (h1 : tl_N a n (s.1 44)) (h2 : tl_N c n (s.1 45)) : WM (d + 1) 183 [.ref 11, .int (nI i), .int (nI q)] s (th_is (.int (nI (tl_d n a c i q))) s) := by
  have hk : th_po a n ≤ n := th_sm_le
  have hk2 : th_po c n ≤ n := th_sm_le
  have hN := th_N1 hT hn
  have x1 := (tl_nxo hi).1
  have y1 := (tl_nxo hq).1
  show WP (d + 1) 183 0 [(0, .ref 11), (1, .int (nI i)), (2, .int (nI q))] [] s _
  refine wp_lda rfl tm_m0 ?_
  refine wp_lda rfl tm_m0 ?_
  refine wq_getr (p := 44) rfl rfl (f := 3) rfl rfl ?_
  refine wp_ldi rfl tm_m1 ?_
  refine wp_iald rfl rfl (nI_in (by omega) (by decide)) ?_
  rw [nI_clamp (n := i) (by omega), tl_Nn h1 hi]
  refine wp_lda rfl tm_m0 ?_
  refine wq_getr (p := 45) rfl rfl (f := 4) rfl rfl ?_
  refine wp_ldi rfl tm_m2 ?_
  refine wp_iald rfl rfl (nI_in (by omega) (by decide)) ?_
  rw [nI_clamp (n := q) (by omega), tl_Nn h2 hq]
  refine wq_calv [.int (nI (tl_nx a i n)), .int (nI (tl_nx c q n))] rfl rfl rfl rfl rfl rfl rfl rfl rfl (th_apt hN hn x1 y1) ?_
  rintro _ _ ⟨rfl, rfl⟩
  exact wp_reti rfl (th_nI rfl) ⟨rfl, rfl⟩
set_option maxRecDepth 100000 in
set_option maxHeartbeats 4000000 in
theorem tl_pair {d n a c : Nat} {σ s : tm_S} (hn : n ≤ 12) (ha : a < 2 ^ n) (hc : c < 2 ^ n) (hac : th_po a n = th_po c n) (G : tl_G n σ s) : WM (d + 2) 182 [.ref 11, .int (nI a), .int (nI c)] s (fun q t => q = some (.int (nI (th_po a n))) ∧ tl_G n σ t ∧ tl_N a n (t.1 44) ∧ tl_N c n (t.1 45) ∧ tl_A n a c 0 (t.1 46) (t.1 47)) := by
  have hk : th_po a n ≤ n := th_sm_le
  have hp : 2 ^ n ≤ 4096 := Nat.pow_le_pow_right (n := 2) (by decide) hn
  have hpk : 2 ^ th_po a n ≤ 4096 := Nat.pow_le_pow_right (n := 2) (by decide) (show th_po a n ≤ 12 by omega)
  have hpp : 0 < 2 ^ th_po a n := Nat.two_pow_pos _
  have k77 : ∀ (T : Nat) (t : tm_S), T ≤ 2 ^ th_po a n → tl_G n σ t → (tl_N a n (t.1 44) ∧ tl_N c n (t.1 45)) → tl_A n a c T (t.1 46) (t.1 47) → WP (d + 2) 182 77 [(5, .int (nI T - 1)), (3, .int (nI (th_po a n))), (0, .ref 11)] [] t (fun q t => q = some (.int (nI (th_po a n))) ∧ tl_G n σ t ∧ tl_N a n (t.1 44) ∧ tl_N c n (t.1 45) ∧ tl_A n a c 0 (t.1 46) (t.1 47)) := by
    intro T
    induction T with
    | zero =>
      intro t hT Gt hN hA
      refine wp_ldi rfl tm_m0 ?_
      refine wq_iflt rfl (fun h79 => ?_) (fun h79 => absurd (by decide) h79)
      refine wp_ldi rfl tm_m1 ?_
      exact wp_reti rfl (th_nI rfl) ⟨rfl, Gt, hN.1, hN.2, hA⟩
    | succ T ih =>
      intro t hT Gt hN hA
      rw [nI_pred]
      have hTu : T < 2 ^ th_po a n := by omega
      have h24 : th_po T 24 = th_po T (th_po a n) := th_po24 hTu (by omega)
      have hle : th_po T (th_po a n) ≤ th_po a n := th_sm_le
      refine wp_ldi rfl tm_m0 ?_
      refine wq_iflt rfl (fun h79 => absurd h79 (nI_pos (by omega))) (fun h79 => ?_)
      refine wp_lda rfl tm_m2 ?_
      refine wp_ldi rfl tm_m0 ?_
      refine wq_calv [.int (nI T)] rfl rfl rfl rfl rfl rfl rfl rfl rfl (th_on24 (by omega)) ?_
      rintro _ _ ⟨rfl, rfl⟩
      rw [h24]
      refine wq_sti [(6, .int (nI (th_po T (th_po a n)))), (5, .int (nI T)), (3, .int (nI (th_po a n))), (0, .ref 11)] rfl rfl ?_
      rcases Nat.lt_or_ge (th_po T (th_po a n)) (th_po a n) with hpo | hpo
      · obtain ⟨r, hr⟩ : ∃ r : Nat, th_po T (th_po a n) + (r + 1) = th_po a n := ⟨th_po a n - th_po T (th_po a n) - 1, by omega⟩
        rw [show th_po T (th_po a n) = th_po a n - (r + 1) by omega]
        have hi : th_po a n - (r + 1) < th_po a n := by omega
        have k131 : ∀ (f q : Nat) (p : Nat × Int32) (t : tm_S), q + f = th_po a n → p = tl_fo (tl_st (tl_d n a c (th_po a n - (r + 1))) (tl_LW (th_po a n) (tl_d n a c) r) T) (10000, 0) q → tl_B n a c T p σ t → WP (d + 2) 182 131 [(7, .int (nI q)), (6, .int (nI (th_po a n - (r + 1)))), (5, .int (nI T)), (3, .int (nI (th_po a n))), (0, .ref 11)] [] t (fun q t => q = some (.int (nI (th_po a n))) ∧ tl_G n σ t ∧ tl_N a n (t.1 44) ∧ tl_N c n (t.1 45) ∧ tl_A n a c 0 (t.1 46) (t.1 47)) := by
          intro f
          induction f with
          | zero =>
            intro q p t hq ep hB
            obtain rfl : q = th_po a n := by omega
            obtain ⟨B1, B2, B3, B4, B5, B6⟩ := hB
            have ew : p = tl_LW (th_po a n) (tl_d n a c) (r + 1) T := ep
            refine wp_ldi rfl tm_m0 ?_
            refine wp_ldi rfl tm_m3 ?_
            refine wq_icge rfl (fun h134 => ?_) (fun h134 => absurd (nI_le (Nat.le_refl _) (by omega)) h134)
            refine wq_inc (c := (-1)) [(5, .int ((nI T) + (-1))), (7, .int (nI (th_po a n))), (6, .int (nI (th_po a n - (r + 1)))), (3, .int (nI (th_po a n))), (0, .ref 11)] rfl tm_m2 rfl rfl ?_
            refine wp_go rfl ?_
            rw [show nI T + (-1) = nI T - 1 from (Int32.sub_eq_add_neg _ _).symm]
            refine WP.less (ih t (by omega) B1 B2 (fun u u1 u2 => ?_)) (by simp)
            by_cases e : u = T
            · subst e
              rw [show th_po a n - th_po u (th_po a n) = r + 1 by omega, B4, B5, ew]
              exact ⟨rfl, rfl⟩
            · exact B3 u (by omega) u2
          | succ f ihf =>
            intro q p t hq ep hB
            obtain ⟨B1, B2, B3, B4, B5, B6⟩ := hB
            have nx : ∀ (p2 : Nat × Int32) (t2 : tm_S), p2 = tl_st (tl_d n a c (th_po a n - (r + 1))) (tl_LW (th_po a n) (tl_d n a c) r) T q p → tl_B n a c T p2 σ t2 → WP (d + 2) 182 131 [(7, .int (nI (q + 1))), (6, .int (nI (th_po a n - (r + 1)))), (5, .int (nI T)), (3, .int (nI (th_po a n))), (0, .ref 11)] [] t2 (fun q t => q = some (.int (nI (th_po a n))) ∧ tl_G n σ t ∧ tl_N a n (t.1 44) ∧ tl_N c n (t.1 45) ∧ tl_A n a c 0 (t.1 46) (t.1 47)) := fun p2 t2 e2 h2 => ihf (q + 1) p2 t2 (by omega) (by rw [e2, ep]; rfl) h2
            refine wp_ldi rfl tm_m0 ?_
            refine wp_ldi rfl tm_m3 ?_
            refine wq_icge rfl (fun h134 => absurd h134 (nI_ge (by omega) (by omega))) (fun h134 => ?_)
            refine wp_ldi rfl tm_m1 ?_
            refine wp_ldi rfl tm_m3 ?_
            refine wq_icge rfl (fun h140 => absurd h140 (nI_ge (by omega) (by omega))) (fun h140 => ?_)
            refine wp_lda rfl tm_m4 ?_
            refine wp_ldi rfl tm_m2 ?_
            refine wp_ldi rfl tm_m0 ?_
            refine wq_calv [.int (nI T), .int (nI q)] rfl rfl rfl rfl rfl rfl rfl rfl rfl (th_has) ?_
            rintro _ _ ⟨rfl, rfl⟩
            refine wq_ifeq rfl (fun h151 => ?_) (fun h151 => ?_)
            · have hb : T.testBit q = false := tl_hb (by omega) (by omega) h151
              obtain ⟨o1, o2, o3⟩ := tl_or hTu (show q < th_po a n by omega) hb
              have hL := tl_LWb hn hac r (T ||| 2 ^ q) o1 (by omega)
              have hd6 := tl_d6 (c := c) (i := th_po a n - (r + 1)) hn hi (show q < th_po c n by omega)
              have hrk : th_po a n - th_po (T ||| 2 ^ q) (th_po a n) = r := by omega
              have hAo : ∀ t3 : tm_S, tl_A n a c (T + 1) (t3.1 46) (t3.1 47) → t3.1 46 (T ||| 2 ^ q) = nI (tl_LW (th_po a n) (tl_d n a c) r (T ||| 2 ^ q)).1 ∧ t3.1 47 (T ||| 2 ^ q) = (tl_LW (th_po a n) (tl_d n a c) r (T ||| 2 ^ q)).2 := fun t3 h3 => by
                have := h3 (T ||| 2 ^ q) (by omega) o1
                rw [hrk] at this
                exact this
              have NB : ¬ T.testBit q = true := by rw [hb]; decide
              have k209 : ∀ (p2 : Nat × Int32) (t2 : tm_S), tl_B n a c T p2 σ t2 → tl_st (tl_d n a c (th_po a n - (r + 1))) (tl_LW (th_po a n) (tl_d n a c) r) T q p = (if tl_d n a c (th_po a n - (r + 1)) q + (tl_LW (th_po a n) (tl_d n a c) r (T ||| 2 ^ q)).1 = p2.1 then (p2.1, p2.2 + (tl_LW (th_po a n) (tl_d n a c) r (T ||| 2 ^ q)).2) else p2) → WP (d + 2) 182 209 [(8, .int (nI (tl_d n a c (th_po a n - (r + 1)) q + (tl_LW (th_po a n) (tl_d n a c) r (T ||| 2 ^ q)).1))), (7, .int (nI q)), (6, .int (nI (th_po a n - (r + 1)))), (5, .int (nI T)), (3, .int (nI (th_po a n))), (0, .ref 11)] [] t2 (fun q t => q = some (.int (nI (th_po a n))) ∧ tl_G n σ t ∧ tl_N a n (t.1 44) ∧ tl_N c n (t.1 45) ∧ tl_A n a c 0 (t.1 46) (t.1 47)) := by
                intro p2 t2 hB2 e2
                have ⟨C1, C2, C3, C4, C5, C6⟩ := hB2
                refine wp_ldi rfl tm_m0 ?_
                refine wp_lda rfl tm_m5 ?_
                refine wq_getr (p := 46) rfl rfl (f := 5) rfl rfl ?_
                refine wp_ldi rfl tm_m3 ?_
                refine wp_iald rfl rfl (nI_in (by omega) (by decide)) ?_
                rw [nI_clamp (n := T) (by omega), C4]
                refine wq_icne rfl (fun h218 => ?_) (fun h218 => ?_)
                · refine wq_inc (c := 1) [(7, .int ((nI q) + 1)), (8, .int (nI (tl_d n a c (th_po a n - (r + 1)) q + (tl_LW (th_po a n) (tl_d n a c) r (T ||| 2 ^ q)).1))), (6, .int (nI (th_po a n - (r + 1)))), (5, .int (nI T)), (3, .int (nI (th_po a n))), (0, .ref 11)] rfl tm_m1 rfl rfl ?_
                  refine wp_go rfl ?_
                  rw [nI_1]
                  exact WP.less (nx p2 _ (by rw [e2, if_neg (fun e => h218 (by rw [e]))]) hB2) (by simp)
                · refine wp_lda rfl tm_m5 ?_
                  refine wq_getr (p := 47) rfl rfl (f := 6) rfl rfl ?_
                  refine wp_ldi rfl tm_m3 ?_
                  refine wp_lda rfl tm_m5 ?_
                  refine wq_getr (p := 47) rfl rfl (f := 6) rfl rfl ?_
                  refine wp_ldi rfl tm_m3 ?_
                  refine wp_iald rfl rfl (nI_in (by omega) (by decide)) ?_
                  rw [nI_clamp (n := T) (by omega), C5]
                  refine wp_lda rfl tm_m5 ?_
                  refine wq_getr (p := 47) rfl rfl (f := 6) rfl rfl ?_
                  refine wp_ldi rfl tm_m3 ?_
                  refine wq_con (x := 1) rfl (by decide) ?_
                  refine wp_ldi rfl tm_m1 ?_
                  refine wq_ishl rfl ?_
                  refine wq_ior rfl ?_
                  rw [th_nIor (by omega) (by omega)]
                  refine wp_iald rfl rfl (nI_in (by omega) (by decide)) ?_
                  rw [nI_clamp (n := T ||| 2 ^ q) (by omega), (hAo t2 C3).2]
                  refine wq_iadd rfl ?_
                  refine wp_iast rfl rfl (nI_in (by omega) (by decide)) ?_
                  refine wq_inc (c := 1) [(7, .int ((nI q) + 1)), (8, .int (nI (tl_d n a c (th_po a n - (r + 1)) q + (tl_LW (th_po a n) (tl_d n a c) r (T ||| 2 ^ q)).1))), (6, .int (nI (th_po a n - (r + 1)))), (5, .int (nI T)), (3, .int (nI (th_po a n))), (0, .ref 11)] rfl tm_m1 rfl rfl ?_
                  refine wp_go rfl ?_
                  rw [nI_1, nI_clamp (n := T) (by omega)]
                  exact WP.less (nx (p2.1, p2.2 + (tl_LW (th_po a n) (tl_d n a c) r (T ||| 2 ^ q)).2) _ (by rw [e2, if_pos ((nI_eq (by omega) (by omega)).mp (Classical.not_not.mp h218))]) (tl_Bw hB2)) (by simp)
              refine wp_lda rfl tm_m4 ?_
              refine wp_ldi rfl tm_m1 ?_
              refine wp_ldi rfl tm_m0 ?_
              refine wq_calv [.int (nI (th_po a n - (r + 1))), .int (nI q)] rfl rfl rfl rfl rfl rfl rfl rfl rfl (tl_steps hn B1.1 hi (show q < th_po c n by omega) B2.1 B2.2) ?_
              rintro _ _ ⟨rfl, rfl⟩
              refine wp_lda rfl tm_m4 ?_
              refine wq_getr (p := 46) rfl rfl (f := 5) rfl rfl ?_
              refine wp_ldi rfl tm_m2 ?_
              refine wq_con (x := 1) rfl (by decide) ?_
              refine wp_ldi rfl tm_m0 ?_
              refine wq_ishl rfl ?_
              refine wq_ior rfl ?_
              rw [th_nIor (by omega) (by omega)]
              refine wp_iald rfl rfl (nI_in (by omega) (by decide)) ?_
              rw [nI_clamp (n := T ||| 2 ^ q) (by omega), (hAo t B3).1]
              refine wq_iadd rfl ?_
              rw [nI_add]
              refine wq_sti [(8, .int (nI (tl_d n a c (th_po a n - (r + 1)) q + (tl_LW (th_po a n) (tl_d n a c) r (T ||| 2 ^ q)).1))), (7, .int (nI q)), (6, .int (nI (th_po a n - (r + 1)))), (5, .int (nI T)), (3, .int (nI (th_po a n))), (0, .ref 11)] rfl rfl ?_
              refine wp_ldi rfl tm_m0 ?_
              refine wp_lda rfl tm_m5 ?_
              refine wq_getr (p := 46) rfl rfl (f := 5) rfl rfl ?_
              refine wp_ldi rfl tm_m3 ?_
              refine wp_iald rfl rfl (nI_in (by omega) (by decide)) ?_
              rw [nI_clamp (n := T) (by omega), B4]
              refine wq_icge rfl (fun h189 => ?_) (fun h189 => ?_)
              · have c1 : ¬ tl_d n a c (th_po a n - (r + 1)) q + (tl_LW (th_po a n) (tl_d n a c) r (T ||| 2 ^ q)).1 < p.1 := fun z => absurd h189 (nI_ge z (by omega))
                exact WP.less (k209 p _ ⟨B1, B2, B3, B4, B5, B6⟩ (by unfold tl_st; rw [if_neg NB, if_neg c1])) (by simp)
              · refine wp_lda rfl tm_m5 ?_
                refine wq_getr (p := 46) rfl rfl (f := 5) rfl rfl ?_
                refine wp_ldi rfl tm_m3 ?_
                refine wp_ldi rfl tm_m0 ?_
                refine wp_iast rfl rfl (nI_in (by omega) (by decide)) ?_
                refine wp_lda rfl tm_m5 ?_
                refine wq_getr (p := 47) rfl rfl (f := 6) rfl rfl ?_
                refine wp_ldi rfl tm_m3 ?_
                refine wq_con (x := 0) rfl (by decide) ?_
                refine wp_iast rfl rfl (nI_in (by omega) (by decide)) ?_
                have c1 : tl_d n a c (th_po a n - (r + 1)) q + (tl_LW (th_po a n) (tl_d n a c) r (T ||| 2 ^ q)).1 < p.1 := Classical.byContradiction (fun z => h189 (nI_le (by omega) (by omega)))
                rw [nI_clamp (n := T) (by omega)]
                exact WP.less (k209 (tl_d n a c (th_po a n - (r + 1)) q + (tl_LW (th_po a n) (tl_d n a c) r (T ||| 2 ^ q)).1, 0) _ (tl_Bs (by omega) B1 B2 B3) (by unfold tl_st; rw [if_neg NB, if_pos c1, if_pos rfl])) (by simp)
            · refine wp_go rfl ?_
              refine wq_inc (c := 1) [(7, .int ((nI q) + 1)), (6, .int (nI (th_po a n - (r + 1)))), (5, .int (nI T)), (3, .int (nI (th_po a n))), (0, .ref 11)] rfl tm_m0 rfl rfl ?_
              refine wp_go rfl ?_
              have hb : T.testBit q = true := tl_hc (by omega) (by omega) h151
              rw [nI_1]
              exact WP.less (nx p _ (by unfold tl_st; rw [if_pos hb]) ⟨B1, B2, B3, B4, B5, B6⟩) (by simp)
        refine wp_lda rfl tm_m3 ?_
        refine wq_getr (p := 46) rfl rfl (f := 5) rfl rfl ?_
        refine wp_ldi rfl tm_m1 ?_
        refine wp_ldi rfl tm_m0 ?_
        refine wp_ldi rfl tm_m2 ?_
        refine wq_icne rfl (fun h99 => ?_) (fun h99 => absurd ((nI_eq (by omega) (by omega)).mp (Classical.not_not.mp h99)) (by omega))
        refine wq_con (x := nI 10000) rfl (by decide) ?_
        refine wp_iast rfl rfl (nI_in (by omega) (by decide)) ?_
        refine wp_lda rfl tm_m3 ?_
        refine wq_getr (p := 47) rfl rfl (f := 6) rfl rfl ?_
        refine wp_ldi rfl tm_m1 ?_
        refine wp_ldi rfl tm_m0 ?_
        refine wp_ldi rfl tm_m2 ?_
        refine wq_icne rfl (fun h119 => ?_) (fun h119 => absurd ((nI_eq (by omega) (by omega)).mp (Classical.not_not.mp h119)) (by omega))
        refine wq_con (x := 0) rfl (by decide) ?_
        refine wp_iast rfl rfl (nI_in (by omega) (by decide)) ?_
        refine wq_con (x := nI 0) rfl (by decide) ?_
        refine wq_sti [(7, .int (nI 0)), (6, .int (nI (th_po a n - (r + 1)))), (5, .int (nI T)), (3, .int (nI (th_po a n))), (0, .ref 11)] rfl rfl ?_
        rw [nI_clamp (n := T) (by omega)]
        exact WP.less (k131 (th_po a n) 0 (10000, 0) _ (by omega) rfl (tl_Bs (by decide) Gt hN hA)) (by simp)
      · have efu : th_po T (th_po a n) = th_po a n := by omega
        rw [efu]
        refine wp_lda rfl tm_m3 ?_
        refine wq_getr (p := 46) rfl rfl (f := 5) rfl rfl ?_
        refine wp_ldi rfl tm_m1 ?_
        refine wp_ldi rfl tm_m0 ?_
        refine wp_ldi rfl tm_m2 ?_
        refine wq_icne rfl (fun h99 => absurd rfl h99) (fun h99 => ?_)
        refine wq_con (x := nI 0) rfl (by decide) ?_
        refine wp_go rfl ?_
        refine wp_iast rfl rfl (nI_in (by omega) (by decide)) ?_
        refine wp_lda rfl tm_m3 ?_
        refine wq_getr (p := 47) rfl rfl (f := 6) rfl rfl ?_
        refine wp_ldi rfl tm_m1 ?_
        refine wp_ldi rfl tm_m0 ?_
        refine wp_ldi rfl tm_m2 ?_
        refine wq_icne rfl (fun h119 => absurd rfl h119) (fun h119 => ?_)
        refine wq_con (x := 1) rfl (by decide) ?_
        refine wp_go rfl ?_
        refine wp_iast rfl rfl (nI_in (by omega) (by decide)) ?_
        refine wq_con (x := nI 0) rfl (by decide) ?_
        refine wq_sti [(7, .int (nI 0)), (6, .int (nI (th_po a n))), (5, .int (nI T)), (3, .int (nI (th_po a n))), (0, .ref 11)] rfl rfl ?_
        refine wp_ldi rfl tm_m0 ?_
        refine wp_ldi rfl tm_m3 ?_
        refine wq_icge rfl (fun h134 => ?_) (fun h134 => ?_)
        · refine wq_inc (c := (-1)) [(5, .int ((nI T) + (-1))), (7, .int (nI 0)), (6, .int (nI (th_po a n))), (3, .int (nI (th_po a n))), (0, .ref 11)] rfl tm_m2 rfl rfl ?_
          refine wp_go rfl ?_
          rw [show nI T + (-1) = nI T - 1 from (Int32.sub_eq_add_neg _ _).symm]
          rw [nI_clamp (n := T) (by omega)]
          obtain ⟨B1, B2, B3, B4, B5, -⟩ := tl_Bs (v := 0) (x := 1) (by decide) Gt hN hA
          refine WP.less (ih _ (by omega) B1 B2 (fun u u1 u2 => ?_)) (by simp)
          by_cases e : u = T
          · subst e
            rw [efu, Nat.sub_self, B4, B5]
            exact ⟨rfl, rfl⟩
          · exact B3 u (by omega) u2
        · refine wp_ldi rfl tm_m1 ?_
          refine wp_ldi rfl tm_m3 ?_
          refine wq_icge rfl (fun h140 => ?_) (fun h140 => absurd (nI_le (Nat.le_refl _) (by omega)) h140)
          refine wq_inc (c := (-1)) [(5, .int ((nI T) + (-1))), (7, .int (nI 0)), (6, .int (nI (th_po a n))), (3, .int (nI (th_po a n))), (0, .ref 11)] rfl tm_m2 rfl rfl ?_
          refine wp_go rfl ?_
          rw [show nI T + (-1) = nI T - 1 from (Int32.sub_eq_add_neg _ _).symm]
          rw [nI_clamp (n := T) (by omega)]
          obtain ⟨B1, B2, B3, B4, B5, -⟩ := tl_Bs (v := 0) (x := 1) (by decide) Gt hN hA
          refine WP.less (ih _ (by omega) B1 B2 (fun u u1 u2 => ?_)) (by simp)
          by_cases e : u = T
          · subst e
            rw [efu, Nat.sub_self, B4, B5]
            exact ⟨rfl, rfl⟩
          · exact B3 u (by omega) u2
  have k8 : ∀ (f x : Nat) (t : tm_S), x + f = n → tl_G n σ t → tl_M a n (th_po a x) (t.1 44) → tl_M c n (th_po c x) (t.1 45) → WP (d + 2) 182 8 [(5, .int (nI x)), (4, .int (nI (th_po c x))), (3, .int (nI (th_po a x))), (0, .ref 11), (1, .int (nI a)), (2, .int (nI c))] [] t (fun q t => q = some (.int (nI (th_po a n))) ∧ tl_G n σ t ∧ tl_N a n (t.1 44) ∧ tl_N c n (t.1 45) ∧ tl_A n a c 0 (t.1 46) (t.1 47)) := by
    intro f
    induction f with
    | zero =>
      intro x t hx Gt M1 M2
      obtain rfl : x = n := by omega
      have hN1 := th_N1 Gt.1 hn
      refine wp_ldi rfl tm_m0 ?_
      refine wp_lda rfl tm_m3 ?_
      refine wq_geti rfl rfl (f := 1) rfl rfl (Or.inl rfl) ?_
      rw [hN1]
      refine wq_icge rfl (fun h14 => ?_) (fun h14 => absurd (nI_le (Nat.le_refl _) (by omega)) h14)
      refine wq_con (x := 1) rfl (by decide) ?_
      refine wp_ldi rfl tm_m2 ?_
      refine wq_ishl rfl ?_
      refine wq_con (x := 1) rfl (by decide) ?_
      refine wq_isub rfl ?_
      rw [th_m24 _ (by omega)]
      refine wq_sti [(5, .int (nI (2 ^ th_po a x - 1))), (4, .int (nI (th_po c x))), (3, .int (nI (th_po a x))), (0, .ref 11), (1, .int (nI a)), (2, .int (nI c))] rfl rfl ?_
      rw [show nI (2 ^ th_po a x - 1) = nI (2 ^ th_po a x) - 1 by rw [← nI_pred (2 ^ th_po a x - 1), Nat.sub_add_cancel hpp]]
      exact WP.less (k77 (2 ^ th_po a x) t (Nat.le_refl _) Gt ⟨M1, M2⟩ (fun u u1 u2 => absurd u1 (by omega))) (by simp)
    | succ f ih =>
      intro x t hx Gt M1 M2
      have hN1 := th_N1 Gt.1 hn
      have ex1 : (nI x).toInt = x := nI_toInt (by omega)
      have l1 : th_po a x ≤ x := th_sm_le
      have l2 : th_po c x ≤ x := th_sm_le
      have k39 : ∀ t2 : tm_S, tl_G n σ t2 → tl_M a n (th_po a (x + 1)) (t2.1 44) → tl_M c n (th_po c x) (t2.1 45) → WP (d + 2) 182 39 [(5, .int (nI x)), (4, .int (nI (th_po c x))), (3, .int (nI (th_po a (x + 1)))), (0, .ref 11), (1, .int (nI a)), (2, .int (nI c))] [] t2 (fun q t => q = some (.int (nI (th_po a n))) ∧ tl_G n σ t ∧ tl_N a n (t.1 44) ∧ tl_N c n (t.1 45) ∧ tl_A n a c 0 (t.1 46) (t.1 47)) := by
        intro t2 G2 H1 H2
        refine wp_lda rfl tm_m3 ?_
        refine wp_ldi rfl tm_m5 ?_
        refine wp_ldi rfl tm_m0 ?_
        refine wq_calv [.int (nI c), .int (nI x)] rfl rfl rfl rfl rfl rfl rfl rfl rfl (th_has) ?_
        rintro _ _ ⟨rfl, rfl⟩
        refine wq_ifeq rfl (fun h46 => ?_) (fun h46 => ?_)
        · refine wq_inc (c := 1) [(5, .int ((nI x) + 1)), (4, .int (nI (th_po c x))), (3, .int (nI (th_po a (x + 1)))), (0, .ref 11), (1, .int (nI a)), (2, .int (nI c))] rfl tm_m0 rfl rfl ?_
          refine wp_go rfl ?_
          have hb := tl_hb (by omega) (by omega) h46
          rw [nI_1, show th_po c x = th_po c (x + 1) by rw [th_po_s, hb]; rfl]
          exact WP.less (ih (x + 1) _ (by omega) G2 H1 (tl_Ms H2 hb)) (by simp)
        · refine wp_lda rfl tm_m3 ?_
          refine wq_getr (p := 45) rfl rfl (f := 4) rfl rfl ?_
          refine wp_ldi rfl tm_m1 ?_
          refine wp_ldi rfl tm_m0 ?_
          refine wp_iast rfl rfl (nI_in (by omega) (by decide)) ?_
          refine wp_ldi rfl tm_m1 ?_
          refine wq_con (x := 1) rfl (by decide) ?_
          refine wq_iadd rfl ?_
          refine wq_sti [(4, .int ((nI (th_po c x)) + 1)), (5, .int (nI x)), (3, .int (nI (th_po a (x + 1)))), (0, .ref 11), (1, .int (nI a)), (2, .int (nI c))] rfl rfl ?_
          refine wq_inc (c := 1) [(5, .int ((nI x) + 1)), (4, .int ((nI (th_po c x)) + 1)), (3, .int (nI (th_po a (x + 1)))), (0, .ref 11), (1, .int (nI a)), (2, .int (nI c))] rfl tm_m1 rfl rfl ?_
          refine wp_go rfl ?_
          have hb := tl_hc (by omega) (by omega) h46
          rw [nI_1, nI_1, nI_clamp (n := th_po c x) (by omega), show th_po c x + 1 = th_po c (x + 1) by rw [th_po_s, hb]; rfl]
          exact WP.less (ih (x + 1) _ (by omega) ⟨tv_TY_row G2.1 (ty := (0, 11)) (fun _ => rfl) (by rw [ex1]; show (0 : Int) ≤ _; omega) (by rw [ex1]; show _ ≤ (11 : Int); omega), tv_un_tr G2.2 (tv_un_ar rfl rfl)⟩ H1 (tl_Mt (by omega) H2 hb)) (by simp)
      refine wp_ldi rfl tm_m0 ?_
      refine wp_lda rfl tm_m3 ?_
      refine wq_geti rfl rfl (f := 1) rfl rfl (Or.inl rfl) ?_
      rw [hN1]
      refine wq_icge rfl (fun h14 => absurd h14 (nI_ge (by omega) (by omega))) (fun h14 => ?_)
      refine wp_lda rfl tm_m3 ?_
      refine wp_ldi rfl tm_m4 ?_
      refine wp_ldi rfl tm_m0 ?_
      refine wq_calv [.int (nI a), .int (nI x)] rfl rfl rfl rfl rfl rfl rfl rfl rfl (th_has) ?_
      rintro _ _ ⟨rfl, rfl⟩
      refine wq_ifeq rfl (fun h24 => ?_) (fun h24 => ?_)
      · have hb := tl_hb (by omega) (by omega) h24
        rw [show th_po a x = th_po a (x + 1) by rw [th_po_s, hb]; rfl]
        exact WP.less (k39 _ Gt (tl_Ms M1 hb) M2) (by simp)
      · refine wp_lda rfl tm_m3 ?_
        refine wq_getr (p := 44) rfl rfl (f := 3) rfl rfl ?_
        refine wp_ldi rfl tm_m2 ?_
        refine wp_ldi rfl tm_m0 ?_
        refine wp_iast rfl rfl (nI_in (by omega) (by decide)) ?_
        refine wp_ldi rfl tm_m2 ?_
        refine wq_con (x := 1) rfl (by decide) ?_
        refine wq_iadd rfl ?_
        refine wq_sti [(3, .int ((nI (th_po a x)) + 1)), (5, .int (nI x)), (4, .int (nI (th_po c x))), (0, .ref 11), (1, .int (nI a)), (2, .int (nI c))] rfl rfl ?_
        have hb := tl_hc (by omega) (by omega) h24
        rw [nI_1, nI_clamp (n := th_po a x) (by omega), show th_po a x + 1 = th_po a (x + 1) by rw [th_po_s, hb]; rfl]
        exact WP.less (k39 _ ⟨tv_TY_row Gt.1 (ty := (0, 11)) (fun _ => rfl) (by rw [ex1]; show (0 : Int) ≤ _; omega) (by rw [ex1]; show _ ≤ (11 : Int); omega), tv_un_tr Gt.2 (tv_un_ar rfl rfl)⟩ (tl_Mt (by omega) M1 hb) M2) (by simp)
  show WP (d + 2) 182 0 [(0, .ref 11), (1, .int (nI a)), (2, .int (nI c))] [] s _
  refine wq_con (x := nI 0) rfl (by decide) ?_
  refine wq_sti [(3, .int (nI 0)), (0, .ref 11), (1, .int (nI a)), (2, .int (nI c))] rfl rfl ?_
  refine wq_con (x := nI 0) rfl (by decide) ?_
  refine wq_sti [(4, .int (nI 0)), (3, .int (nI 0)), (0, .ref 11), (1, .int (nI a)), (2, .int (nI c))] rfl rfl ?_
  refine wq_con (x := nI 0) rfl (by decide) ?_
  refine wq_sti [(5, .int (nI 0)), (4, .int (nI 0)), (3, .int (nI 0)), (0, .ref 11), (1, .int (nI a)), (2, .int (nI c))] rfl rfl ?_
  exact WP.less (k8 n 0 s (by omega) G (fun q hq => absurd hq (Nat.not_lt_zero _)) (fun q hq => absurd hq (Nat.not_lt_zero _))) (by simp [th_po, th_sm])
set_option maxRecDepth 100000 in
set_option maxHeartbeats 4000000 in
theorem tf_m_lead {n : Nat} {a1 a2 a3 : Int32} {σ : tm_S} (h : th_IV n σ) : WM 90 181 [.ref 11, .int a1, .int a2, .int a3] σ (fun r σ' => ∃ z : Int32, r = some (.int z) ∧ tp_lead n a1 a2 a3 z ∧ th_IV n σ') := by
  have hI := th_IV0 h
  generalize e0 : tm_sI σ 11 0 0 = s0 at hI
  have ⟨h3, hn, hT, hSL⟩ := hI
  have hN1 := th_N1 hT hn
  have hp : 2 ^ n ≤ 4096 := Nat.pow_le_pow_right (n := 2) (by decide) hn
  have k40 : ∀ a c W : Nat, a1 = nI a → a2 = nI c → a3 = nI W → W < 2 ^ 31 → a < 2 ^ n → c < 2 ^ n → th_po a n = th_po c n → WP 90 181 40 [(0, .ref 11), (1, .int (nI a)), (2, .int (nI c)), (3, .int (nI W))] [] s0 (fun r σ' => ∃ z : Int32, r = some (.int z) ∧ tp_lead n a1 a2 a3 z ∧ th_IV n σ') := by
    intro a c W e1 e2 e3 hW ha hc hac
    have hk : th_po a n ≤ n := th_sm_le
    have hpk : 2 ^ th_po a n ≤ 4096 := Nat.pow_le_pow_right (n := 2) (by decide) (show th_po a n ≤ 12 by omega)
    have hpp : 0 < 2 ^ th_po a n := Nat.two_pow_pos _
    have eW : (nI W).toInt = W := nI_toInt hW
    have ok : W < 2 + th_po a n → tp_lok n a1 a2 a3 := fun hw => ⟨a, c, W, e1, e2, e3, ha, hc, hac, hw⟩
    have nok : ¬ W < 2 + th_po a n → ¬ tp_lok n a1 a2 a3 := fun hw hk => by
      obtain ⟨a', c', W', f1, f2, f3, f4, f5, f6, f7⟩ := hk
      have l' : th_po a' n ≤ n := th_sm_le
      rw [(nI_eq (by omega) (by omega)).mp (e1.symm.trans f1), (nI_eq (by omega) (by omega)).mp (e3.symm.trans f3)] at hw
      exact hw f7
    refine wp_lda rfl tm_m0 ?_
    refine wp_ldi rfl tm_m1 ?_
    refine wp_ldi rfl tm_m2 ?_
    refine wq_calv [.int (nI a), .int (nI c)] rfl rfl rfl rfl rfl rfl rfl rfl rfl (tl_pair (d := 87) hn ha hc hac ⟨hT, tv_un_rf⟩) ?_
    rintro _ t ⟨rfl, Gt, N1, N2, At⟩
    have IVt : th_IV n t := ⟨h3, hn, Gt.1, th_SLu hT hSL Gt.2 (by decide)⟩
    refine wq_sti [(4, .int (nI (th_po a n))), (0, .ref 11), (1, .int (nI a)), (2, .int (nI c)), (3, .int (nI W))] rfl rfl ?_
    refine wp_ldi rfl tm_m4 ?_
    refine wq_ifne rfl (fun h49 => ?_) (fun h49 => ?_)
    · refine wp_ldi rfl tm_m4 ?_
      refine wq_con (x := 1) rfl (by decide) ?_
      refine wq_icne rfl (fun h61 => ?_) (fun h61 => ?_)
      · have w2 : 2 ≤ W := by
          have d0 : ¬ W = 0 := fun e => h49 (by rw [e]; rfl)
          have d1 : ¬ W = 1 := fun e => h61 (by rw [e]; rfl)
          omega
        refine wp_ldi rfl tm_m4 ?_
        refine wq_con (x := 2) rfl (by decide) ?_
        refine wq_isub rfl ?_
        rw [show (2 : Int32) = nI 2 from rfl, th_subN (by omega) (by omega)]
        refine wp_ldi rfl tm_m0 ?_
        refine wq_iclt rfl (fun h76 => ?_) (fun h76 => ?_)
        · have g76 : (nI (W - 2)).toInt < (nI (th_po a n)).toInt := tn_ltI.mp h76
          have hw : W - 2 < th_po a n := Classical.byContradiction (fun z => absurd h76 (nI_nlt (by omega) (by omega)))
          have w2 : 2 ≤ W := by omega
          have hLu : ∀ v : Nat, v < 2 ^ th_po a n → t.1 46 v = nI (tl_Lu n a c v) ∧ tl_Lu n a c v ≤ 72 := fun v hv => by
            have hpv : th_po v (th_po a n) ≤ th_po a n := th_sm_le
            have := tl_LWb hn hac (th_po a n - th_po v (th_po a n)) v hv (by omega)
            exact ⟨(At v (Nat.zero_le _) hv).1, by unfold tl_Lu; omega⟩
          have k90 : ∀ (f m : Nat) (g : Int32), m + f = W - 1 → (f = 0 → g = nI (tl_fb n a c (tl_tk n a c (W - 2)) (W - 2))) → WP 90 181 90 [(7, .int (nI m)), (6, .int g), (5, .int (nI (tl_tk n a c m))), (0, .ref 11), (3, .int (nI W))] [] t (fun r σ' => ∃ z : Int32, r = some (.int z) ∧ tp_lead n a1 a2 a3 z ∧ th_IV n σ') := by
            intro f
            induction f with
            | zero =>
              intro m g hm hg
              obtain rfl := hg rfl
              obtain rfl : m = W - 1 := by omega
              obtain ⟨t1, t2⟩ := tl_tko (c := c) hn hac (W - 2) (by omega)
              obtain ⟨f1, f2, -, -⟩ := tl_fbo hn hac t1 t2 hw
              refine wp_ldi rfl tm_m0 ?_
              refine wp_ldi rfl tm_m4 ?_
              refine wq_con (x := 2) rfl (by decide) ?_
              refine wq_isub rfl ?_
              rw [show (2 : Int32) = nI 2 from rfl, th_subN (by omega) (by omega)]
              refine wq_icgt rfl (fun h95 => ?_) (fun h95 => absurd (nI_lt (by omega) (by omega)) h95)
              refine wp_lda rfl tm_m3 ?_
              refine wq_getr (p := 45) rfl rfl (f := 4) rfl rfl ?_
              refine wp_ldi rfl tm_m1 ?_
              refine wp_iald rfl rfl (nI_in (by omega) (by decide)) ?_
              rw [nI_clamp (n := tl_fb n a c (tl_tk n a c (W - 2)) (W - 2)) (by omega), tl_Nn N2 (by omega)]
              exact wp_reti rfl (th_nI rfl) ⟨_, rfl, Or.inl ⟨a, c, W, e1, e2, e3, by omega, by omega, by omega, by unfold tl_v; rw [if_neg (by omega), if_neg (by omega)], ok (by omega)⟩, IVt⟩
            | succ f ih =>
              intro m g hm hg
              obtain ⟨hu, hi⟩ := tl_tko (c := c) hn hac m (by omega)
              have hik : m < th_po a n := by omega
              obtain ⟨f1, f2, f3, f4⟩ := tl_fbo hn hac hu hi hik
              have k101 : ∀ f2 q : Nat, q + f2 = tl_fb n a c (tl_tk n a c m) m → WP 90 181 101 [(7, .int (nI m)), (6, .int (nI q)), (5, .int (nI (tl_tk n a c m))), (0, .ref 11), (3, .int (nI W))] [] t (fun r σ' => ∃ z : Int32, r = some (.int z) ∧ tp_lead n a1 a2 a3 z ∧ th_IV n σ') := by
                intro fz
                induction fz with
                | zero =>
                  intro q hq
                  obtain rfl : q = tl_fb n a c (tl_tk n a c m) m := by omega
                  refine wp_lda rfl tm_m3 ?_
                  refine wp_ldi rfl tm_m2 ?_
                  refine wp_ldi rfl tm_m1 ?_
                  refine wq_calv [.int (nI (tl_tk n a c m)), .int (nI (tl_fb n a c (tl_tk n a c m) m))] rfl rfl rfl rfl rfl rfl rfl rfl rfl (th_has) ?_
                  rintro _ _ ⟨rfl, rfl⟩
                  refine wq_ifne rfl (fun h109 => absurd (by rw [th_hs24 (by omega) (by omega), f2]; rfl) h109) (fun h109 => ?_)
                  have hb : (tl_tk n a c m).testBit (tl_fb n a c (tl_tk n a c m) m) = false := f2
                  obtain ⟨o1, o2, o3⟩ := tl_or hu (show tl_fb n a c (tl_tk n a c m) m < th_po a n by omega) hb
                  obtain ⟨g1, g2⟩ := hLu _ o1
                  obtain ⟨g3, g4⟩ := hLu _ hu
                  have hd6 := tl_d6 (c := c) (i := m) (j := tl_fb n a c (tl_tk n a c m) m) hn hik (by omega)
                  refine wp_lda rfl tm_m3 ?_
                  refine wp_ldi rfl tm_m0 ?_
                  refine wp_ldi rfl tm_m1 ?_
                  refine wq_calv [.int (nI m), .int (nI (tl_fb n a c (tl_tk n a c m) m))] rfl rfl rfl rfl rfl rfl rfl rfl rfl (tl_steps hn Gt.1 hik (by omega) N1 N2) ?_
                  rintro _ _ ⟨rfl, rfl⟩
                  refine wp_lda rfl tm_m3 ?_
                  refine wq_getr (p := 46) rfl rfl (f := 5) rfl rfl ?_
                  refine wp_ldi rfl tm_m2 ?_
                  refine wq_con (x := 1) rfl (by decide) ?_
                  refine wp_ldi rfl tm_m1 ?_
                  refine wq_ishl rfl ?_
                  refine wq_ior rfl ?_
                  rw [th_nIor (by omega) (by omega)]
                  refine wp_iald rfl rfl (nI_in (by omega) (by decide)) ?_
                  rw [nI_clamp (n := tl_tk n a c m ||| 2 ^ (tl_fb n a c (tl_tk n a c m) m)) (by omega), g1]
                  refine wq_iadd rfl ?_
                  rw [nI_add]
                  refine wp_lda rfl tm_m3 ?_
                  refine wq_getr (p := 46) rfl rfl (f := 5) rfl rfl ?_
                  refine wp_ldi rfl tm_m2 ?_
                  refine wp_iald rfl rfl (nI_in (by omega) (by decide)) ?_
                  rw [nI_clamp (n := tl_tk n a c m) (by omega), g3]
                  refine wq_iceq rfl (fun h140 => ?_) (fun h140 => absurd (by rw [f3]) h140)
                  refine wp_ldi rfl tm_m2 ?_
                  refine wq_con (x := 1) rfl (by decide) ?_
                  refine wp_ldi rfl tm_m1 ?_
                  refine wq_ishl rfl ?_
                  refine wq_ior rfl ?_
                  rw [th_nIor (by omega) (by omega)]
                  refine wq_sti [(5, .int (nI (tl_tk n a c m ||| 2 ^ (tl_fb n a c (tl_tk n a c m) m)))), (7, .int (nI m)), (6, .int (nI (tl_fb n a c (tl_tk n a c m) m))), (0, .ref 11), (3, .int (nI W))] rfl rfl ?_
                  refine wq_inc (c := 1) [(7, .int ((nI m) + 1)), (5, .int (nI (tl_tk n a c m ||| 2 ^ (tl_fb n a c (tl_tk n a c m) m)))), (6, .int (nI (tl_fb n a c (tl_tk n a c m) m))), (0, .ref 11), (3, .int (nI W))] rfl tm_m1 rfl rfl ?_
                  refine wp_go rfl ?_
                  rw [nI_1]
                  refine WP.less (ih (m + 1) (nI (tl_fb n a c (tl_tk n a c m) m)) (by omega) (fun e => ?_)) (by simp [tl_tk])
                  rw [show W - 2 = m by omega]
                | succ fz ihz =>
                  intro q hq
                  refine wp_lda rfl tm_m3 ?_
                  refine wp_ldi rfl tm_m2 ?_
                  refine wp_ldi rfl tm_m1 ?_
                  refine wq_calv [.int (nI (tl_tk n a c m)), .int (nI q)] rfl rfl rfl rfl rfl rfl rfl rfl rfl (th_has) ?_
                  rintro _ _ ⟨rfl, rfl⟩
                  refine wq_ifne rfl (fun h109 => ?_) (fun h109 => ?_)
                  · refine wp_ldi rfl tm_m1 ?_
                    refine wq_con (x := 1) rfl (by decide) ?_
                    refine wq_iadd rfl ?_
                    refine wq_sti [(6, .int ((nI q) + 1)), (7, .int (nI m)), (5, .int (nI (tl_tk n a c m))), (0, .ref 11), (3, .int (nI W))] rfl rfl ?_
                    refine wp_go rfl ?_
                    rw [nI_1]
                    exact WP.less (ihz (q + 1) (by omega)) (by simp)
                  · have hb := tl_hb (u := tl_tk n a c m) (by omega) (by omega) (Classical.not_not.mp h109)
                    obtain ⟨o1, o2, o3⟩ := tl_or hu (show q < th_po a n by omega) hb
                    obtain ⟨g1, g2⟩ := hLu _ o1
                    obtain ⟨g3, g4⟩ := hLu _ hu
                    have hd6 := tl_d6 (c := c) (i := m) (j := q) hn hik (by omega)
                    refine wp_lda rfl tm_m3 ?_
                    refine wp_ldi rfl tm_m0 ?_
                    refine wp_ldi rfl tm_m1 ?_
                    refine wq_calv [.int (nI m), .int (nI q)] rfl rfl rfl rfl rfl rfl rfl rfl rfl (tl_steps hn Gt.1 hik (by omega) N1 N2) ?_
                    rintro _ _ ⟨rfl, rfl⟩
                    refine wp_lda rfl tm_m3 ?_
                    refine wq_getr (p := 46) rfl rfl (f := 5) rfl rfl ?_
                    refine wp_ldi rfl tm_m2 ?_
                    refine wq_con (x := 1) rfl (by decide) ?_
                    refine wp_ldi rfl tm_m1 ?_
                    refine wq_ishl rfl ?_
                    refine wq_ior rfl ?_
                    rw [th_nIor (by omega) (by omega)]
                    refine wp_iald rfl rfl (nI_in (by omega) (by decide)) ?_
                    rw [nI_clamp (n := tl_tk n a c m ||| 2 ^ q) (by omega), g1]
                    refine wq_iadd rfl ?_
                    rw [nI_add]
                    refine wp_lda rfl tm_m3 ?_
                    refine wq_getr (p := 46) rfl rfl (f := 5) rfl rfl ?_
                    refine wp_ldi rfl tm_m2 ?_
                    refine wp_iald rfl rfl (nI_in (by omega) (by decide)) ?_
                    rw [nI_clamp (n := tl_tk n a c m) (by omega), g3]
                    refine wq_iceq rfl (fun h140 => ?_) (fun h140 => ?_)
                    · have := f4 q (by omega)
                      unfold tl_P at this
                      rw [hb, (nI_eq (by omega) (by omega)).mp h140] at this
                      simp at this
                    · refine wp_ldi rfl tm_m1 ?_
                      refine wq_con (x := 1) rfl (by decide) ?_
                      refine wq_iadd rfl ?_
                      refine wq_sti [(6, .int ((nI q) + 1)), (7, .int (nI m)), (5, .int (nI (tl_tk n a c m))), (0, .ref 11), (3, .int (nI W))] rfl rfl ?_
                      refine wp_go rfl ?_
                      rw [nI_1]
                      exact WP.less (ihz (q + 1) (by omega)) (by simp)
              refine wp_ldi rfl tm_m0 ?_
              refine wp_ldi rfl tm_m4 ?_
              refine wq_con (x := 2) rfl (by decide) ?_
              refine wq_isub rfl ?_
              rw [show (2 : Int32) = nI 2 from rfl, th_subN (by omega) (by omega)]
              refine wq_icgt rfl (fun h95 => absurd h95 (nI_nlt (by omega) (by omega))) (fun h95 => ?_)
              refine wq_con (x := nI 0) rfl (by decide) ?_
              refine wq_sti [(6, .int (nI 0)), (7, .int (nI m)), (5, .int (nI (tl_tk n a c m))), (0, .ref 11), (3, .int (nI W))] rfl rfl ?_
              exact WP.less (k101 (tl_fb n a c (tl_tk n a c m) m) 0 (by omega)) (by simp)
          refine wq_con (x := nI 0) rfl (by decide) ?_
          refine wq_sti [(5, .int (nI 0)), (4, .int (nI (th_po a n))), (0, .ref 11), (1, .int (nI a)), (2, .int (nI c)), (3, .int (nI W))] rfl rfl ?_
          refine wq_con (x := nI 0) rfl (by decide) ?_
          refine wq_sti [(6, .int (nI 0)), (5, .int (nI 0)), (4, .int (nI (th_po a n))), (0, .ref 11), (1, .int (nI a)), (2, .int (nI c)), (3, .int (nI W))] rfl rfl ?_
          refine wq_con (x := nI 0) rfl (by decide) ?_
          refine wq_sti [(7, .int (nI 0)), (6, .int (nI 0)), (5, .int (nI 0)), (4, .int (nI (th_po a n))), (0, .ref 11), (1, .int (nI a)), (2, .int (nI c)), (3, .int (nI W))] rfl rfl ?_
          exact WP.less (k90 (W - 1) 0 (nI 0) (by omega) (fun e => absurd e (by omega))) (by simp [tl_tk])
        · have g76 : ¬ (nI (W - 2)).toInt < (nI (th_po a n)).toInt := fun g => h76 (tn_ltI.mpr g)
          refine wq_con (x := (-1)) rfl (by decide) ?_
          exact wp_reti rfl (th_nI rfl) ⟨_, rfl, Or.inr ⟨nok (fun hw => h76 (nI_lt (by omega) (by omega))), rfl⟩, IVt⟩
      · have g61 : (nI W).toInt = 1 := congrArg Int32.toInt (Classical.not_not.mp h61)
        have w1 : W = 1 := by rw [eW] at g61; omega
        refine wp_lda rfl tm_m1 ?_
        refine wq_getr (p := 47) rfl rfl (f := 6) rfl rfl ?_
        refine wq_con (x := 0) rfl (by decide) ?_
        refine wp_iald rfl rfl (tn_in (by decide) (by decide)) ?_
        rw [show (0 : Int32).toNatClampNeg = 0 from rfl, (At 0 (Nat.le_refl _) hpp).2]
        exact wp_reti rfl (th_nI rfl) ⟨_, rfl, Or.inl ⟨a, c, W, e1, e2, e3, by omega, by omega, by omega, by rw [show W = 1 by omega]; rfl, ok (by omega)⟩, IVt⟩
    · have g49 : (nI W).toInt = 0 := congrArg Int32.toInt (Classical.not_not.mp h49)
      have w0 : W = 0 := by rw [eW] at g49; omega
      refine wp_lda rfl tm_m1 ?_
      refine wq_getr (p := 46) rfl rfl (f := 5) rfl rfl ?_
      refine wq_con (x := 0) rfl (by decide) ?_
      refine wp_iald rfl rfl (tn_in (by decide) (by decide)) ?_
      rw [show (0 : Int32).toNatClampNeg = 0 from rfl, (At 0 (Nat.le_refl _) hpp).1]
      exact wp_reti rfl (th_nI rfl) ⟨_, rfl, Or.inl ⟨a, c, W, e1, e2, e3, by omega, by omega, by omega, by rw [show W = 0 by omega]; rfl, ok (by omega)⟩, IVt⟩
  have k21 : ∀ a c : Nat, a1 = nI a → a2 = nI c → a < 2 ^ n → c < 2 ^ n → WP 90 181 21 [(0, .ref 11), (1, .int (nI a)), (2, .int (nI c)), (3, .int a3)] [] s0 (fun r σ' => ∃ z : Int32, r = some (.int z) ∧ tp_lead n a1 a2 a3 z ∧ th_IV n σ') := by
    intro a c e1 e2 ha hc
    have hk : th_po a n ≤ n := th_sm_le
    have hk2 : th_po c n ≤ n := th_sm_le
    have pa : th_po a 24 = th_po a n := th_po24 ha (by omega)
    have pc : th_po c 24 = th_po c n := th_po24 hc (by omega)
    have same : ∀ {a' c' : Nat}, a1 = nI a' → a2 = nI c' → a' < 2 ^ n → c' < 2 ^ n → a' = a ∧ c' = c := fun f1 f2 f3 f4 => ⟨(nI_eq (by omega) (by omega)).mp (f1.symm.trans e1), (nI_eq (by omega) (by omega)).mp (f2.symm.trans e2)⟩
    refine wp_lda rfl tm_m0 ?_
    refine wp_ldi rfl tm_m1 ?_
    refine wq_calv [.int (nI a)] rfl rfl rfl rfl rfl rfl rfl rfl rfl (th_on24 (by omega)) ?_
    rintro _ _ ⟨rfl, rfl⟩
    rw [pa]
    refine wp_lda rfl tm_m0 ?_
    refine wp_ldi rfl tm_m2 ?_
    refine wq_calv [.int (nI c)] rfl rfl rfl rfl rfl rfl rfl rfl rfl (th_on24 (by omega)) ?_
    rintro _ _ ⟨rfl, rfl⟩
    rw [pc]
    refine wq_icne rfl (fun h31 => ?_) (fun h31 => ?_)
    · refine wq_con (x := (-1)) rfl (by decide) ?_
      refine wp_reti rfl (th_nI rfl) ⟨_, rfl, Or.inr ⟨fun hk => ?_, rfl⟩, hI⟩
      obtain ⟨a', c', W', f1, f2, f3, f4, f5, f6, f7⟩ := hk
      obtain ⟨rfl, rfl⟩ := same f1 f2 f4 f5
      first | (rw [f3] at g35; have eW : (nI W').toInt = W' := nI_toInt (by omega); change ¬ (0 : Int) ≤ _ at g35; omega) | exact h31 (by rw [f6])
    · have g31 : (nI (th_po a n)).toInt = (nI (th_po c n)).toInt := congrArg Int32.toInt (Classical.not_not.mp h31)
      refine wp_ldi rfl tm_m3 ?_
      refine wq_ifge rfl (fun h35 => ?_) (fun h35 => ?_)
      · have g35 : 0 ≤ (a3).toInt := tn_leI.mp h35
        change (0 : Int) ≤ a3.toInt at g35
        obtain ⟨W, w1, e3⟩ := nI_of (x := a3) (by rw [tn_ltI]; show ¬ a3.toInt < 0; omega)
        have kk := k40 a c W e1 e2 e3 w1 ha hc ((nI_eq (by omega) (by omega)).mp (Classical.not_not.mp h31))
        rw [← e3] at kk
        exact kk
      · have g35 : ¬ 0 ≤ (a3).toInt := fun g => h35 (tn_leI.mpr g)
        refine wq_con (x := (-1)) rfl (by decide) ?_
        refine wp_reti rfl (th_nI rfl) ⟨_, rfl, Or.inr ⟨fun hk => ?_, rfl⟩, hI⟩
        obtain ⟨a', c', W', f1, f2, f3, f4, f5, f6, f7⟩ := hk
        obtain ⟨rfl, rfl⟩ := same f1 f2 f4 f5
        first | (rw [f3] at g35; have eW : (nI W').toInt = W' := nI_toInt (by omega); change ¬ (0 : Int) ≤ _ at g35; omega) | exact h31 (by rw [f6])
  show WP 90 181 0 [(0, .ref 11), (1, .int a1), (2, .int a2), (3, .int a3)] [] σ _
  refine wp_lda rfl tm_m0 ?_
  refine wq_con (x := 0) rfl (by decide) ?_
  refine wq_puti rfl rfl (f := 0) rfl rfl ?_
  rw [e0]
  refine wp_lda rfl tm_m0 ?_
  refine wp_ldi rfl tm_m1 ?_
  refine wq_calv [.int a1] rfl rfl rfl rfl rfl rfl rfl rfl rfl (tg_mset hN1 hn) ?_
  rintro r7 _ ⟨hr7, rfl⟩
  obtain ⟨z7, rfl, hz7, hn7⟩ : ∃ z : Int32, r7 = some (.int z) ∧ (¬ z = 0 → th_st n a1) ∧ (z = 0 → ¬ th_st n a1) := by
    rcases hr7 with ⟨rfl, g⟩ | ⟨rfl, g⟩
    · exact ⟨_, rfl, fun _ => g, fun e => absurd e (by decide)⟩
    · exact ⟨_, rfl, fun e => absurd rfl e, fun _ => g⟩
  refine wq_ifeq rfl (fun h10 => ?_) (fun h10 => ?_)
  · refine wq_con (x := (-1)) rfl (by decide) ?_
    refine wp_reti rfl (th_nI rfl) ⟨_, rfl, Or.inr ⟨fun hk => ?_, rfl⟩, hI⟩
    obtain ⟨a', c', W', f1, f2, f3, f4, f5, f6, f7⟩ := hk
    first | exact hn7 h10 ⟨a', f1, f4⟩ | exact hn15 h18 ⟨c', f2, f5⟩
  · refine wp_lda rfl tm_m0 ?_
    refine wp_ldi rfl tm_m2 ?_
    refine wq_calv [.int a2] rfl rfl rfl rfl rfl rfl rfl rfl rfl (tg_mset hN1 hn) ?_
    rintro r15 _ ⟨hr15, rfl⟩
    obtain ⟨z15, rfl, hz15, hn15⟩ : ∃ z : Int32, r15 = some (.int z) ∧ (¬ z = 0 → th_st n a2) ∧ (z = 0 → ¬ th_st n a2) := by
      rcases hr15 with ⟨rfl, g⟩ | ⟨rfl, g⟩
      · exact ⟨_, rfl, fun _ => g, fun e => absurd e (by decide)⟩
      · exact ⟨_, rfl, fun e => absurd rfl e, fun _ => g⟩
    refine wq_ifeq rfl (fun h18 => ?_) (fun h18 => ?_)
    · refine wq_con (x := (-1)) rfl (by decide) ?_
      refine wp_reti rfl (th_nI rfl) ⟨_, rfl, Or.inr ⟨fun hk => ?_, rfl⟩, hI⟩
      obtain ⟨a', c', W', f1, f2, f3, f4, f5, f6, f7⟩ := hk
      first | exact hn7 h10 ⟨a', f1, f4⟩ | exact hn15 h18 ⟨c', f2, f5⟩
    · obtain ⟨a, e1, ha⟩ := hz7 h10
      obtain ⟨c, e2, hc⟩ := hz15 h18
      have kk := k21 a c e1 e2 ha hc
      rw [← e1, ← e2] at kk
      exact kk
