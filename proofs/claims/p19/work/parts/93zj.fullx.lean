/-! ===== full rows: the class ===== -/
set_option maxRecDepth 100000 in
set_option maxHeartbeats 4000000 in
theorem tu_add {d n U : Nat} {r : Int64} {σ s : tm_S} (F : th_FR n [(4, 4), (24, 64)] σ s) (hr : th_dg 12 r) (hU : s.1 4 4 = nI U) (hb : U + 1 ≤ 4174) : WM d 72 [.ref 4, .long r] s (fun q s' => q = none ∧ th_FR n [(4, 4), (24, 64)] σ s' ∧ s'.1 4 4 = nI (U + 1)) := by
  show WP d 72 0 [(0, .ref 4), (1, .long r)] [] s _
  refine wp_lda rfl tm_m0 ?_
  refine wq_geti rfl rfl (f := 4) rfl rfl (Or.inl rfl) ?_
  rw [hU]
  refine wp_lda rfl tm_m0 ?_
  refine wq_getr (p := 24) rfl rfl (f := 0) rfl rfl ?_
  refine wq_len (x := 4174) rfl rfl (by decide) ?_
  refine wq_icge rfl (fun h9 => absurd h9 (nI_ge (a := U) (b := 4174) (by omega) (by decide))) (fun h9 => ?_)
  refine wp_lda rfl tm_m0 ?_
  refine wq_getr (p := 24) rfl rfl (f := 0) rfl rfl ?_
  refine wp_lda rfl tm_m0 ?_
  refine wq_geti rfl rfl (f := 4) rfl rfl (Or.inl rfl) ?_
  rw [hU]
  refine wp_ldl rfl tm_m1 ?_
  refine wp_last rfl rfl (nI_in (by omega) (by decide)) ?_
  refine wp_lda rfl tm_m0 ?_
  refine wp_dup rfl rfl ?_
  refine wq_geti rfl rfl (f := 4) rfl rfl (Or.inl rfl) ?_
  rw [tm_gIJ, hU]
  refine wq_con (x := 1) rfl (by decide) ?_
  refine wq_iadd rfl ?_
  rw [nI_1]
  refine wq_puti rfl rfl (f := 4) rfl rfl ?_
  have eU : (nI (U + 1)).toInt = (U + 1 : Nat) := nI_toInt (by omega)
  refine wp_retv rfl ⟨rfl, ⟨tv_TY_sI (σ := tm_sJ s 24 _ r) ⟨F.1.1, F.1.2⟩ (by rw [eU]; show (0 : Int) ≤ _; omega) (by rw [eU]; show _ ≤ (4174 : Int); omega), tv_un_tr (tv_un_tr F.2.1 (tv_un_aJ rfl rfl)) (tv_un_fI rfl), fun i => ?_⟩, by rw [tm_gI, if_pos ⟨rfl, rfl⟩]⟩
  show th_dg 12 ((tm_sJ s 24 (nI U).toNatClampNeg r).2.1 24 i)
  rw [tm_gJ]
  split
  · exact hr
  · exact F.2.2 i
theorem tu_p12 : ∀ x : Nat, x < 12 → 2 ^ x < 4096 := by decide
theorem tu_pck : (List.range 4096).all (fun m => !(Nat.beq (th_pc m) 0) || Nat.beq m 0) = true := by decide +kernel
theorem tu_pc0 {m : Nat} (hm : m < 4096) (h : th_pc m = 0) : m = 0 := by
  have h1 := List.all_eq_true.mp tu_pck m (List.mem_range.mpr hm)
  rw [h, Bool.or_eq_true] at h1
  rcases h1 with h1 | h1
  · cases h1
  · exact Nat.eq_of_beq_eq_true h1
set_option maxRecDepth 100000 in
set_option maxHeartbeats 4000000 in
theorem tu_len {n : Nat} {σ : tm_S} (hn : n ≤ 12) (h3 : 3 ≤ n) : ∀ (k L l N G a U V : Nat) (s : tm_S), L + k = n → l < n → N < 2 ^ n → G < 2 ^ n → th_di 12 L a → th_FR n [(4, 4), (24, 64)] σ s → s.1 4 4 = nI U → U + tu_c n k L l N G = V → V ≤ 4174 → WM (k + 3) 71 [.ref 4, .int (nI n), .int (nI L), .int (nI l), .int (nI N), .int (nI G), .long (th_L a)] s (fun q s' => q = none ∧ th_FR n [(4, 4), (24, 64)] σ s' ∧ s'.1 4 4 = nI V) := by
  have hp : 2 ^ n ≤ 4096 := Nat.pow_le_pow_right (n := 2) (by decide) hn
  intro k
  induction k with
  | zero =>
    intro L l N G a U V s hL hl hN hG ha F hU hV hb
    obtain rfl : L = n := by omega
    have hV2 : U + 1 = V := hV
    show WP 3 71 0 [(0, .ref 4), (1, .int (nI L)), (2, .int (nI L)), (3, .int (nI l)), (4, .int (nI N)), (5, .int (nI G)), (6, .long (th_L a))] [] s _
    refine wp_ldi rfl tm_m2 ?_
    refine wp_ldi rfl tm_m1 ?_
    refine wq_iclt rfl (fun h2 => absurd h2 (nI_nlt (Nat.le_refl _) (by omega))) (fun h2 => ?_)
    refine wp_lda rfl tm_m0 ?_
    refine wp_ldl rfl tm_m6 ?_
    refine wq_calv [.long (th_L a)] rfl rfl rfl rfl rfl rfl rfl rfl rfl (tu_add F (th_di_dg ha (by omega) (Nat.le_refl _)) hU (by omega)) ?_
    rintro _ s8 ⟨rfl, F8, U8⟩
    exact wp_retv rfl ⟨rfl, F8, by rw [U8, hV2]⟩
  | succ k ih =>
    intro L l N G a U V s hL hl hN hG ha F hU hV hb
    rw [tu_cs] at hV
    have k58 : ∀ (c m U : Nat) (t : tm_S), th_pc m = c → m < 2 ^ n → th_FR n [(4, 4), (24, 64)] σ t → t.1 4 4 = nI U → U + tu_s (tu_F n k L l N G) m 12 = V → WP (k + 1 + 3) 71 58 [(9, .int (nI (th_pc m))), (8, .int (nI m)), (0, .ref 4), (1, .int (nI n)), (2, .int (nI L)), (3, .int (nI l)), (4, .int (nI N)), (5, .int (nI G)), (6, .long (th_L a))] [] t (fun q s' => q = none ∧ th_FR n [(4, 4), (24, 64)] σ s' ∧ s'.1 4 4 = nI V) := by
      intro c
      induction c with
      | zero =>
        intro m U t hc hm Ft hU hV
        have m0 : m = 0 := tu_pc0 (by omega) hc
        rw [m0, tu_s0, Nat.add_zero] at hV
        refine wp_ldi rfl tm_m0 ?_
        refine wq_ifle rfl (fun h60 => ?_) (fun h60 => absurd (by rw [hc]; decide) h60)
        exact wp_retv rfl ⟨rfl, Ft, by rw [hU, hV]⟩
      | succ c ihc =>
        intro m U t hc hm Ft hU hV
        obtain ⟨x1, x2, -⟩ := th_tk1 (show m < 4096 by omega) (by omega)
        have hp12 := th_pc12 m
        have m0 : ¬ m = 0 := fun e => by rw [e, show th_pc 0 = 0 from rfl] at hc; omega
        obtain ⟨l1, l2, l3, -⟩ := tl_lw (show m < 4096 by omega) m0
        have lx : tl_low m 12 < n := Classical.byContradiction (fun q => by
          rw [Nat.testBit_lt_two_pow (Nat.lt_of_lt_of_le hm (Nat.pow_le_pow_right (by decide) (by omega)))] at l1
          cases l1)
        rw [tu_st (show m < 4096 by omega) m0] at hV
        have lg := tu_go hl lx
        have px : 2 ^ tl_low m 12 < 4096 := tu_p12 _ l2
        have pg : 2 ^ tu_g n l (tl_low m 12) < 4096 := tu_p12 _ (by omega)
        refine wp_ldi rfl tm_m0 ?_
        refine wq_ifle rfl (fun h60 => absurd h60 (nI_nle (by omega) (by omega))) (fun h60 => ?_)
        refine wp_ldi rfl tm_m1 ?_
        refine wq_cals [.int (nI m)] rfl rfl rfl rfl rfl rfl (tl_lm (by omega) m0) ?_
        rintro _ _ ⟨rfl, rfl⟩
        refine wq_sti [(10, .int (nI (tl_low m 12))), (9, .int (nI (th_pc m))), (8, .int (nI m)), (0, .ref 4), (1, .int (nI n)), (2, .int (nI L)), (3, .int (nI l)), (4, .int (nI N)), (5, .int (nI G)), (6, .long (th_L a))] rfl rfl ?_
        refine wp_ldi rfl tm_m2 ?_
        refine wq_cals [.int (nI m)] rfl rfl rfl rfl rfl rfl (tl_wl (by omega) m0) ?_
        rintro _ _ ⟨rfl, rfl⟩
        refine wq_sti [(8, .int (nI (m &&& (m - 1)))), (10, .int (nI (tl_low m 12))), (9, .int (nI (th_pc m))), (0, .ref 4), (1, .int (nI n)), (2, .int (nI L)), (3, .int (nI l)), (4, .int (nI N)), (5, .int (nI G)), (6, .long (th_L a))] rfl rfl ?_
        refine wp_ldi rfl tm_m8 ?_
        refine wq_con (x := 1) rfl (by decide) ?_
        refine wp_ldi rfl tm_m6 ?_
        refine wp_ldi rfl tm_m1 ?_
        refine wp_ldi rfl tm_m4 ?_
        refine wq_cals [.int (nI l), .int (nI (tl_low m 12)), .int (nI n)] rfl rfl rfl rfl rfl rfl (tu_gap (by omega) hl lx) ?_
        rintro _ _ ⟨rfl, rfl⟩
        refine wq_ishl rfl ?_
        rw [th_1p _ (by omega)]
        refine wq_con (x := (-1)) rfl (by decide) ?_
        refine wq_ixor rfl ?_
        refine wq_iand rfl ?_
        rw [tu_not (by omega) pg]
        refine wq_sti [(11, .int (nI (G &&& (4095 ^^^ 2 ^ tu_g n l (tl_low m 12))))), (8, .int (nI (m &&& (m - 1)))), (10, .int (nI (tl_low m 12))), (9, .int (nI (th_pc m))), (0, .ref 4), (1, .int (nI n)), (2, .int (nI L)), (3, .int (nI l)), (4, .int (nI N)), (5, .int (nI G)), (6, .long (th_L a))] rfl rfl ?_
        refine wp_lda rfl tm_m4 ?_
        refine wp_ldi rfl tm_m5 ?_
        refine wp_ldi rfl tm_m6 ?_
        refine wq_con (x := 1) rfl (by decide) ?_
        refine wq_iadd rfl ?_
        rw [nI_1]
        refine wp_ldi rfl tm_m2 ?_
        refine wp_ldi rfl tm_m8 ?_
        refine wq_con (x := 1) rfl (by decide) ?_
        refine wp_ldi rfl tm_m2 ?_
        refine wq_ishl rfl ?_
        rw [th_1p _ l2]
        refine wq_con (x := (-1)) rfl (by decide) ?_
        refine wq_ixor rfl ?_
        refine wq_iand rfl ?_
        rw [tu_not (by omega) px]
        refine wp_ldi rfl tm_m0 ?_
        refine wp_ldl rfl tm_m10 ?_
        refine wp_ldi rfl tm_m2 ?_
        refine wp_i2l rfl ?_
        refine wq_con (x := 4) rfl (by decide) ?_
        refine wp_ldi rfl tm_m6 ?_
        refine wq_imul rfl ?_
        refine wq_lshl rfl ?_
        refine wq_lor rfl ?_
        rw [th_app ha.1 (by omega) (by omega)]
        refine wq_calv [.int (nI n), .int (nI (L + 1)), .int (nI (tl_low m 12)), .int (nI (N &&& (4095 ^^^ 2 ^ tl_low m 12))), .int (nI (G &&& (4095 ^^^ 2 ^ tu_g n l (tl_low m 12)))), .long (th_L (a + tl_low m 12 * 16 ^ L))] rfl rfl rfl rfl rfl rfl rfl rfl rfl (ih (L + 1) (tl_low m 12) (N &&& (4095 ^^^ 2 ^ tl_low m 12)) (G &&& (4095 ^^^ 2 ^ tu_g n l (tl_low m 12))) (a + tl_low m 12 * 16 ^ L) U (U + tu_F n k L l N G (tl_low m 12)) t (by omega) lx (tu_an hN) (tu_an hG) (th_di1 ha l2 (by decide)) Ft hU rfl (by omega)) ?_
        rintro _ t2 ⟨rfl, F2, U2⟩
        refine wq_inc (c := (-1)) [(9, .int ((nI (th_pc m)) + (-1))), (11, .int (nI (G &&& (4095 ^^^ 2 ^ tu_g n l (tl_low m 12))))), (8, .int (nI (m &&& (m - 1)))), (10, .int (nI (tl_low m 12))), (0, .ref 4), (1, .int (nI n)), (2, .int (nI L)), (3, .int (nI l)), (4, .int (nI N)), (5, .int (nI G)), (6, .long (th_L a))] rfl tm_m3 rfl rfl ?_
        refine wp_go rfl ?_
        have e9 : nI (th_pc m) + (-1) = nI (th_pc (m &&& (m - 1))) := by
          rw [← x1]
          exact Int32.toInt_inj.mp (by rw [tn_add (by rw [nI_toInt (by omega)]; show -2147483648 ≤ _ + (-1 : Int); omega) (by rw [nI_toInt (by omega)]; show _ + (-1 : Int) ≤ 2147483647; omega), nI_toInt (by omega), nI_toInt (by omega)]; show _ + (-1 : Int) = _; omega)
        rw [e9]
        exact WP.less (ihc (m &&& (m - 1)) _ t2 (by omega) (tu_an hm) F2 U2 (by omega)) (by simp)
    have em : tu_o n L l N G = (N &&& th_R n G l) &&& tu_M n L := by
      rw [tu_rt hn hl hN hG]
      rfl
    have lo : N &&& th_R n G l < 2 ^ n := tu_an hN
    have lR : th_R n G l < 2 ^ n := th_R_lt hG
    have lt2 : tu_o n L l N G < 2 ^ n := by rw [em]; exact tu_an lo
    have k49 : WP (k + 1 + 3) 71 49 [(8, .int (nI (N &&& th_R n G l))), (0, .ref 4), (1, .int (nI n)), (2, .int (nI L)), (3, .int (nI l)), (4, .int (nI N)), (5, .int (nI G)), (6, .long (th_L a))] [.int (nI (tu_o n L l N G))] s (fun q s' => q = none ∧ th_FR n [(4, 4), (24, 64)] σ s' ∧ s'.1 4 4 = nI V) := by
      refine wq_sti [(8, .int (nI (tu_o n L l N G))), (0, .ref 4), (1, .int (nI n)), (2, .int (nI L)), (3, .int (nI l)), (4, .int (nI N)), (5, .int (nI G)), (6, .long (th_L a))] rfl rfl ?_
      refine wp_ldi rfl tm_m0 ?_
      refine wq_cals [.int (nI (tu_o n L l N G))] rfl rfl rfl rfl rfl rfl (th_bitCount (nI (tu_o n L l N G)) (Q := th_is (.int (nI (th_pc (tu_o n L l N G)))) s) ⟨by rw [th_tkb (by omega)], rfl⟩) ?_
      rintro _ _ ⟨rfl, rfl⟩
      refine wq_sti [(9, .int (nI (th_pc (tu_o n L l N G)))), (8, .int (nI (tu_o n L l N G))), (0, .ref 4), (1, .int (nI n)), (2, .int (nI L)), (3, .int (nI l)), (4, .int (nI N)), (5, .int (nI G)), (6, .long (th_L a))] rfl rfl ?_
      exact WP.less (k58 _ _ U s rfl lt2 F hU hV) (by simp)
    show WP (k + 1 + 3) 71 0 [(0, .ref 4), (1, .int (nI n)), (2, .int (nI L)), (3, .int (nI l)), (4, .int (nI N)), (5, .int (nI G)), (6, .long (th_L a))] [] s _
    refine wp_ldi rfl tm_m2 ?_
    refine wp_ldi rfl tm_m1 ?_
    refine wq_iclt rfl (fun h2 => ?_) (fun h2 => absurd (nI_lt (by omega) (by omega)) h2)
    refine wp_ldi rfl tm_m4 ?_
    refine wp_ldi rfl tm_m5 ?_
    refine wp_ldi rfl tm_m3 ?_
    refine wp_ldi rfl tm_m1 ?_
    refine wq_cals [.int (nI G), .int (nI l), .int (nI n)] rfl rfl rfl rfl rfl rfl (th_trnd (by omega) hG hl) ?_
    rintro _ _ ⟨rfl, rfl⟩
    refine wq_iand rfl ?_
    rw [th_and24 (by omega) (by omega)]
    refine wq_sti [(8, .int (nI (N &&& th_R n G l))), (0, .ref 4), (1, .int (nI n)), (2, .int (nI L)), (3, .int (nI l)), (4, .int (nI N)), (5, .int (nI G)), (6, .long (th_L a))] rfl rfl ?_
    refine wp_ldi rfl tm_m0 ?_
    refine wp_ldi rfl tm_m3 ?_
    refine wp_ldi rfl tm_m2 ?_
    refine wq_con (x := 1) rfl (by decide) ?_
    refine wq_isub rfl ?_
    rw [show (1 : Int32) = nI 1 from rfl, th_subN (by omega) (by omega)]
    refine wq_icne rfl (fun h30 => ?_) (fun h30 => ?_)
    · refine wq_con (x := 1) rfl (by decide) ?_
      refine wp_ldi rfl tm_m2 ?_
      refine wq_con (x := 2) rfl (by decide) ?_
      refine wp_div rfl (by decide) ?_
      rw [th_hf (by omega)]
      refine wq_ishl rfl ?_
      rw [th_1p _ (by omega)]
      refine wq_con (x := (-1)) rfl (by decide) ?_
      refine wq_ixor rfl ?_
      refine wq_iand rfl ?_
      rw [tu_not (by omega) (tu_p12 _ (by omega)), show (N &&& th_R n G l) &&& (4095 ^^^ 2 ^ (n / 2)) = tu_o n L l N G by rw [em]; unfold tu_M; rw [show Nat.beq L (Nat.sub n 1) = false from Bool.eq_false_iff.mpr (fun q => h30 (by rw [show L = n - 1 from Nat.eq_of_beq_eq_true q]))]; rfl]
      exact WP.less k49 (by simp)
    · refine wq_con (x := 1) rfl (by decide) ?_
      refine wp_ldi rfl tm_m2 ?_
      refine wq_con (x := 2) rfl (by decide) ?_
      refine wp_div rfl (by decide) ?_
      rw [th_hf (by omega)]
      refine wq_ishl rfl ?_
      rw [th_1p _ (by omega)]
      refine wp_go rfl ?_
      refine wq_iand rfl ?_
      have hL1 : L = n - 1 := (nI_eq (by omega) (by omega)).mp (Classical.not_not.mp h30)
      rw [th_and24 (by omega) (by have := tu_p12 (n / 2) (by omega); omega), show (N &&& th_R n G l) &&& 2 ^ (n / 2) = tu_o n L l N G by rw [em]; unfold tu_M; rw [show Nat.beq L (Nat.sub n 1) = true from by rw [hL1]; exact Nat.beq_refl _]; rfl]
      exact WP.less k49 (by simp)
/-- what is listed stands in its place, and no more is used -/
def tu_FC (s : tm_S) : Prop := (∀ m : Nat, m ≤ 12 → ¬ s.1 27 m = 0 → ∃ u : Nat, s.1 25 m = nI u ∧ s.1 26 m = nI (u + tu_K m) ∧ u + tu_K m ≤ 4174) ∧ s.1 4 4 = nI (tg_S (fun m => if s.1 27 m = 0 then 0 else tu_K m) 13)
theorem tu_FCu {σ s : tm_S} (h : tu_FC σ) (e1 : s.1 25 = σ.1 25) (e2 : s.1 26 = σ.1 26) (e3 : s.1 27 = σ.1 27) (e4 : s.1 4 4 = σ.1 4 4) : tu_FC s := by
  unfold tu_FC
  rw [e1, e2, e3, e4]
  exact h
theorem tu_FCn {n : Nat} {s : tm_S} (hn : n ≤ 12) (h0 : s.1 27 n = 0) : tg_S (fun m => if s.1 27 m = 0 then 0 else tu_K m) 13 + tu_K n ≤ 4174 := by
  have h1 := tu_S1 (f := fun m => if s.1 27 m = 0 then 0 else tu_K m) (k := tu_K) (n := n) (if_pos h0) 13 (fun i _ => by split <;> omega) (by omega)
  rw [tu_S3] at h1
  exact h1
/-- n is listed -/
theorem tu_FCs {n U : Nat} {s t : tm_S} (h : tu_FC s) (hn : n ≤ 12) (h0 : s.1 27 n = 0) (eU : U = tg_S (fun m => if s.1 27 m = 0 then 0 else tu_K m) 13) (a1 : ¬ t.1 27 n = 0) (a2 : ∀ i : Nat, ¬ i = n → t.1 27 i = s.1 27 i) (b1 : t.1 25 n = nI U) (b2 : ∀ i : Nat, ¬ i = n → t.1 25 i = s.1 25 i) (c1 : t.1 26 n = nI (U + tu_K n)) (c2 : ∀ i : Nat, ¬ i = n → t.1 26 i = s.1 26 i) (d : t.1 4 4 = nI (U + tu_K n)) : tu_FC t := by
  have hb := tu_FCn (s := s) hn h0
  refine ⟨fun m hm h1 => ?_, ?_⟩
  · by_cases e : m = n
    · subst e
      exact ⟨U, b1, c1, by omega⟩
    · rw [a2 m e] at h1
      rw [b2 m e, c2 m e]
      exact h.1 m hm h1
  · rw [d, tu_S2 (f := fun m => if s.1 27 m = 0 then 0 else tu_K m) (g := fun m => if t.1 27 m = 0 then 0 else tu_K m) (n := n) (v := tu_K n) (if_pos h0) (if_neg a1) (fun i hi => by rw [a2 i hi]) 13 (by omega), eU]
set_option maxRecDepth 100000 in
set_option maxHeartbeats 4000000 in
theorem tu_list {n : Nat} {σ s : tm_S} (hn : n ≤ 12) (h3 : 3 ≤ n) (F : th_FR n [(4, 4), (24, 64), (25, 64), (26, 64), (27, 64)] σ s) (hC : tu_FC s) : WM 20 70 [.ref 4, .int (nI n)] s (fun q s' => q = none ∧ (th_FR n [(4, 4), (24, 64), (25, 64), (26, 64), (27, 64)] σ s' ∧ ¬ s'.1 27 n = 0 ∧ (¬ s.1 27 n = 0 → s' = s)) ∧ tu_FC s') := by
  have cn : (nI n).toNatClampNeg = n := nI_clamp (by omega)
  obtain ⟨U, eU⟩ : ∃ U : Nat, U = tg_S (fun m => if s.1 27 m = 0 then 0 else tu_K m) 13 := ⟨_, rfl⟩
  have hU : s.1 4 4 = nI U := by rw [eU]; exact hC.2
  have k49 : ∀ t : tm_S, s.1 27 n = 0 → th_FR n [(4, 4), (24, 64), (25, 64), (26, 64), (27, 64)] σ t → ¬ t.1 27 n = 0 → (∀ i : Nat, ¬ i = n → t.1 27 i = s.1 27 i) → t.1 25 n = nI U → (∀ i : Nat, ¬ i = n → t.1 25 i = s.1 25 i) → t.1 26 = s.1 26 → t.1 4 4 = nI (U + tu_K n) → WP 20 70 49 [(0, .ref 4), (1, .int (nI n))] [] t (fun q s' => q = none ∧ (th_FR n [(4, 4), (24, 64), (25, 64), (26, 64), (27, 64)] σ s' ∧ ¬ s'.1 27 n = 0 ∧ (¬ s.1 27 n = 0 → s' = s)) ∧ tu_FC s') := by
    intro t hs0 Ft ht a2 b1 b2 c2 d1
    have hb := tu_FCn (s := s) hn hs0
    rw [← eU] at hb
    have eV : (nI (U + tu_K n)).toInt = (U + tu_K n : Nat) := nI_toInt (by omega)
    refine wp_lda rfl tm_m0 ?_
    refine wq_getr (p := 26) rfl rfl (f := 2) rfl rfl ?_
    refine wp_ldi rfl tm_m1 ?_
    refine wp_lda rfl tm_m0 ?_
    refine wq_geti rfl rfl (f := 4) rfl rfl (Or.inl rfl) ?_
    rw [d1]
    refine wp_iast rfl rfl (nI_in (by omega) (by decide)) ?_
    rw [cn]
    refine wp_retv rfl ⟨rfl, ⟨⟨tv_TY_row Ft.1 (ty := (0, 4174)) (fun _ => rfl) (by rw [eV]; show (0 : Int) ≤ _; omega) (by rw [eV]; show _ ≤ (4174 : Int); omega), tv_un_tr Ft.2.1 (tv_un_ar rfl rfl), Ft.2.2⟩, by rw [tm_gI, if_neg (fun z => absurd z.1 (by decide))]; exact ht, fun e => absurd hs0 e⟩, tu_FCs hC hn hs0 eU ?_ ?_ ?_ ?_ ?_ ?_ ?_⟩
    · rw [tm_gI, if_neg (fun z => absurd z.1 (by decide))]; exact ht
    · intro i hi; rw [tm_gI, if_neg (fun z => absurd z.1 (by decide))]; exact a2 i hi
    · rw [tm_gI, if_neg (fun z => absurd z.1 (by decide))]; exact b1
    · intro i hi; rw [tm_gI, if_neg (fun z => absurd z.1 (by decide))]; exact b2 i hi
    · rw [tm_gI, if_pos ⟨rfl, rfl⟩]
    · intro i hi; rw [tm_gI, if_neg (fun z => hi z.2), c2]
    · rw [tm_gI, if_neg (fun z => absurd z.1 (by decide))]; exact d1
  show WP 20 70 0 [(0, .ref 4), (1, .int (nI n))] [] s _
  refine wp_lda rfl tm_m0 ?_
  refine wq_getr (p := 27) rfl rfl (f := 3) rfl rfl ?_
  refine wp_ldi rfl tm_m1 ?_
  refine wp_zald rfl rfl (nI_in (by omega) (by decide)) ?_
  rw [cn]
  refine wq_ifeq rfl (fun h6 => ?_) (fun h6 => ?_)
  · have hs0 : s.1 27 n = 0 := h6
    have hp : 2 ^ n ≤ 4096 := Nat.pow_le_pow_right (n := 2) (by decide) hn
    have hpp : 2 ≤ 2 ^ n := by have h9 : 2 ^ 1 ≤ 2 ^ n := Nat.pow_le_pow_right (by decide) (by omega); omega
    have hp2 := th_all2 n hn (by omega)
    have hb := tu_FCn (s := s) hn hs0
    rw [← eU] at hb
    have eU1 : (nI U).toInt = U := nI_toInt (by omega)
    refine wp_lda rfl tm_m0 ?_
    refine wq_getr (p := 27) rfl rfl (f := 3) rfl rfl ?_
    refine wp_ldi rfl tm_m1 ?_
    refine wq_con (x := 1) rfl (by decide) ?_
    refine wp_zast rfl rfl (nI_in (by omega) (by decide)) (Or.inr rfl) ?_
    rw [cn]
    refine wp_lda rfl tm_m0 ?_
    refine wq_getr (p := 25) rfl rfl (f := 1) rfl rfl ?_
    refine wp_ldi rfl tm_m1 ?_
    refine wp_lda rfl tm_m0 ?_
    refine wq_geti rfl rfl (f := 4) rfl rfl (Or.inl rfl) ?_
    rw [tm_gI, if_neg (fun z => absurd z.1 (by decide)), hU]
    refine wp_iast rfl rfl (nI_in (by omega) (by decide)) ?_
    rw [cn]
    have F2 : th_FR n [(4, 4), (24, 64), (25, 64), (26, 64), (27, 64)] σ (tm_sI (tm_sI s 27 n 1) 25 n (nI U)) := ⟨tv_TY_row (tv_TY_row F.1 (ty := (0, 1)) (fun _ => rfl) (by decide) (by decide)) (ty := (0, 4174)) (fun _ => rfl) (by rw [eU1]; show (0 : Int) ≤ _; omega) (by rw [eU1]; show _ ≤ (4174 : Int); omega), tv_un_tr (tv_un_tr F.2.1 (tv_un_ar rfl rfl)) (tv_un_ar rfl rfl), F.2.2⟩
    have g27 : ¬ (tm_sI (tm_sI s 27 n 1) 25 n (nI U)).1 27 n = 0 := by rw [tm_gI, if_neg (fun z => absurd z.1 (by decide)), tm_gI, if_pos ⟨rfl, rfl⟩]; decide
    have a2 : ∀ i : Nat, ¬ i = n → (tm_sI (tm_sI s 27 n 1) 25 n (nI U)).1 27 i = s.1 27 i := fun i hi => by rw [tm_gI, if_neg (fun z => absurd z.1 (by decide)), tm_gI, if_neg (fun z => hi z.2)]
    have b1 : (tm_sI (tm_sI s 27 n 1) 25 n (nI U)).1 25 n = nI U := by rw [tm_gI, if_pos ⟨rfl, rfl⟩]
    have b2 : ∀ i : Nat, ¬ i = n → (tm_sI (tm_sI s 27 n 1) 25 n (nI U)).1 25 i = s.1 25 i := fun i hi => by rw [tm_gI, if_neg (fun z => hi z.2), tm_gI, if_neg (fun z => absurd z.1 (by decide))]
    have c2 : (tm_sI (tm_sI s 27 n 1) 25 n (nI U)).1 26 = s.1 26 := rfl
    have d1 : (tm_sI (tm_sI s 27 n 1) 25 n (nI U)).1 4 4 = nI U := by rw [tm_gI, if_neg (fun z => absurd z.1 (by decide)), tm_gI, if_neg (fun z => absurd z.1 (by decide))]; exact hU
    generalize tm_sI (tm_sI s 27 n 1) 25 n (nI U) = t at F2 g27 a2 b1 b2 c2 d1 ⊢
    refine wp_ldi rfl tm_m1 ?_
    refine wq_con (x := nI 2) rfl (by decide) ?_
    refine wp_rem rfl (by decide) ?_
    rw [th_remN (by omega) (by decide) (by decide)]
    refine wq_ifne rfl (fun h30 => ?_) (fun h30 => ?_)
    · have hK := tu_odd h3 hn (fun e => h30 ?_)
      · exact WP.less (k49 t hs0 F2 g27 a2 b1 b2 c2 (by rw [hK]; exact d1)) (by simp)
      · rw [e]
        rfl
    · have hev : n % 2 = 0 := (nI_eq (a := n % 2) (b := 0) (by omega) (by decide)).mp (Classical.not_not.mp h30)
      refine wq_con (x := 1) rfl (by decide) ?_
      refine wp_ldi rfl tm_m1 ?_
      refine wq_ishl rfl ?_
      refine wq_con (x := 2) rfl (by decide) ?_
      refine wq_isub rfl ?_
      rw [hp2]
      refine wq_sti [(2, .int (nI (2 ^ n - 2))), (0, .ref 4), (1, .int (nI n))] rfl rfl ?_
      refine wp_lda rfl tm_m1 ?_
      refine wp_ldi rfl tm_m2 ?_
      refine wq_con (x := nI 1) rfl (by decide) ?_
      refine wq_con (x := nI 0) rfl (by decide) ?_
      refine wp_ldi rfl tm_m0 ?_
      refine wp_ldi rfl tm_m0 ?_
      refine wq_lco (x := 0) rfl (by decide) ?_
      refine wq_calv [.int (nI n), .int (nI 1), .int (nI 0), .int (nI (2 ^ n - 2)), .int (nI (2 ^ n - 2)), .long 0] rfl rfl rfl rfl rfl rfl rfl rfl rfl (WM.deep (tu_len hn h3 (σ := t) (n - 1) 1 0 (2 ^ n - 2) (2 ^ n - 2) 0 U (U + tu_K n) t (by omega) (by omega) (by omega) (by omega) ⟨by decide, (th_di0 (by decide)).2⟩ ⟨F2.1, tv_un_rf, F2.2.2⟩ d1 (by rw [tu_x h3 hn hev]) (by omega)) (by omega)) ?_
      rintro _ t2 ⟨rfl, F3, U3⟩
      exact WP.less (k49 t2 hs0 ⟨F3.1, tv_un_tr F2.2.1 (tv_un_mo F3.2.1 (by decide)), F3.2.2⟩ (by rw [(tv_un_a F3.2.1 (k := 27) rfl rfl).1]; exact g27) (by rw [(tv_un_a F3.2.1 (k := 27) rfl rfl).1]; exact a2) (by rw [(tv_un_a F3.2.1 (k := 25) rfl rfl).1]; exact b1) (by rw [(tv_un_a F3.2.1 (k := 25) rfl rfl).1]; exact b2) (by rw [(tv_un_a F3.2.1 (k := 26) rfl rfl).1]; exact c2) U3) (by simp)
  · exact wp_retv rfl ⟨rfl, ⟨F, h6, fun _ => rfl⟩, hC⟩
set_option maxRecDepth 100000 in
set_option maxHeartbeats 4000000 in
theorem tu_cnt {n : Nat} {σ s : tm_S} (hn : n ≤ 12) (h3 : 3 ≤ n) (F : th_FR n [(4, 4), (24, 64), (25, 64), (26, 64), (27, 64)] σ s) (hC : tu_FC s) : WM 21 69 [.ref 4, .int (nI n)] s (fun q s' => q = some (.int (nI (tu_K n))) ∧ th_FR n [(4, 4), (24, 64), (25, 64), (26, 64), (27, 64)] σ s' ∧ ¬ s'.1 27 n = 0 ∧ s'.1 26 n - s'.1 25 n = nI (tu_K n) ∧ tu_FC s') := by
  have cn : (nI n).toNatClampNeg = n := nI_clamp (by omega)
  show WP 21 69 0 [(0, .ref 4), (1, .int (nI n))] [] s _
  refine wp_lda rfl tm_m0 ?_
  refine wp_ldi rfl tm_m1 ?_
  refine wq_calv [.int (nI n)] rfl rfl rfl rfl rfl rfl rfl rfl rfl (tu_list hn h3 F hC) ?_
  rintro _ t ⟨rfl, ⟨Ft, gt, et⟩, Ct⟩
  obtain ⟨u, u1, u2, u3⟩ := Ct.1 n hn gt
  have ed : t.1 26 n - t.1 25 n = nI (tu_K n) := by rw [u1, u2, th_subN (by omega) (by omega), show u + tu_K n - u = tu_K n by omega]
  refine wp_lda rfl tm_m0 ?_
  refine wq_getr (p := 26) rfl rfl (f := 2) rfl rfl ?_
  refine wp_ldi rfl tm_m1 ?_
  refine wp_iald rfl rfl (nI_in (by omega) (by decide)) ?_
  rw [cn]
  refine wp_lda rfl tm_m0 ?_
  refine wq_getr (p := 25) rfl rfl (f := 1) rfl rfl ?_
  refine wp_ldi rfl tm_m1 ?_
  refine wp_iald rfl rfl (nI_in (by omega) (by decide)) ?_
  rw [cn]
  refine wq_isub rfl ?_
  rw [ed]
  exact wp_reti rfl (th_nI rfl) ⟨rfl, Ft, gt, ed, Ct⟩
set_option maxRecDepth 100000 in
set_option maxHeartbeats 4000000 in
theorem tu_ffind {n : Nat} {r : Int64} {σ s : tm_S} (hn : n ≤ 12) (h3 : 3 ≤ n) (F : th_FR n [(4, 4), (24, 64), (25, 64), (26, 64), (27, 64)] σ s) (hC : tu_FC s) : WM 21 76 [.ref 4, .int (nI n), .long r] s (fun q s' => (∃ z : Int32, q = some (.int z)) ∧ th_FR n [(4, 4), (24, 64), (25, 64), (26, 64), (27, 64)] σ s' ∧ tu_FC s') := by
  have cn : (nI n).toNatClampNeg = n := nI_clamp (by omega)
  have k13 : ∀ (m : Nat) (i : Int32) (t : tm_S), th_FR n [(4, 4), (24, 64), (25, 64), (26, 64), (27, 64)] σ t → tu_FC t → 0 ≤ i.toInt → 4174 ≤ i.toInt + m → WP 21 76 13 [(4, .int i), (0, .ref 4), (1, .int (nI n)), (2, .long r)] [] t (fun q s' => (∃ z : Int32, q = some (.int z)) ∧ th_FR n [(4, 4), (24, 64), (25, 64), (26, 64), (27, 64)] σ s' ∧ tu_FC s') := by
    intro m
    induction m with
    | zero =>
      intro i t Ft Ct hi0 hi
      have ge : 0 ≤ (t.1 26 n).toInt ∧ (t.1 26 n).toInt ≤ 4174 := Ft.1.1 26 n
      refine wp_ldi rfl tm_m0 ?_
      refine wp_lda rfl tm_m1 ?_
      refine wq_getr (p := 26) rfl rfl (f := 2) rfl rfl ?_
      refine wp_ldi rfl tm_m2 ?_
      refine wp_iald rfl rfl (nI_in (by omega) (by decide)) ?_
      rw [cn]
      refine wq_icge rfl (fun h21 => ?_) (fun h21 => absurd (tn_leI.mpr (by omega)) h21)
      have g21 : (t.1 26 n).toInt ≤ (i).toInt := tn_leI.mp h21
      refine wq_con (x := (-1)) rfl (by decide) ?_
      exact wp_reti rfl (th_nI rfl) ⟨⟨_, rfl⟩, Ft, Ct⟩
    | succ m ih =>
      intro i t Ft Ct hi0 hi
      have ge : 0 ≤ (t.1 26 n).toInt ∧ (t.1 26 n).toInt ≤ 4174 := Ft.1.1 26 n
      refine wp_ldi rfl tm_m0 ?_
      refine wp_lda rfl tm_m1 ?_
      refine wq_getr (p := 26) rfl rfl (f := 2) rfl rfl ?_
      refine wp_ldi rfl tm_m2 ?_
      refine wp_iald rfl rfl (nI_in (by omega) (by decide)) ?_
      rw [cn]
      refine wq_icge rfl (fun h21 => ?_) (fun h21 => ?_)
      · have g21 : (t.1 26 n).toInt ≤ (i).toInt := tn_leI.mp h21
        refine wq_con (x := (-1)) rfl (by decide) ?_
        exact wp_reti rfl (th_nI rfl) ⟨⟨_, rfl⟩, Ft, Ct⟩
      · have g21 : ¬ (t.1 26 n).toInt ≤ (i).toInt := fun g => h21 (tn_leI.mpr g)
        refine wp_lda rfl tm_m1 ?_
        refine wq_getr (p := 24) rfl rfl (f := 0) rfl rfl ?_
        refine wp_ldi rfl tm_m0 ?_
        refine wp_lald rfl rfl (tn_in hi0 (by show _ < (4174 : Int); omega)) ?_
        refine wp_ldl rfl tm_m3 ?_
        refine wp_cmp rfl ?_
        refine wq_ifne rfl (fun h33 => ?_) (fun h33 => ?_)
        · refine wq_inc (c := 1) [(4, .int (i + 1)), (0, .ref 4), (1, .int (nI n)), (2, .long r)] rfl tm_m0 rfl rfl ?_
          refine wp_go rfl ?_
          have e1 := tn_add1 (x := i) (by omega)
          exact WP.less (ih (i + 1) t Ft Ct (by omega) (by omega)) (by simp)
        · have g33 : (lg_cmp (t.2.1 24 i.toNatClampNeg) r).toInt = 0 := congrArg Int32.toInt (Classical.not_not.mp h33)
          refine wp_ldi rfl tm_m0 ?_
          refine wp_lda rfl tm_m1 ?_
          refine wq_getr (p := 25) rfl rfl (f := 1) rfl rfl ?_
          refine wp_ldi rfl tm_m2 ?_
          refine wp_iald rfl rfl (nI_in (by omega) (by decide)) ?_
          refine wq_isub rfl ?_
          exact wp_reti rfl (th_nI rfl) ⟨⟨_, rfl⟩, Ft, Ct⟩
  show WP 21 76 0 [(0, .ref 4), (1, .int (nI n)), (2, .long r)] [] s _
  refine wp_lda rfl tm_m0 ?_
  refine wp_ldi rfl tm_m1 ?_
  refine wq_calv [.int (nI n)] rfl rfl rfl rfl rfl rfl rfl rfl rfl (tu_list hn h3 F hC) ?_
  rintro _ t ⟨rfl, ⟨Ft, gt, et⟩, Ct⟩
  refine wp_lda rfl tm_m0 ?_
  refine wq_getr (p := 25) rfl rfl (f := 1) rfl rfl ?_
  refine wp_ldi rfl tm_m1 ?_
  refine wp_iald rfl rfl (nI_in (by omega) (by decide)) ?_
  rw [cn]
  refine wq_sti [(4, .int (t.1 25 n)), (0, .ref 4), (1, .int (nI n)), (2, .long r)] rfl rfl ?_
  have gs : 0 ≤ (t.1 25 n).toInt := (Ft.1.1 25 n).1
  exact WP.less (k13 4174 _ t Ft Ct gs (by omega)) (by simp)
set_option maxRecDepth 100000 in
set_option maxHeartbeats 4000000 in
theorem tu_xrank {n : Nat} {s : Int32} {σ : tm_S} (hn : n ≤ 12) (h3 : 3 ≤ n) (hT : tv_TY (tc_T (n : Int)) σ) (h : th_SL n σ) (hC : tu_FC σ) : WM 22 75 [.ref 0, .int s] σ (fun q s' => (∃ z : Int32, q = some (.int z)) ∧ th_FR n [(4, 4), (24, 64), (25, 64), (26, 64), (27, 64)] σ s' ∧ tu_FC s') := by
  have hN0 := th_N0 hT hn
  show WP 22 75 0 [(0, .ref 0), (1, .int s)] [] σ _
  refine wp_lda rfl tm_m0 ?_
  refine wp_ldi rfl tm_m1 ?_
  refine wq_calv [.int s] rfl rfl rfl rfl rfl rfl rfl rfl rfl (th_hasr) ?_
  rintro r2 _ ⟨hr2, rfl⟩
  obtain ⟨z2, rfl, hz2⟩ : ∃ z : Int32, r2 = some (.int z) ∧ (¬ z = 0 → 0 ≤ s.toInt ∧ s.toInt < 6) := by
    rcases hr2 with ⟨rfl, g1, g2, -⟩ | rfl
    · exact ⟨_, rfl, fun _ => ⟨g1, g2⟩⟩
    · exact ⟨_, rfl, fun e => absurd rfl e⟩
  refine wq_ifeq rfl (fun h5 => ?_) (fun h5 => ?_)
  · refine wq_con (x := (-1)) rfl (by decide) ?_
    exact wp_reti rfl (th_nI rfl) ⟨⟨_, rfl⟩, ⟨hT, tv_un_rf, h.2.1⟩, hC⟩
  · refine wp_lda rfl tm_m0 ?_
    refine wq_getr (p := 4) rfl rfl (f := 3) rfl rfl ?_
    refine wp_lda rfl tm_m0 ?_
    refine wq_getr (p := 1) rfl rfl (f := 0) rfl rfl ?_
    refine wq_calv [] rfl rfl rfl rfl rfl rfl rfl rfl rfl (th_size) ?_
    rintro _ _ ⟨rfl, rfl⟩
    rw [hN0]
    refine wp_lda rfl tm_m0 ?_
    refine wq_getr (p := 12) rfl rfl (f := 5) rfl rfl ?_
    refine wp_ldi rfl tm_m1 ?_
    refine wp_lald rfl rfl (tn_in (hz2 h5).1 (hz2 h5).2) ?_
    refine wq_calv [.int (nI n), .long (σ.2.1 12 s.toNatClampNeg)] rfl rfl rfl rfl rfl rfl rfl rfl rfl (tu_ffind hn h3 ⟨hT, tv_un_rf, h.2.1⟩ hC) ?_
    rintro _ t ⟨⟨z25, rfl⟩, Ft, Ct⟩
    refine wp_go rfl ?_
    exact wp_reti rfl (th_nI rfl) ⟨⟨_, rfl⟩, Ft, Ct⟩
/-- what the reference has listed, it has counted right -/
def tu_RF (n : Nat) (s : tm_S) : Prop := s.1 11 11 = nI n → s.1 11 12 = nI (tu_K n)
def th_I3 (n : Nat) (σ : tm_S) : Prop := th_IV n σ ∧ tu_FC σ ∧ tu_RF n σ
def th_WC : List (Nat × Nat) := [(4, 4), (25, 64), (26, 64), (27, 64)]
def th_WR : List (Nat × Nat) := [(11, 11), (11, 12)]
theorem tu_gm {W w : List (Nat × Nat)} {a b : Nat} (hg : W.all (fun q => !(tv_mem w q.1 q.2)) = true) (hm : (a, b) ∈ W) : tv_mem w a b = false := by
  have h := List.all_eq_true.mp hg (a, b) hm
  simpa using h
theorem tu_FCk {σ s : tm_S} {w : List (Nat × Nat)} (h : tu_FC σ) (hu : tv_un σ s w) (hg : th_WC.all (fun q => !(tv_mem w q.1 q.2)) = true) : tu_FC s :=
  tu_FCu h (tv_un_a hu (k := 25) rfl (tu_gm hg (by decide))).1 (tv_un_a hu (k := 26) rfl (tu_gm hg (by decide))).1 (tv_un_a hu (k := 27) rfl (tu_gm hg (by decide))).1 (tv_un_i hu rfl (tu_gm hg (by decide)))
theorem tu_RFk {n : Nat} {σ s : tm_S} {w : List (Nat × Nat)} (h : tu_RF n σ) (hu : tv_un σ s w) (hg : th_WR.all (fun q => !(tv_mem w q.1 q.2)) = true) : tu_RF n s := by
  intro e
  rw [tv_un_i hu (k := 11) (j := 12) rfl (tu_gm hg (by decide))]
  rw [tv_un_i hu (k := 11) (j := 11) rfl (tu_gm hg (by decide))] at e
  exact h e
theorem th_I30 {n : Nat} {σ : tm_S} (h : th_I3 n σ) : th_I3 n (tm_sI σ 11 0 0) := by
  have hu : tv_un σ (tm_sI σ 11 0 0) [(11, 0)] := tv_un_fI rfl
  exact ⟨th_IV0 h.1, tu_FCk h.2.1 hu (by decide), tu_RFk h.2.2 hu (by decide)⟩
def tp_full (n : Nat) (z : Int32) : Prop := z = nI (tu_K n)
theorem tp_full_u {n : Nat} {z w : Int32} (h : tp_full n z) (k : tp_full n w) : z = w := h.trans k.symm
def tp_pok (n : Nat) (s k : Int32) : Prop := (0 ≤ s.toInt ∧ s.toInt < 6) ∧ 0 ≤ k.toInt ∧ k.toInt < (tu_K n : Nat)
def tp_pick (n : Nat) (s k z : Int32) : Prop := (z = 1 ∧ tp_pok n s k) ∨ (z = 0 ∧ ¬ tp_pok n s k)
theorem tp_pick_u {n : Nat} {s k z w : Int32} (h : tp_pick n s k z) (g : tp_pick n s k w) : z = w := by
  rcases h with ⟨h1, h2⟩ | ⟨h1, h2⟩ <;> rcases g with ⟨g1, g2⟩ | ⟨g1, g2⟩
  · rw [h1, g1]
  · exact absurd h2 g2
  · exact absurd g2 h2
  · rw [h1, g1]
theorem tu_F0 {n : Nat} {σ : tm_S} (h : th_IV n σ) : th_FR n [(4, 4), (24, 64), (25, 64), (26, 64), (27, 64)] σ σ := ⟨h.2.2.1, tv_un_rf, h.2.2.2.2.1⟩
theorem tu_I3 {n : Nat} {σ t : tm_S} (h : th_I3 n σ) (F : th_FR n [(4, 4), (24, 64), (25, 64), (26, 64), (27, 64)] σ t) (hC : tu_FC t) : th_I3 n t := ⟨⟨h.1.1, h.1.2.1, F.1, th_SLf h.1.2.2.1 h.1.2.2.2 F⟩, hC, tu_RFk h.2.2 F.2.1 (by decide)⟩
set_option maxRecDepth 100000 in
set_option maxHeartbeats 4000000 in
theorem tf3_x_full {n : Nat} {σ : tm_S} (h : th_I3 n σ) : WM 90 68 [.ref 0] σ (fun r σ' => ∃ z : Int32, r = some (.int z) ∧ tp_full n z ∧ th_I3 n σ') := by
  have ⟨⟨h3, hn, hT, hS⟩, hC, hR⟩ := h
  have hN0 := th_N0 hT hn
  show WP 90 68 0 [(0, .ref 0)] [] σ _
  refine wp_lda rfl tm_m0 ?_
  refine wq_getr (p := 4) rfl rfl (f := 3) rfl rfl ?_
  refine wp_lda rfl tm_m0 ?_
  refine wq_getr (p := 1) rfl rfl (f := 0) rfl rfl ?_
  refine wq_calv [] rfl rfl rfl rfl rfl rfl rfl rfl rfl (th_size) ?_
  rintro _ _ ⟨rfl, rfl⟩
  rw [hN0]
  refine wq_calv [.int (nI n)] rfl rfl rfl rfl rfl rfl rfl rfl rfl (WM.deep (tu_cnt hn h3 (tu_F0 h.1) hC) (by decide)) ?_
  rintro _ t ⟨rfl, Ft, gt, ed, Ct⟩
  exact wp_reti rfl (th_nI rfl) ⟨_, rfl, rfl, tu_I3 h Ft Ct⟩
set_option maxRecDepth 100000 in
set_option maxHeartbeats 4000000 in
theorem tf3_x_pick {n : Nat} {s k : Int32} {σ : tm_S} (h : th_I3 n σ) : WM 90 73 [.ref 0, .int s, .int k] σ (fun r σ' => ∃ z : Int32, r = some (.int z) ∧ tp_pick n s k z ∧ th_I3 n σ') := by
  have ⟨⟨h3, hn, hT, hS⟩, hC, hR⟩ := h
  have hN0 := th_N0 hT hn
  have hb := tu_Kb hn
  have eK : (nI (tu_K n)).toInt = (tu_K n : Nat) := nI_toInt (by omega)
  show WP 90 73 0 [(0, .ref 0), (1, .int s), (2, .int k)] [] σ _
  refine wp_lda rfl tm_m0 ?_
  refine wq_getr (p := 1) rfl rfl (f := 0) rfl rfl ?_
  refine wq_calv [] rfl rfl rfl rfl rfl rfl rfl rfl rfl (th_size) ?_
  rintro _ _ ⟨rfl, rfl⟩
  rw [hN0]
  refine wq_sti [(3, .int (nI n)), (0, .ref 0), (1, .int s), (2, .int k)] rfl rfl ?_
  refine wp_ldi rfl tm_m2 ?_
  refine wq_cals [.int s] rfl rfl rfl rfl rfl rfl (th_isl2) ?_
  rintro r9 _ ⟨hr9, rfl⟩
  obtain ⟨z9, rfl, hz9, hn9⟩ : ∃ z : Int32, r9 = some (.int z) ∧ (¬ z = 0 → (0 ≤ s.toInt ∧ s.toInt < 6)) ∧ (z = 0 → ¬ (0 ≤ s.toInt ∧ s.toInt < 6)) := by
    rcases hr9 with ⟨rfl, g⟩ | ⟨rfl, g⟩
    · exact ⟨_, rfl, fun _ => g, fun e => absurd e (by decide)⟩
    · exact ⟨_, rfl, fun e => absurd rfl e, fun _ => g⟩
  refine wq_ifeq rfl (fun h12 => ?_) (fun h12 => ?_)
  · have g12 : (z9).toInt = 0 := congrArg Int32.toInt h12
    refine wq_con (x := 0) rfl (by decide) ?_
    refine wp_reti rfl (th_n0 rfl) ⟨_, rfl, Or.inr ⟨rfl, fun hk => ?_⟩, h⟩
    have hk2 := hk.2.1
    first | exact hn9 h12 hk.1 | (change k.toInt < (0 : Int) at g16; omega)
  · refine wp_ldi rfl tm_m3 ?_
    refine wq_iflt rfl (fun h16 => ?_) (fun h16 => ?_)
    · have g16 : (k).toInt < 0 := tn_ltI.mp h16
      refine wq_con (x := 0) rfl (by decide) ?_
      refine wp_reti rfl (th_n0 rfl) ⟨_, rfl, Or.inr ⟨rfl, fun hk => ?_⟩, h⟩
      have hk2 := hk.2.1
      first | exact hn9 h12 hk.1 | (change k.toInt < (0 : Int) at g16; omega)
    · have g16 : ¬ (k).toInt < 0 := fun g => h16 (tn_ltI.mpr g)
      refine wp_ldi rfl tm_m3 ?_
      refine wp_lda rfl tm_m1 ?_
      refine wq_getr (p := 4) rfl rfl (f := 3) rfl rfl ?_
      refine wp_ldi rfl tm_m0 ?_
      refine wq_calv [.int (nI n)] rfl rfl rfl rfl rfl rfl rfl rfl rfl (WM.deep (tu_cnt hn h3 (tu_F0 h.1) hC) (by decide)) ?_
      rintro _ t ⟨rfl, Ft, gt, ed, Ct⟩
      refine wq_iclt rfl (fun h28 => ?_) (fun h28 => ?_)
      · have g28 : (k).toInt < (nI (tu_K n)).toInt := tn_ltI.mp h28
        refine wp_lda rfl tm_m1 ?_
        refine wq_getr (p := 12) rfl rfl (f := 5) rfl rfl ?_
        refine wp_ldi rfl tm_m2 ?_
        refine wp_lda rfl tm_m1 ?_
        refine wq_getr (p := 4) rfl rfl (f := 3) rfl rfl ?_
        refine wp_ldi rfl tm_m0 ?_
        refine wp_ldi rfl tm_m3 ?_
        refine wq_calv [.int (nI n), .int k] rfl rfl rfl rfl rfl rfl rfl rfl rfl (WM.deep (th_fget hn h3 Ft gt (by change ¬ k.toInt < (0 : Int) at g16; omega) (by rw [ed]; exact h28)) (by decide)) ?_
        rintro _ _ ⟨⟨r44, rfl, d44⟩, rfl⟩
        refine wp_last rfl rfl (tn_in (hz9 h12).1 (hz9 h12).2) ?_
        refine wq_con (x := 1) rfl (by decide) ?_
        rw [eK] at g28
        change ¬ k.toInt < (0 : Int) at g16
        exact wp_reti rfl (th_n1 rfl) ⟨_, rfl, Or.inl ⟨rfl, hz9 h12, by omega, g28⟩, ⟨h3, hn, ⟨Ft.1.1, Ft.1.2⟩, th_SLs (th_SLf hT hS Ft) d44⟩, tu_FCu Ct rfl rfl rfl rfl, fun e => (show tu_RF n t from tu_RFk hR Ft.2.1 (by decide)) e⟩
      · have g28 : ¬ (k).toInt < (nI (tu_K n)).toInt := fun g => h28 (tn_ltI.mpr g)
        refine wq_con (x := 0) rfl (by decide) ?_
        rw [eK] at g28
        exact wp_reti rfl (th_n0 rfl) ⟨_, rfl, Or.inr ⟨rfl, fun hk => g28 hk.2.2⟩, tu_I3 h Ft Ct⟩
set_option maxRecDepth 100000 in
set_option maxHeartbeats 4000000 in
theorem tu_fulls {n : Nat} {σ : tm_S} (h3 : 3 ≤ n) (hn : n ≤ 12) (hk : th_ff n (n - 1) 0 1 0 ≤ 4000) (hT : tv_TY (tc_T (n : Int)) σ) (hR : tu_RF n σ) : WM 40 198 [.ref 11] σ (fun r s' => r = none ∧ th_FI n σ s' ∧ s'.1 11 12 = nI (tu_K n)) := by
  have F0 : th_FI n σ σ := ⟨hT, tv_un_rf⟩
  have hN := th_FN F0 hn
  show WP 40 198 0 [(0, .ref 11)] [] σ _
  refine wp_lda rfl tm_m0 ?_
  refine wq_geti rfl rfl (f := 11) rfl rfl (Or.inl rfl) ?_
  refine wp_lda rfl tm_m0 ?_
  refine wq_geti rfl rfl (f := 1) rfl rfl (Or.inl rfl) ?_
  rw [hN]
  refine wq_icne rfl (fun h8 => ?_) (fun h8 => ?_)
  · refine wp_lda rfl tm_m0 ?_
    refine wp_lda rfl tm_m0 ?_
    refine wq_geti rfl rfl (f := 1) rfl rfl (Or.inl rfl) ?_
    rw [hN]
    refine wq_puti rfl rfl (f := 11) rfl rfl ?_
    refine wp_lda rfl tm_m0 ?_
    refine wq_con (x := 0) rfl (by decide) ?_
    refine wq_puti rfl rfl (f := 12) rfl rfl ?_
    refine wq_con (x := 1) rfl (by decide) ?_
    refine wq_sti [(1, .int 1), (0, .ref 11)] rfl rfl ?_
    refine wq_con (x := 1) rfl (by decide) ?_
    refine wq_sti [(2, .int 1), (1, .int 1), (0, .ref 11)] rfl rfl ?_
    refine wq_con (x := 0) rfl (by decide) ?_
    refine wq_sti [(3, .int 0), (2, .int 1), (1, .int 1), (0, .ref 11)] rfl rfl ?_
    refine wp_lda rfl tm_m3 ?_
    refine wq_getr (p := 53) rfl rfl (f := 14) rfl rfl ?_
    refine wq_con (x := 0) rfl (by decide) ?_
    refine wq_con (x := 0) rfl (by decide) ?_
    refine wp_iast rfl rfl (tn_in (by decide) (by decide)) ?_
    refine wp_lda rfl tm_m3 ?_
    refine wq_getr (p := 53) rfl rfl (f := 14) rfl rfl ?_
    refine wq_con (x := 1) rfl (by decide) ?_
    refine wq_con (x := (-1)) rfl (by decide) ?_
    refine wp_iast rfl rfl (tn_in (by decide) (by decide)) ?_
    have F1 : th_FI n σ (tm_sI (tm_sI (tm_sI (tm_sI σ 11 11 (nI n)) 11 12 0) 53 (0 : Int32).toNatClampNeg 0) 53 (1 : Int32).toNatClampNeg (-1)) := th_FI_w (th_FI_w (th_FI_c ⟨tv_TY_sI hT (tn_rng _).1 (tn_rng _).2, tv_un_fI rfl⟩ (by decide) (by decide)) (by decide) (by decide)) (by decide) (by decide)
    have f1 : (tm_sI (tm_sI (tm_sI (tm_sI σ 11 11 (nI n)) 11 12 0) 53 (0 : Int32).toNatClampNeg 0) 53 (1 : Int32).toNatClampNeg (-1)).1 11 12 = 0 := by rw [tm_gI, if_neg (fun e => absurd e.1 (by decide)), tm_gI, if_neg (fun e => absurd e.1 (by decide)), tm_gI, if_pos ⟨rfl, rfl⟩]
    have w1 : (tm_sI (tm_sI (tm_sI (tm_sI σ 11 11 (nI n)) 11 12 0) 53 (0 : Int32).toNatClampNeg 0) 53 (1 : Int32).toNatClampNeg (-1)).1 53 1 = -1 := by rw [tm_gI]; exact if_pos ⟨rfl, by decide⟩
    have w0 : (tm_sI (tm_sI (tm_sI (tm_sI σ 11 11 (nI n)) 11 12 0) 53 (0 : Int32).toNatClampNeg 0) 53 (1 : Int32).toNatClampNeg (-1)).1 53 0 = 0 := by rw [tm_gI, if_neg (fun e => absurd e.2 (by decide)), tm_gI]; exact if_pos ⟨rfl, by decide⟩
    generalize tm_sI (tm_sI (tm_sI (tm_sI σ 11 11 (nI n)) 11 12 0) 53 (0 : Int32).toNatClampNeg 0) 53 (1 : Int32).toNatClampNeg (-1) = σ1 at F1 f1 w1 w0 ⊢
    refine WP.less (th_down (L := 1) (s := 1) (g := 0) (x := 0) (p := 0) h3 hn (by decide) (by omega) F1 w1 ?_) (by simp [nI])
    have h0 : th_r n (th_ff n (n - 2)) 0 1 0 (th_B n 0 1 0) n ≤ 4000 := by rw [← th_ff_s, show n - 2 + 1 = n - 1 by omega]; exact hk
    refine th_ffE h3 hn (n - 2) n 1 0 0 1 0 σ1 (by omega) (by decide) (by omega) (by omega) (Nat.one_lt_two_pow (by omega)) (Nat.two_pow_pos n) F1 w0 (by rw [f1]; show (0 : Int) + _ ≤ _; omega) (fun σ' F' p' c' => ?_)
    refine wp_ldi rfl tm_m0 ?_
    refine wq_ifle rfl (fun h46 => ?_) (fun h46 => absurd (by decide) h46)
    refine wp_retv rfl ⟨rfl, F', Int32.toInt_inj.mp ?_⟩
    have hq : th_r n (th_ff n (n - 2)) 0 1 0 (th_B n 0 1 0) n = tu_K n := by
      rw [← th_ff_s, show n - 2 + 1 = n - 1 by omega]
      exact tu_r h3 hn
    have hb := tu_Kb hn
    rw [c', f1, hq, nI_toInt (by omega)]
    show (0 : Int) + _ = _
    omega
  · exact wp_retv rfl ⟨rfl, F0, hR (Classical.not_not.mp h8)⟩
theorem tu_M3 {n : Nat} {σ t : tm_S} (h : th_I3 n σ) (F : th_FI n σ t) (e : t.1 11 12 = nI (tu_K n)) : th_I3 n t := ⟨⟨h.1.1, h.1.2.1, F.1, th_SLu h.1.2.2.1 h.1.2.2.2 F.2 (by decide)⟩, tu_FCk h.2.1 F.2 (by decide), fun _ => e⟩
set_option maxRecDepth 100000 in
set_option maxHeartbeats 4000000 in
theorem tf3_m_full {n : Nat} {σ : tm_S} (h : th_I3 n σ) : WM 90 197 [.ref 11] σ (fun r σ' => ∃ z : Int32, r = some (.int z) ∧ tp_full n z ∧ th_I3 n σ') := by
  have hI := th_I30 h
  generalize e0 : tm_sI σ 11 0 0 = s0 at hI
  have ⟨⟨h3, hn, hT, hS⟩, hC, hR⟩ := hI
  have hN1 := th_N1 hT hn
  have hb := tu_Kb hn
  have eK : (nI (tu_K n)).toInt = (tu_K n : Nat) := nI_toInt (by omega)
  show WP 90 197 0 [(0, .ref 11)] [] σ _
  refine wp_lda rfl tm_m0 ?_
  refine wq_con (x := 0) rfl (by decide) ?_
  refine wq_puti rfl rfl (f := 0) rfl rfl ?_
  rw [e0]
  refine wp_lda rfl tm_m0 ?_
  refine wq_calv [] rfl rfl rfl rfl rfl rfl rfl rfl rfl (WM.deep (tu_fulls h3 hn (th_cnt h3 hn) hT hR) (by decide)) ?_
  rintro _ t ⟨rfl, Ft, et⟩
  have I2 := tu_M3 hI Ft et
  have N2 := th_N1 Ft.1 hn
  refine wp_lda rfl tm_m0 ?_
  refine wq_geti rfl rfl (f := 12) rfl rfl (Or.inl rfl) ?_
  rw [et]
  exact wp_reti rfl (th_nI rfl) ⟨_, rfl, rfl, I2⟩
set_option maxRecDepth 100000 in
set_option maxHeartbeats 4000000 in
theorem tf3_m_pick {n : Nat} {s k : Int32} {σ : tm_S} (h : th_I3 n σ) : WM 90 199 [.ref 11, .int s, .int k] σ (fun r σ' => ∃ z : Int32, r = some (.int z) ∧ tp_pick n s k z ∧ th_I3 n σ') := by
  have hI := th_I30 h
  generalize e0 : tm_sI σ 11 0 0 = s0 at hI
  have ⟨⟨h3, hn, hT, hS⟩, hC, hR⟩ := hI
  have hN1 := th_N1 hT hn
  have hb := tu_Kb hn
  have eK : (nI (tu_K n)).toInt = (tu_K n : Nat) := nI_toInt (by omega)
  have k35 : ∀ (m i : Nat) (t0 t : tm_S), i + m = n → tp_pok n s k → th_I3 n t0 → tv_TY (tc_T (n : Int)) t → tv_un t0 t [(50, 64), (51, 64)] → WP 90 199 35 [(3, .int (nI i)), (0, .ref 11), (1, .int s), (2, .int k)] [] t (fun r σ' => ∃ z : Int32, r = some (.int z) ∧ tp_pick n s k z ∧ th_I3 n σ') := by
    intro m
    induction m with
    | zero =>
      intro i t0 t hi hs I0 Ft Fu
      obtain rfl : i = n := by omega
      have hs2 := hs.1
      have hk1 := hs.2.1
      have hk2 := hs.2.2
      have N2 := th_N1 Ft hn
      have ei : (nI i).toInt = i := nI_toInt (by omega)
      have e12 : (12 * s).toInt = 12 * s.toInt := by rw [tn_mul (by show (-2147483648 : Int) ≤ 12 * s.toInt; omega) (by show 12 * s.toInt ≤ 2147483647; omega)]; rfl
      have e13 : (12 * s + nI i).toInt = 12 * s.toInt + i := by rw [tn_add (by omega) (by omega), e12, ei]
      refine wp_ldi rfl tm_m0 ?_
      refine wp_lda rfl tm_m1 ?_
      refine wq_geti rfl rfl (f := 1) rfl rfl (Or.inl rfl) ?_
      rw [N2]
      refine wq_icge rfl (fun h40 => ?_) (fun h40 => absurd (nI_le (Nat.le_refl _) (by omega)) h40)
      refine wp_lda rfl tm_m1 ?_
      refine wq_getr (p := 50) rfl rfl (f := 9) rfl rfl ?_
      refine wp_ldi rfl tm_m2 ?_
      refine wq_con (x := 1) rfl (by decide) ?_
      refine wp_zast rfl rfl (tn_in hs2.1 hs2.2) (Or.inr rfl) ?_
      refine wq_con (x := 1) rfl (by decide) ?_
      have fu : tv_un t0 (tm_sI t 50 s.toNatClampNeg 1) [(50, 64), (51, 64)] := tv_un_tr Fu (tv_un_ar rfl rfl)
      exact wp_reti rfl (th_n1 rfl) ⟨_, rfl, Or.inl ⟨rfl, hs⟩, ⟨h3, hn, tv_TY_row Ft (ty := (0, 1)) (fun _ => rfl) (by decide) (by decide), th_SLu I0.1.2.2.1 I0.1.2.2.2 fu (by decide)⟩, tu_FCk I0.2.1 fu (by decide), tu_RFk I0.2.2 fu (by decide)⟩
    | succ m ih =>
      intro i t0 t hi hs I0 Ft Fu
      have hs2 := hs.1
      have hk1 := hs.2.1
      have hk2 := hs.2.2
      have N2 := th_N1 Ft hn
      have ei : (nI i).toInt = i := nI_toInt (by omega)
      have e12 : (12 * s).toInt = 12 * s.toInt := by rw [tn_mul (by show (-2147483648 : Int) ≤ 12 * s.toInt; omega) (by show 12 * s.toInt ≤ 2147483647; omega)]; rfl
      have e13 : (12 * s + nI i).toInt = 12 * s.toInt + i := by rw [tn_add (by omega) (by omega), e12, ei]
      refine wp_ldi rfl tm_m0 ?_
      refine wp_lda rfl tm_m1 ?_
      refine wq_geti rfl rfl (f := 1) rfl rfl (Or.inl rfl) ?_
      rw [N2]
      refine wq_icge rfl (fun h40 => absurd h40 (nI_ge (by omega) (by omega))) (fun h40 => ?_)
      refine wp_lda rfl tm_m1 ?_
      refine wq_getr (p := 51) rfl rfl (f := 10) rfl rfl ?_
      refine wq_con (x := 12) rfl (by decide) ?_
      refine wp_ldi rfl tm_m2 ?_
      refine wq_imul rfl ?_
      refine wp_ldi rfl tm_m0 ?_
      refine wq_iadd rfl ?_
      refine wp_lda rfl tm_m1 ?_
      refine wq_getr (p := 52) rfl rfl (f := 13) rfl rfl ?_
      refine wp_ldi rfl tm_m3 ?_
      refine wp_lald rfl rfl (tn_in hk1 (by omega)) ?_
      refine wq_con (x := 4) rfl (by decide) ?_
      refine wp_ldi rfl tm_m0 ?_
      refine wq_imul rfl ?_
      refine wq_lshr rfl ?_
      refine wq_lco (x := 15) rfl (by decide) ?_
      refine wq_land rfl ?_
      refine wp_l2i rfl ?_
      refine wp_iast rfl rfl (tn_in (by rw [e13]; omega) (by rw [e13]; omega)) ?_
      refine wq_inc (c := 1) [(3, .int ((nI i) + 1)), (0, .ref 11), (1, .int s), (2, .int k)] rfl tm_m0 rfl rfl ?_
      refine wp_go rfl ?_
      rw [nI_1]
      exact WP.less (ih (i + 1) t0 _ (by omega) hs I0 (tv_TY_row Ft (ty := ((-2147483648), 2147483647)) (fun _ => rfl) (tn_rng _).1 (tn_rng _).2) (tv_un_tr Fu (tv_un_ar rfl rfl))) (by simp)
  show WP 90 199 0 [(0, .ref 11), (1, .int s), (2, .int k)] [] σ _
  refine wp_lda rfl tm_m0 ?_
  refine wq_con (x := 0) rfl (by decide) ?_
  refine wq_puti rfl rfl (f := 0) rfl rfl ?_
  rw [e0]
  refine wp_lda rfl tm_m0 ?_
  refine wp_ldi rfl tm_m1 ?_
  refine wq_calv [.int s] rfl rfl rfl rfl rfl rfl rfl rfl rfl (th_isl3) ?_
  rintro r7 _ ⟨hr7, rfl⟩
  obtain ⟨z7, rfl, hz7, hn7⟩ : ∃ z : Int32, r7 = some (.int z) ∧ (¬ z = 0 → (0 ≤ s.toInt ∧ s.toInt < 6)) ∧ (z = 0 → ¬ (0 ≤ s.toInt ∧ s.toInt < 6)) := by
    rcases hr7 with ⟨rfl, g⟩ | ⟨rfl, g⟩
    · exact ⟨_, rfl, fun _ => g, fun e => absurd e (by decide)⟩
    · exact ⟨_, rfl, fun e => absurd rfl e, fun _ => g⟩
  refine wq_ifeq rfl (fun h10 => ?_) (fun h10 => ?_)
  · have g10 : (z7).toInt = 0 := congrArg Int32.toInt h10
    refine wq_con (x := 0) rfl (by decide) ?_
    refine wp_reti rfl (th_n0 rfl) ⟨_, rfl, Or.inr ⟨rfl, fun hk => ?_⟩, hI⟩
    have hk2 := hk.2.1
    first | exact hn7 h10 hk.1 | (change ¬ (0 : Int) ≤ k.toInt at g14; omega)
  · refine wp_ldi rfl tm_m2 ?_
    refine wq_ifge rfl (fun h14 => ?_) (fun h14 => ?_)
    · have g14 : 0 ≤ (k).toInt := tn_leI.mp h14
      refine wp_lda rfl tm_m0 ?_
      refine wq_calv [] rfl rfl rfl rfl rfl rfl rfl rfl rfl (WM.deep (tu_fulls h3 hn (th_cnt h3 hn) hT hR) (by decide)) ?_
      rintro _ t ⟨rfl, Ft, et⟩
      have I2 := tu_M3 hI Ft et
      have N2 := th_N1 Ft.1 hn
      refine wp_ldi rfl tm_m2 ?_
      refine wp_lda rfl tm_m0 ?_
      refine wq_geti rfl rfl (f := 12) rfl rfl (Or.inl rfl) ?_
      rw [et]
      refine wq_iclt rfl (fun h28 => ?_) (fun h28 => ?_)
      · have g28 : (k).toInt < (nI (tu_K n)).toInt := tn_ltI.mp h28
        refine wq_con (x := nI 0) rfl (by decide) ?_
        refine wq_sti [(3, .int (nI 0)), (0, .ref 11), (1, .int s), (2, .int k)] rfl rfl ?_
        rw [eK] at g28
        change (0 : Int) ≤ k.toInt at g14
        exact WP.less (k35 n 0 t t (by omega) ⟨hz7 h10, g14, g28⟩ I2 Ft.1 tv_un_rf) (by simp)
      · have g28 : ¬ (k).toInt < (nI (tu_K n)).toInt := fun g => h28 (tn_ltI.mpr g)
        refine wq_con (x := 0) rfl (by decide) ?_
        rw [eK] at g28
        exact wp_reti rfl (th_n0 rfl) ⟨_, rfl, Or.inr ⟨rfl, fun hk => g28 hk.2.2⟩, I2⟩
    · have g14 : ¬ 0 ≤ (k).toInt := fun g => h14 (tn_leI.mpr g)
      refine wq_con (x := 0) rfl (by decide) ?_
      refine wp_reti rfl (th_n0 rfl) ⟨_, rfl, Or.inr ⟨rfl, fun hk => ?_⟩, hI⟩
      have hk2 := hk.2.1
      first | exact hn7 h10 hk.1 | (change ¬ (0 : Int) ≤ k.toInt at g14; omega)
set_option maxRecDepth 100000 in
set_option maxHeartbeats 4000000 in
theorem tu_hasm {d : Nat} {s : Int32} {σ : tm_S} : WM (d + 1) 188 [.ref 11, .int s] σ (fun q σ' => (∃ z : Int32, q = some (.int z) ∧ (¬ z = 0 → 0 ≤ s.toInt ∧ s.toInt < 6)) ∧ σ = σ') := by
  show WP (d + 1) 188 0 [(0, .ref 11), (1, .int s)] [] σ _
  refine wp_lda rfl tm_m0 ?_
  refine wp_ldi rfl tm_m1 ?_
  refine wq_calv [.int s] rfl rfl rfl rfl rfl rfl rfl rfl rfl (th_isl3) ?_
  rintro r2 _ ⟨hr2, rfl⟩
  obtain ⟨z2, rfl, hz2, hn2⟩ : ∃ z : Int32, r2 = some (.int z) ∧ (¬ z = 0 → (0 ≤ s.toInt ∧ s.toInt < 6)) ∧ (z = 0 → ¬ (0 ≤ s.toInt ∧ s.toInt < 6)) := by
    rcases hr2 with ⟨rfl, g⟩ | ⟨rfl, g⟩
    · exact ⟨_, rfl, fun _ => g, fun e => absurd e (by decide)⟩
    · exact ⟨_, rfl, fun e => absurd rfl e, fun _ => g⟩
  refine wq_ifeq rfl (fun h5 => ?_) (fun h5 => ?_)
  · refine wq_con (x := 0) rfl (by decide) ?_
    exact wp_reti rfl (th_n0 rfl) ⟨⟨_, rfl, fun e => absurd rfl e⟩, rfl⟩
  · refine wp_lda rfl tm_m0 ?_
    refine wq_getr (p := 50) rfl rfl (f := 9) rfl rfl ?_
    refine wp_ldi rfl tm_m1 ?_
    refine wp_zald rfl rfl (tn_in (hz2 h5).1 (hz2 h5).2) ?_
    refine wq_ifeq rfl (fun h14 => ?_) (fun h14 => ?_)
    · refine wq_con (x := 0) rfl (by decide) ?_
      exact wp_reti rfl (th_n0 rfl) ⟨⟨_, rfl, fun e => absurd rfl e⟩, rfl⟩
    · refine wq_con (x := 1) rfl (by decide) ?_
      refine wp_go rfl ?_
      exact wp_reti rfl (th_n1 rfl) ⟨⟨_, rfl, fun _ => hz2 h5⟩, rfl⟩
set_option maxRecDepth 100000 in
set_option maxHeartbeats 4000000 in
theorem tf3_m_rank {n : Nat} {s : Int32} {σ : tm_S} (h : th_I3 n σ) : WM 90 200 [.ref 11, .int s] σ (fun r σ' => (∃ z : Int32, r = some (.int z)) ∧ th_I3 n σ') := by
  have hI := th_I30 h
  generalize e0 : tm_sI σ 11 0 0 = s0 at hI
  have ⟨⟨h3, hn, hT, hS⟩, hC, hR⟩ := hI
  have hN1 := th_N1 hT hn
  have hb := tu_Kb hn
  have eK : (nI (tu_K n)).toInt = (tu_K n : Nat) := nI_toInt (by omega)
  have k63 : ∀ (r : Int64) (t : tm_S), th_I3 n t → t.1 11 12 = nI (tu_K n) → ∀ m i : Nat, i + m = tu_K n → WP 90 200 63 [(4, .int (nI i)), (2, .long r), (0, .ref 11), (1, .int s)] [] t (fun r σ' => (∃ z : Int32, r = some (.int z)) ∧ th_I3 n σ') := by
    intro r t It et m
    induction m with
    | zero =>
      intro i hi
      refine wp_ldi rfl tm_m0 ?_
      refine wp_lda rfl tm_m2 ?_
      refine wq_geti rfl rfl (f := 12) rfl rfl (Or.inl rfl) ?_
      rw [et]
      refine wq_icge rfl (fun h69 => ?_) (fun h69 => absurd (nI_le (by omega) (by omega)) h69)
      refine wq_con (x := (-1)) rfl (by decide) ?_
      exact wp_reti rfl (th_nI rfl) ⟨⟨_, rfl⟩, It⟩
    | succ m ih =>
      intro i hi
      refine wp_ldi rfl tm_m0 ?_
      refine wp_lda rfl tm_m2 ?_
      refine wq_geti rfl rfl (f := 12) rfl rfl (Or.inl rfl) ?_
      rw [et]
      refine wq_icge rfl (fun h69 => absurd h69 (nI_ge (by omega) (by omega))) (fun h69 => ?_)
      refine wp_lda rfl tm_m2 ?_
      refine wq_getr (p := 52) rfl rfl (f := 13) rfl rfl ?_
      refine wp_ldi rfl tm_m0 ?_
      refine wp_lald rfl rfl (nI_in (by omega) (by decide)) ?_
      refine wp_ldl rfl tm_m1 ?_
      refine wp_cmp rfl ?_
      refine wq_ifne rfl (fun h81 => ?_) (fun h81 => ?_)
      · refine wq_inc (c := 1) [(4, .int ((nI i) + 1)), (2, .long r), (0, .ref 11), (1, .int s)] rfl tm_m0 rfl rfl ?_
        refine wp_go rfl ?_
        rw [nI_1]
        exact WP.less (ih (i + 1) (by omega)) (by simp)
      · refine wp_ldi rfl tm_m0 ?_
        exact wp_reti rfl (th_nI rfl) ⟨⟨_, rfl⟩, It⟩
  have k24 : (0 ≤ s.toInt ∧ s.toInt < 6) → ∀ (t : tm_S), th_I3 n t → t.1 11 12 = nI (tu_K n) → ∀ (m i : Nat) (r : Int64), i + m = n → WP 90 200 24 [(4, .int (nI i)), (2, .long r), (0, .ref 11), (1, .int s)] [] t (fun r σ' => (∃ z : Int32, r = some (.int z)) ∧ th_I3 n σ') := by
    intro hs t It et m
    have N2 := th_N1 It.1.2.2.1 hn
    induction m with
    | zero =>
      intro i r hi
      obtain rfl : i = n := by omega
      have ei : (nI i).toInt = i := nI_toInt (by omega)
      have e12 : (12 * s).toInt = 12 * s.toInt := by rw [tn_mul (by show (-2147483648 : Int) ≤ 12 * s.toInt; omega) (by show 12 * s.toInt ≤ 2147483647; omega)]; rfl
      have e13 : (12 * s + nI i).toInt = 12 * s.toInt + i := by rw [tn_add (by omega) (by omega), e12, ei]
      refine wp_ldi rfl tm_m0 ?_
      refine wp_lda rfl tm_m2 ?_
      refine wq_geti rfl rfl (f := 1) rfl rfl (Or.inl rfl) ?_
      rw [N2]
      refine wq_icge rfl (fun h30 => ?_) (fun h30 => absurd (nI_le (Nat.le_refl _) (by omega)) h30)
      refine wq_con (x := nI 0) rfl (by decide) ?_
      refine wq_sti [(4, .int (nI 0)), (2, .long r), (0, .ref 11), (1, .int s)] rfl rfl ?_
      exact WP.less (k63 r t It et (tu_K i) 0 (by omega)) (by simp)
    | succ m ih =>
      intro i r hi
      have ei : (nI i).toInt = i := nI_toInt (by omega)
      have e12 : (12 * s).toInt = 12 * s.toInt := by rw [tn_mul (by show (-2147483648 : Int) ≤ 12 * s.toInt; omega) (by show 12 * s.toInt ≤ 2147483647; omega)]; rfl
      have e13 : (12 * s + nI i).toInt = 12 * s.toInt + i := by rw [tn_add (by omega) (by omega), e12, ei]
      refine wp_ldi rfl tm_m0 ?_
      refine wp_lda rfl tm_m2 ?_
      refine wq_geti rfl rfl (f := 1) rfl rfl (Or.inl rfl) ?_
      rw [N2]
      refine wq_icge rfl (fun h30 => absurd h30 (nI_ge (by omega) (by omega))) (fun h30 => ?_)
      refine wp_ldl rfl tm_m1 ?_
      refine wp_lda rfl tm_m2 ?_
      refine wq_getr (p := 51) rfl rfl (f := 10) rfl rfl ?_
      refine wq_con (x := 12) rfl (by decide) ?_
      refine wp_ldi rfl tm_m3 ?_
      refine wq_imul rfl ?_
      refine wp_ldi rfl tm_m0 ?_
      refine wq_iadd rfl ?_
      refine wp_iald rfl rfl (tn_in (by rw [e13]; omega) (by rw [e13]; omega)) ?_
      refine wp_i2l rfl ?_
      refine wq_con (x := 4) rfl (by decide) ?_
      refine wp_ldi rfl tm_m0 ?_
      refine wq_imul rfl ?_
      refine wq_lshl rfl ?_
      refine wq_lor rfl ?_
      refine wq_stl [(2, .long (r ||| (((t.1 51 ((12 * s) + (nI i)).toNatClampNeg).toInt64) <<< (((4 * (nI i)) : Int32).toInt64 &&& 63)))), (4, .int (nI i)), (0, .ref 11), (1, .int s)] rfl rfl ?_
      refine wq_inc (c := 1) [(4, .int ((nI i) + 1)), (2, .long (r ||| (((t.1 51 ((12 * s) + (nI i)).toNatClampNeg).toInt64) <<< (((4 * (nI i)) : Int32).toInt64 &&& 63)))), (0, .ref 11), (1, .int s)] rfl tm_m1 rfl rfl ?_
      refine wp_go rfl ?_
      rw [nI_1]
      exact WP.less (ih (i + 1) (r ||| (((t.1 51 ((12 * s) + (nI i)).toNatClampNeg).toInt64) <<< (((4 * (nI i)) : Int32).toInt64 &&& 63))) (by omega)) (by simp)
  show WP 90 200 0 [(0, .ref 11), (1, .int s)] [] σ _
  refine wp_lda rfl tm_m0 ?_
  refine wq_con (x := 0) rfl (by decide) ?_
  refine wq_puti rfl rfl (f := 0) rfl rfl ?_
  rw [e0]
  refine wp_lda rfl tm_m0 ?_
  refine wp_ldi rfl tm_m1 ?_
  refine wq_calv [.int s] rfl rfl rfl rfl rfl rfl rfl rfl rfl (tu_hasm (d := 88)) ?_
  rintro _ _ ⟨⟨z7, rfl, hz7⟩, rfl⟩
  refine wq_ifne rfl (fun h10 => ?_) (fun h10 => ?_)
  · refine wp_lda rfl tm_m0 ?_
    refine wq_calv [] rfl rfl rfl rfl rfl rfl rfl rfl rfl (WM.deep (tu_fulls h3 hn (th_cnt h3 hn) hT hR) (by decide)) ?_
    rintro _ t ⟨rfl, Ft, et⟩
    have I2 := tu_M3 hI Ft et
    have N2 := th_N1 Ft.1 hn
    refine wq_lco (x := 0) rfl (by decide) ?_
    refine wq_stl [(2, .long 0), (0, .ref 11), (1, .int s)] rfl rfl ?_
    refine wq_con (x := nI 0) rfl (by decide) ?_
    refine wq_sti [(4, .int (nI 0)), (2, .long 0), (0, .ref 11), (1, .int s)] rfl rfl ?_
    exact WP.less (k24 (hz7 h10) t I2 et n 0 0 (by omega)) (by simp)
  · refine wq_con (x := (-1)) rfl (by decide) ?_
    exact wp_reti rfl (th_nI rfl) ⟨⟨_, rfl⟩, hI⟩
