/-! ===== full rows of the class ===== -/
def th_t74 (i m : Int32) : Int32 := m + ((i).toUInt32 >>> (((1 : Int32)).toUInt32 &&& Int32.toUInt32 31)).toInt32
def th_t62 (i m : Int32) : Int32 := if i ≤ 4 then th_t74 i m else th_t74 (((i).toUInt32 >>> (((2 : Int32)).toUInt32 &&& Int32.toUInt32 31)).toInt32) (m + 2)
def th_t49 (i m : Int32) : Int32 := if i ≤ 16 then th_t62 i m else th_t62 (((i).toUInt32 >>> (((4 : Int32)).toUInt32 &&& Int32.toUInt32 31)).toInt32) (m + 4)
def th_t34 (i m : Int32) : Int32 := if i ≤ 256 then th_t49 i m else th_t49 (((i).toUInt32 >>> (((8 : Int32)).toUInt32 &&& Int32.toUInt32 31)).toInt32) (m + 8)
def th_t17 (i m : Int32) : Int32 := if i ≤ 65536 then th_t34 i m else th_t34 (((i).toUInt32 >>> (((16 : Int32)).toUInt32 &&& Int32.toUInt32 31)).toInt32) (m + 16)
def th_t8 (i : Int32) : Int32 := if i > 0 then th_t17 i 1 else i &&& 32
def th_tz (x : Int32) : Int32 := th_t8 ((x ^^^ (-1)) &&& (x - 1))
set_option maxRecDepth 100000 in
set_option maxHeartbeats 4000000 in
theorem th_ntz {d : Nat} {x : Int32} {σ : tm_S} : WM d 39 [.int x] σ (th_is (.int (th_tz x)) σ) := by
  have k74 : ∀ i m : Int32, WP d 39 74 [(0, .int i), (1, .int m)] [] σ (th_is (.int (th_t74 i m)) σ) := by
    intro i m
    refine wp_ldi rfl tm_m1 ?_
    refine wp_ldi rfl tm_m0 ?_
    refine wq_con (x := 1) rfl (by decide) ?_
    refine wq_iushr rfl ?_
    refine wq_iadd rfl ?_
    exact wp_reti rfl (th_nI rfl) ⟨rfl, rfl⟩
  have k62 : ∀ i m : Int32, WP d 39 62 [(0, .int i), (1, .int m)] [] σ (th_is (.int (th_t62 i m)) σ) := by
    intro i m
    refine wp_ldi rfl tm_m0 ?_
    refine wq_con (x := 4) rfl (by decide) ?_
    refine wq_icle rfl (fun h64 => ?_) (fun h64 => ?_)
    · have h := k74 i m
      unfold th_t62
      rw [if_pos h64]
      exact WP.less h (by simp)
    · refine wq_inc (c := 2) [(1, .int (m + 2)), (0, .int i)] rfl tm_m1 rfl rfl ?_
      refine wp_ldi rfl tm_m1 ?_
      refine wq_con (x := 2) rfl (by decide) ?_
      refine wq_iushr rfl ?_
      refine wq_sti [(0, .int (((i : Int32).toUInt32 >>> ((2 : Int32).toUInt32 &&& Int32.toUInt32 31)).toInt32)), (1, .int (m + 2))] rfl rfl ?_
      have h := k74 (((i : Int32).toUInt32 >>> ((2 : Int32).toUInt32 &&& Int32.toUInt32 31)).toInt32) (m + 2)
      unfold th_t62
      rw [if_neg h64]
      exact WP.less h (by simp)
  have k49 : ∀ i m : Int32, WP d 39 49 [(0, .int i), (1, .int m)] [] σ (th_is (.int (th_t49 i m)) σ) := by
    intro i m
    refine wp_ldi rfl tm_m0 ?_
    refine wq_con (x := 16) rfl (by decide) ?_
    refine wq_icle rfl (fun h52 => ?_) (fun h52 => ?_)
    · have h := k62 i m
      unfold th_t49
      rw [if_pos h52]
      exact WP.less h (by simp)
    · refine wq_inc (c := 4) [(1, .int (m + 4)), (0, .int i)] rfl tm_m1 rfl rfl ?_
      refine wp_ldi rfl tm_m1 ?_
      refine wq_con (x := 4) rfl (by decide) ?_
      refine wq_iushr rfl ?_
      refine wq_sti [(0, .int (((i : Int32).toUInt32 >>> ((4 : Int32).toUInt32 &&& Int32.toUInt32 31)).toInt32)), (1, .int (m + 4))] rfl rfl ?_
      have h := k62 (((i : Int32).toUInt32 >>> ((4 : Int32).toUInt32 &&& Int32.toUInt32 31)).toInt32) (m + 4)
      unfold th_t49
      rw [if_neg h52]
      exact WP.less h (by simp)
  have k34 : ∀ i m : Int32, WP d 39 34 [(0, .int i), (1, .int m)] [] σ (th_is (.int (th_t34 i m)) σ) := by
    intro i m
    refine wp_ldi rfl tm_m0 ?_
    refine wq_con (x := 256) rfl (by decide) ?_
    refine wq_icle rfl (fun h38 => ?_) (fun h38 => ?_)
    · have h := k49 i m
      unfold th_t34
      rw [if_pos h38]
      exact WP.less h (by simp)
    · refine wq_inc (c := 8) [(1, .int (m + 8)), (0, .int i)] rfl tm_m1 rfl rfl ?_
      refine wp_ldi rfl tm_m1 ?_
      refine wq_con (x := 8) rfl (by decide) ?_
      refine wq_iushr rfl ?_
      refine wq_sti [(0, .int (((i : Int32).toUInt32 >>> ((8 : Int32).toUInt32 &&& Int32.toUInt32 31)).toInt32)), (1, .int (m + 8))] rfl rfl ?_
      have h := k49 (((i : Int32).toUInt32 >>> ((8 : Int32).toUInt32 &&& Int32.toUInt32 31)).toInt32) (m + 8)
      unfold th_t34
      rw [if_neg h38]
      exact WP.less h (by simp)
  have k19 : ∀ i m : Int32, WP d 39 19 [(0, .int i), (1, .int m)] [] σ (th_is (.int (th_t17 i m)) σ) := by
    intro i m
    refine wp_ldi rfl tm_m0 ?_
    refine wq_con (x := 65536) rfl (by decide) ?_
    refine wq_icle rfl (fun h23 => ?_) (fun h23 => ?_)
    · have h := k34 i m
      unfold th_t17
      rw [if_pos h23]
      exact WP.less h (by simp)
    · refine wq_inc (c := 16) [(1, .int (m + 16)), (0, .int i)] rfl tm_m1 rfl rfl ?_
      refine wp_ldi rfl tm_m1 ?_
      refine wq_con (x := 16) rfl (by decide) ?_
      refine wq_iushr rfl ?_
      refine wq_sti [(0, .int (((i : Int32).toUInt32 >>> ((16 : Int32).toUInt32 &&& Int32.toUInt32 31)).toInt32)), (1, .int (m + 16))] rfl rfl ?_
      have h := k34 (((i : Int32).toUInt32 >>> ((16 : Int32).toUInt32 &&& Int32.toUInt32 31)).toInt32) (m + 16)
      unfold th_t17
      rw [if_neg h23]
      exact WP.less h (by simp)
  show WP d 39 0 [(0, .int x)] [] σ _
  refine wp_ldi rfl tm_m0 ?_
  refine wq_con (x := (-1)) rfl (by decide) ?_
  refine wq_ixor rfl ?_
  refine wp_ldi rfl tm_m0 ?_
  refine wq_con (x := 1) rfl (by decide) ?_
  refine wq_isub rfl ?_
  refine wq_iand rfl ?_
  unfold th_tz
  generalize (x ^^^ (-1)) &&& (x - 1) = i
  refine wq_sti [(0, .int i)] rfl rfl ?_
  refine wp_ldi rfl tm_m0 ?_
  refine wq_ifgt rfl (fun h9 => ?_) (fun h9 => ?_)
  · unfold th_t8
    rw [if_pos h9]
    refine wq_con (x := 1) rfl (by decide) ?_
    refine wq_sti [(1, .int 1), (0, .int i)] rfl rfl ?_
    exact WP.less (k19 i 1) (by simp)
  · unfold th_t8
    rw [if_neg h9]
    refine wp_ldi rfl tm_m0 ?_
    refine wq_con (x := 32) rfl (by decide) ?_
    refine wq_iand rfl ?_
    exact wp_reti rfl (th_nI rfl) ⟨rfl, rfl⟩
set_option maxRecDepth 100000 in
set_option maxHeartbeats 4000000 in
theorem th_lm {d : Nat} {x : Int32} {σ : tm_S} : WM (d + 1) 38 [.int x] σ (th_is (.int (th_tz x)) σ) := by
  show WP (d + 1) 38 0 [(0, .int x)] [] σ _
  refine wp_ldi rfl tm_m0 ?_
  refine wq_cals [.int x] rfl rfl rfl rfl rfl rfl (th_ntz) ?_
  rintro _ _ ⟨rfl, rfl⟩
  exact wp_reti rfl (th_nI rfl) ⟨rfl, rfl⟩
set_option maxRecDepth 100000 in
set_option maxHeartbeats 4000000 in
theorem th_wl {d : Nat} {x : Int32} {σ : tm_S} : WM d 40 [.int x] σ (th_is (.int (x &&& (x - 1))) σ) := by
  show WP d 40 0 [(0, .int x)] [] σ _
  refine wp_ldi rfl tm_m0 ?_
  refine wp_ldi rfl tm_m0 ?_
  refine wq_con (x := 1) rfl (by decide) ?_
  refine wq_isub rfl ?_
  refine wq_iand rfl ?_
  exact wp_reti rfl (th_nI rfl) ⟨rfl, rfl⟩
set_option maxRecDepth 100000 in
set_option maxHeartbeats 4000000 in
theorem th_turn {d : Nat} {x t z : Int32} {σ : tm_S} : WM d 11 [.int x, .int t, .int z] σ (fun q σ' => (∃ w : Int32, q = some (.int w)) ∧ σ = σ') := by
  show WP d 11 0 [(0, .int x), (1, .int t), (2, .int z)] [] σ _
  refine wp_ldi rfl tm_m0 ?_
  refine wp_ldi rfl tm_m1 ?_
  refine wq_ishl rfl ?_
  refine wp_ldi rfl tm_m0 ?_
  refine wp_ldi rfl tm_m2 ?_
  refine wp_ldi rfl tm_m1 ?_
  refine wq_isub rfl ?_
  refine wq_iushr rfl ?_
  refine wq_ior rfl ?_
  refine wq_con (x := 1) rfl (by decide) ?_
  refine wp_ldi rfl tm_m2 ?_
  refine wq_ishl rfl ?_
  refine wq_con (x := 1) rfl (by decide) ?_
  refine wq_isub rfl ?_
  refine wq_iand rfl ?_
  exact wp_reti rfl (th_nI rfl) ⟨⟨_, rfl⟩, rfl⟩
set_option maxRecDepth 100000 in
set_option maxHeartbeats 4000000 in
theorem th_gp {d : Nat} {x t z : Int32} {σ : tm_S} : WM d 65 [.int x, .int t, .int z] σ (fun q σ' => (∃ w : Int32, q = some (.int w)) ∧ σ = σ') := by
  show WP d 65 0 [(0, .int x), (1, .int t), (2, .int z)] [] σ _
  refine wp_ldi rfl tm_m1 ?_
  refine wp_ldi rfl tm_m0 ?_
  refine wq_icge rfl (fun h2 => ?_) (fun h2 => ?_)
  · refine wp_ldi rfl tm_m1 ?_
    refine wp_ldi rfl tm_m0 ?_
    refine wq_isub rfl ?_
    exact wp_reti rfl (th_nI rfl) ⟨⟨_, rfl⟩, rfl⟩
  · refine wp_ldi rfl tm_m1 ?_
    refine wp_ldi rfl tm_m0 ?_
    refine wq_isub rfl ?_
    refine wp_ldi rfl tm_m2 ?_
    refine wq_iadd rfl ?_
    refine wp_go rfl ?_
    exact wp_reti rfl (th_nI rfl) ⟨⟨_, rfl⟩, rfl⟩
set_option maxRecDepth 100000 in
theorem th_tk : (List.range 4096).all (fun m => decide (th_bit (nI m) = nI (th_pc m)) && (Nat.beq m 0 || (Nat.beq (th_pc (m &&& (m - 1)) + 1) (th_pc m) && decide (nI m &&& (nI m - 1) = nI (m &&& (m - 1))) && decide (0 ≤ (th_tz (nI m)).toInt ∧ (th_tz (nI m)).toInt < 12)))) = true := by decide +kernel
theorem th_tkb {m : Nat} (hm : m < 4096) : th_bit (nI m) = nI (th_pc m) := by
  have h1 := List.all_eq_true.mp th_tk m (List.mem_range.mpr hm)
  simp only [Bool.and_eq_true, decide_eq_true_eq] at h1
  exact h1.1
theorem th_tk1 {m : Nat} (hm : m < 4096) (h0 : 0 < th_pc m) : th_pc (m &&& (m - 1)) + 1 = th_pc m ∧ nI m &&& (nI m - 1) = nI (m &&& (m - 1)) ∧ ∃ x : Nat, x < 12 ∧ th_tz (nI m) = nI x := by
  have h1 := List.all_eq_true.mp th_tk m (List.mem_range.mpr hm)
  simp only [Bool.or_eq_true, Bool.and_eq_true, decide_eq_true_eq] at h1
  rcases h1.2 with h2 | ⟨⟨h2, h3⟩, h4⟩
  · rw [tv_beq h2] at h0
    exact absurd h0 (by decide)
  · obtain ⟨x, x1, x2⟩ := nI_of (x := th_tz (nI m)) (by rw [tn_ltI]; show ¬ _ < (0 : Int); omega)
    rw [x2, nI_toInt x1] at h4
    exact ⟨tv_beq h2, h3, x, by omega, x2⟩
theorem th_and12 {N : Nat} (hN : N < 4096) (z : Int32) : ∃ m : Nat, m < 4096 ∧ nI N &&& z = nI m := by
  have e : (nI N).toBitVec.toNat = N := by
    unfold nI
    rw [Int32.toBitVec_ofNat', BitVec.toNat_ofNat]
    exact Nat.mod_eq_of_lt (by omega)
  have h1 : (nI N &&& z).toBitVec.toNat ≤ N := by rw [tn_and, e]; exact Nat.and_le_left
  refine ⟨(nI N &&& z).toBitVec.toNat, by omega, ?_⟩
  apply Int32.toBitVec_inj.mp
  apply BitVec.eq_of_toNat_eq
  unfold nI
  rw [Int32.toBitVec_ofNat', BitVec.toNat_ofNat]
  exact (Nat.mod_eq_of_lt (by unfold nI at h1; omega)).symm
def th_FR (n : Nat) (w : List (Nat × Nat)) (σ0 s : tm_S) : Prop := tv_TY (tc_T (n : Int)) s ∧ tv_un σ0 s w ∧ ∀ i : Nat, th_dg 12 (s.2.1 24 i)
set_option maxRecDepth 100000 in
set_option maxHeartbeats 4000000 in
theorem th_fadd {d n : Nat} {r : Int64} {σ s : tm_S} (F : th_FR n [(4, 4), (24, 64)] σ s) (hr : th_dg 12 r) : WM d 72 [.ref 4, .long r] s (fun q s' => q = none ∧ th_FR n [(4, 4), (24, 64)] σ s') := by
  have gu : 0 ≤ (s.1 4 4).toInt ∧ (s.1 4 4).toInt ≤ 4174 := F.1.1 4 4
  show WP d 72 0 [(0, .ref 4), (1, .long r)] [] s _
  refine wp_lda rfl tm_m0 ?_
  refine wq_geti rfl rfl (f := 4) rfl rfl (Or.inl rfl) ?_
  refine wp_lda rfl tm_m0 ?_
  refine wq_getr (p := 24) rfl rfl (f := 0) rfl rfl ?_
  refine wq_len (x := 4174) rfl rfl (by decide) ?_
  refine wq_icge rfl (fun h9 => ?_) (fun h9 => ?_)
  · have g9 : 4174 ≤ (s.1 4 4).toInt := tn_leI.mp h9
    exact wp_retv rfl ⟨rfl, F⟩
  · have g9 : ¬ 4174 ≤ (s.1 4 4).toInt := fun g => h9 (tn_leI.mpr g)
    refine wp_lda rfl tm_m0 ?_
    refine wq_getr (p := 24) rfl rfl (f := 0) rfl rfl ?_
    refine wp_lda rfl tm_m0 ?_
    refine wq_geti rfl rfl (f := 4) rfl rfl (Or.inl rfl) ?_
    refine wp_ldl rfl tm_m1 ?_
    refine wp_last rfl rfl (tn_in gu.1 (by omega)) ?_
    refine wp_lda rfl tm_m0 ?_
    refine wp_dup rfl rfl ?_
    refine wq_geti rfl rfl (f := 4) rfl rfl (Or.inl rfl) ?_
    rw [tm_gIJ]
    refine wq_con (x := 1) rfl (by decide) ?_
    refine wq_iadd rfl ?_
    refine wq_puti rfl rfl (f := 4) rfl rfl ?_
    refine wp_retv rfl ⟨rfl, tv_TY_sI (σ := tm_sJ s 24 _ r) ⟨F.1.1, F.1.2⟩ (by rw [tn_add1 (by omega)]; show (0 : Int) ≤ _; omega) (by rw [tn_add1 (by omega)]; show _ ≤ (4174 : Int); omega), tv_un_tr (tv_un_tr F.2.1 (tv_un_aJ rfl rfl)) (tv_un_fI rfl), fun i => ?_⟩
    show th_dg 12 ((tm_sJ s 24 (s.1 4 4).toNatClampNeg r).2.1 24 i)
    rw [tm_gJ]
    split
    · exact hr
    · exact F.2.2 i
set_option maxRecDepth 100000 in
set_option maxHeartbeats 4000000 in
theorem th_len_ {n : Nat} {σ : tm_S} (hn : n ≤ 12) (h3 : 3 ≤ n) : ∀ (k L N a : Nat) (la g : Int32) (s : tm_S), L + k = n → N < 4096 → th_di 12 L a → th_FR n [(4, 4), (24, 64)] σ s → WM (k + 3) 71 [.ref 4, .int (nI n), .int (nI L), .int la, .int (nI N), .int g, .long (th_L a)] s (fun q s' => q = none ∧ th_FR n [(4, 4), (24, 64)] σ s') := by
  intro k
  induction k with
  | zero =>
    intro L N a la g s hL hN ha F
    obtain rfl : L = n := by omega
    show WP 3 71 0 [(0, .ref 4), (1, .int (nI L)), (2, .int (nI L)), (3, .int la), (4, .int (nI N)), (5, .int g), (6, .long (th_L a))] [] s _
    refine wp_ldi rfl tm_m2 ?_
    refine wp_ldi rfl tm_m1 ?_
    refine wq_iclt rfl (fun h2 => absurd h2 (nI_nlt (Nat.le_refl _) (by omega))) (fun h2 => ?_)
    refine wp_lda rfl tm_m0 ?_
    refine wp_ldl rfl tm_m6 ?_
    refine wq_calv [.long (th_L a)] rfl rfl rfl rfl rfl rfl rfl rfl rfl (th_fadd F (th_di_dg ha (by omega) (Nat.le_refl _))) ?_
    rintro _ s8 ⟨rfl, F8⟩
    exact wp_retv rfl ⟨rfl, F8⟩
  | succ k ih =>
    intro L N a la g s hL hN ha F
    have k58 : ∀ (c m : Nat) (t : tm_S), th_pc m = c → m < 4096 → th_FR n [(4, 4), (24, 64)] σ t → WP (k + 1 + 3) 71 58 [(9, .int (nI (th_pc m))), (8, .int (nI m)), (0, .ref 4), (1, .int (nI n)), (2, .int (nI L)), (3, .int la), (4, .int (nI N)), (5, .int g), (6, .long (th_L a))] [] t (fun q s' => q = none ∧ th_FR n [(4, 4), (24, 64)] σ s') := by
      intro c
      induction c with
      | zero =>
        intro m t hc hm Ft
        refine wp_ldi rfl tm_m0 ?_
        refine wq_ifle rfl (fun h60 => ?_) (fun h60 => absurd (by rw [hc]; decide) h60)
        exact wp_retv rfl ⟨rfl, Ft⟩
      | succ c ihc =>
        intro m t hc hm Ft
        obtain ⟨x1, x2, x, x3, x4⟩ := th_tk1 hm (by omega)
        have hp12 := th_pc12 m
        refine wp_ldi rfl tm_m0 ?_
        refine wq_ifle rfl (fun h60 => absurd h60 (nI_nle (by omega) (by omega))) (fun h60 => ?_)
        refine wp_ldi rfl tm_m1 ?_
        refine wq_cals [.int (nI m)] rfl rfl rfl rfl rfl rfl (th_lm) ?_
        rintro _ _ ⟨rfl, rfl⟩
        rw [x4]
        refine wq_sti [(10, .int (nI x)), (9, .int (nI (th_pc m))), (8, .int (nI m)), (0, .ref 4), (1, .int (nI n)), (2, .int (nI L)), (3, .int la), (4, .int (nI N)), (5, .int g), (6, .long (th_L a))] rfl rfl ?_
        refine wp_ldi rfl tm_m2 ?_
        refine wq_cals [.int (nI m)] rfl rfl rfl rfl rfl rfl (th_wl) ?_
        rintro _ _ ⟨rfl, rfl⟩
        rw [x2]
        refine wq_sti [(8, .int (nI (m &&& (m - 1)))), (10, .int (nI x)), (9, .int (nI (th_pc m))), (0, .ref 4), (1, .int (nI n)), (2, .int (nI L)), (3, .int la), (4, .int (nI N)), (5, .int g), (6, .long (th_L a))] rfl rfl ?_
        refine wp_ldi rfl tm_m8 ?_
        refine wq_con (x := 1) rfl (by decide) ?_
        refine wp_ldi rfl tm_m6 ?_
        refine wp_ldi rfl tm_m1 ?_
        refine wp_ldi rfl tm_m4 ?_
        refine wq_cals [.int la, .int (nI x), .int (nI n)] rfl rfl rfl rfl rfl rfl (th_gp) ?_
        rintro _ _ ⟨⟨w84, rfl⟩, rfl⟩
        refine wq_ishl rfl ?_
        refine wq_con (x := (-1)) rfl (by decide) ?_
        refine wq_ixor rfl ?_
        refine wq_iand rfl ?_
        generalize g &&& ((1 <<< (w84 &&& 31)) ^^^ (-1)) = g2
        refine wq_sti [(11, .int g2), (8, .int (nI (m &&& (m - 1)))), (10, .int (nI x)), (9, .int (nI (th_pc m))), (0, .ref 4), (1, .int (nI n)), (2, .int (nI L)), (3, .int la), (4, .int (nI N)), (5, .int g), (6, .long (th_L a))] rfl rfl ?_
        refine wp_lda rfl tm_m4 ?_
        refine wp_ldi rfl tm_m5 ?_
        refine wp_ldi rfl tm_m6 ?_
        refine wq_con (x := 1) rfl (by decide) ?_
        refine wq_iadd rfl ?_
        rw [nI_1]
        refine wp_ldi rfl tm_m2 ?_
        refine wp_ldi rfl tm_m8 ?_
        refine wq_con (x := 1) rfl (by decide) ?_
        refine wp_ldi rfl tm_m2 ?_
        refine wq_ishl rfl ?_
        refine wq_con (x := (-1)) rfl (by decide) ?_
        refine wq_ixor rfl ?_
        refine wq_iand rfl ?_
        obtain ⟨N2, N3, N4⟩ := th_and12 hN ((1 <<< ((nI x) &&& 31)) ^^^ (-1))
        rw [N4]
        refine wp_ldi rfl tm_m0 ?_
        refine wp_ldl rfl tm_m10 ?_
        refine wp_ldi rfl tm_m2 ?_
        refine wp_i2l rfl ?_
        refine wq_con (x := 4) rfl (by decide) ?_
        refine wp_ldi rfl tm_m6 ?_
        refine wq_imul rfl ?_
        refine wq_lshl rfl ?_
        refine wq_lor rfl ?_
        rw [th_app ha.1 (by omega) (by omega)]
        refine wq_calv [.int (nI n), .int (nI (L + 1)), .int (nI x), .int (nI N2), .int g2, .long (th_L (a + x * 16 ^ L))] rfl rfl rfl rfl rfl rfl rfl rfl rfl (ih (L + 1) N2 (a + x * 16 ^ L) (nI x) g2 t (by omega) N3 (th_di1 ha x3 (by decide)) Ft) ?_
        rintro _ t2 ⟨rfl, F2⟩
        refine wq_inc (c := (-1)) [(9, .int ((nI (th_pc m)) + (-1))), (11, .int g2), (8, .int (nI (m &&& (m - 1)))), (10, .int (nI x)), (0, .ref 4), (1, .int (nI n)), (2, .int (nI L)), (3, .int la), (4, .int (nI N)), (5, .int g), (6, .long (th_L a))] rfl tm_m3 rfl rfl ?_
        refine wp_go rfl ?_
        have e9 : nI (th_pc m) + (-1) = nI (th_pc (m &&& (m - 1))) := by
          rw [← x1]
          exact Int32.toInt_inj.mp (by rw [tn_add (by rw [nI_toInt (by omega)]; show -2147483648 ≤ _ + (-1 : Int); omega) (by rw [nI_toInt (by omega)]; show _ + (-1 : Int) ≤ 2147483647; omega), nI_toInt (by omega), nI_toInt (by omega)]; show _ + (-1 : Int) = _; omega)
        rw [e9]
        exact WP.less (ihc (m &&& (m - 1)) t2 (by omega) (Nat.lt_of_le_of_lt Nat.and_le_left hm) F2) (by simp)
    have k48 : ∀ (m0 : Nat) (w : Int32), m0 < 4096 → WP (k + 1 + 3) 71 48 [(8, .int (nI m0)), (0, .ref 4), (1, .int (nI n)), (2, .int (nI L)), (3, .int la), (4, .int (nI N)), (5, .int g), (6, .long (th_L a))] [.int w, .int (nI m0)] s (fun q s' => q = none ∧ th_FR n [(4, 4), (24, 64)] σ s') := by
      intro m0 w hm0
      refine wq_iand rfl ?_
      obtain ⟨m1, m2, m3⟩ := th_and12 hm0 w
      rw [m3]
      refine wq_sti [(8, .int (nI m1)), (0, .ref 4), (1, .int (nI n)), (2, .int (nI L)), (3, .int la), (4, .int (nI N)), (5, .int g), (6, .long (th_L a))] rfl rfl ?_
      refine wp_ldi rfl tm_m0 ?_
      refine wq_cals [.int (nI m1)] rfl rfl rfl rfl rfl rfl (th_bitCount (nI m1) (Q := th_is (.int (th_bit (nI m1))) s) ⟨rfl, rfl⟩) ?_
      rintro _ _ ⟨rfl, rfl⟩
      rw [th_tkb m2]
      refine wq_sti [(9, .int (nI (th_pc m1))), (8, .int (nI m1)), (0, .ref 4), (1, .int (nI n)), (2, .int (nI L)), (3, .int la), (4, .int (nI N)), (5, .int g), (6, .long (th_L a))] rfl rfl ?_
      exact WP.less (k58 (th_pc m1) m1 s rfl m2 F) (by simp)
    show WP (k + 1 + 3) 71 0 [(0, .ref 4), (1, .int (nI n)), (2, .int (nI L)), (3, .int la), (4, .int (nI N)), (5, .int g), (6, .long (th_L a))] [] s _
    refine wp_ldi rfl tm_m2 ?_
    refine wp_ldi rfl tm_m1 ?_
    refine wq_iclt rfl (fun h2 => ?_) (fun h2 => absurd (nI_lt (by omega) (by omega)) h2)
    refine wp_ldi rfl tm_m4 ?_
    refine wp_ldi rfl tm_m5 ?_
    refine wp_ldi rfl tm_m3 ?_
    refine wp_ldi rfl tm_m1 ?_
    refine wq_cals [.int g, .int la, .int (nI n)] rfl rfl rfl rfl rfl rfl (th_turn) ?_
    rintro _ _ ⟨⟨w18, rfl⟩, rfl⟩
    refine wq_iand rfl ?_
    obtain ⟨m0, m2, m3⟩ := th_and12 hN w18
    rw [m3]
    refine wq_sti [(8, .int (nI m0)), (0, .ref 4), (1, .int (nI n)), (2, .int (nI L)), (3, .int la), (4, .int (nI N)), (5, .int g), (6, .long (th_L a))] rfl rfl ?_
    refine wp_ldi rfl tm_m0 ?_
    refine wp_ldi rfl tm_m3 ?_
    refine wp_ldi rfl tm_m2 ?_
    refine wq_con (x := 1) rfl (by decide) ?_
    refine wq_isub rfl ?_
    refine wq_icne rfl (fun h30 => ?_) (fun h30 => ?_)
    · refine wq_con (x := 1) rfl (by decide) ?_
      refine wp_ldi rfl tm_m2 ?_
      refine wq_con (x := 2) rfl (by decide) ?_
      refine wp_div rfl (by decide) ?_
      refine wq_ishl rfl ?_
      refine wq_con (x := (-1)) rfl (by decide) ?_
      refine wq_ixor rfl ?_
      exact WP.less (k48 m0 _ m2) (by simp)
    · refine wq_con (x := 1) rfl (by decide) ?_
      refine wp_ldi rfl tm_m2 ?_
      refine wq_con (x := 2) rfl (by decide) ?_
      refine wp_div rfl (by decide) ?_
      refine wq_ishl rfl ?_
      refine wp_go rfl ?_
      exact WP.less (k48 m0 _ m2) (by simp)
theorem th_all2 : ∀ n : Nat, n ≤ 12 → 1 ≤ n → ((1 : Int32) <<< (nI n &&& 31)) - 2 = nI (2 ^ n - 2) := by decide +kernel
set_option maxRecDepth 100000 in
set_option maxHeartbeats 4000000 in
theorem th_list {n : Nat} {σ s : tm_S} (hn : n ≤ 12) (h3 : 3 ≤ n) (F : th_FR n [(4, 4), (24, 64), (25, 64), (26, 64), (27, 64)] σ s) : WM 20 70 [.ref 4, .int (nI n)] s (fun q s' => q = none ∧ th_FR n [(4, 4), (24, 64), (25, 64), (26, 64), (27, 64)] σ s' ∧ ¬ s'.1 27 n = 0 ∧ (¬ s.1 27 n = 0 → s' = s)) := by
  have cn : (nI n).toNatClampNeg = n := nI_clamp (by omega)
  have k49 : ∀ t : tm_S, s.1 27 n = 0 → th_FR n [(4, 4), (24, 64), (25, 64), (26, 64), (27, 64)] σ t → ¬ t.1 27 n = 0 → WP 20 70 49 [(0, .ref 4), (1, .int (nI n))] [] t (fun q s' => q = none ∧ th_FR n [(4, 4), (24, 64), (25, 64), (26, 64), (27, 64)] σ s' ∧ ¬ s'.1 27 n = 0 ∧ (¬ s.1 27 n = 0 → s' = s)) := by
    intro t hs0 Ft ht
    refine wp_lda rfl tm_m0 ?_
    refine wq_getr (p := 26) rfl rfl (f := 2) rfl rfl ?_
    refine wp_ldi rfl tm_m1 ?_
    refine wp_lda rfl tm_m0 ?_
    refine wq_geti rfl rfl (f := 4) rfl rfl (Or.inl rfl) ?_
    refine wp_iast rfl rfl (nI_in (by omega) (by decide)) ?_
    have gu : 0 ≤ (t.1 4 4).toInt ∧ (t.1 4 4).toInt ≤ 4174 := Ft.1.1 4 4
    exact wp_retv rfl ⟨rfl, ⟨tv_TY_row Ft.1 (ty := (0, 4174)) (fun _ => rfl) gu.1 gu.2, tv_un_tr Ft.2.1 (tv_un_ar rfl rfl), Ft.2.2⟩, by rw [tm_gI, if_neg (fun e => absurd e.1 (by decide))]; exact ht, fun e => absurd hs0 e⟩
  show WP 20 70 0 [(0, .ref 4), (1, .int (nI n))] [] s _
  refine wp_lda rfl tm_m0 ?_
  refine wq_getr (p := 27) rfl rfl (f := 3) rfl rfl ?_
  refine wp_ldi rfl tm_m1 ?_
  refine wp_zald rfl rfl (nI_in (by omega) (by decide)) ?_
  rw [cn]
  refine wq_ifeq rfl (fun h6 => ?_) (fun h6 => ?_)
  · have hs0 : s.1 27 n = 0 := h6
    have hp : 2 ^ n - 2 < 4096 := by have := Nat.pow_le_pow_right (n := 2) (by decide) hn; omega
    have hp2 := th_all2 n hn (by omega)
    refine wp_lda rfl tm_m0 ?_
    refine wq_getr (p := 27) rfl rfl (f := 3) rfl rfl ?_
    refine wp_ldi rfl tm_m1 ?_
    refine wq_con (x := 1) rfl (by decide) ?_
    refine wp_zast rfl rfl (nI_in (by omega) (by decide)) (Or.inr rfl) ?_
    refine wp_lda rfl tm_m0 ?_
    refine wq_getr (p := 25) rfl rfl (f := 1) rfl rfl ?_
    refine wp_ldi rfl tm_m1 ?_
    refine wp_lda rfl tm_m0 ?_
    refine wq_geti rfl rfl (f := 4) rfl rfl (Or.inl rfl) ?_
    refine wp_iast rfl rfl (nI_in (by omega) (by decide)) ?_
    refine wp_ldi rfl tm_m1 ?_
    refine wq_con (x := 2) rfl (by decide) ?_
    refine wp_rem rfl (by decide) ?_
    refine wq_ifne rfl (fun h30 => ?_) (fun h30 => ?_)
    · have F2 : th_FR n [(4, 4), (24, 64), (25, 64), (26, 64), (27, 64)] σ (tm_sI (tm_sI s 27 (nI n).toNatClampNeg 1) 25 (nI n).toNatClampNeg ((tm_sI s 27 (nI n).toNatClampNeg 1).1 4 4)) := ⟨tv_TY_row (tv_TY_row F.1 (ty := (0, 1)) (fun _ => rfl) (by decide) (by decide)) (ty := (0, 4174)) (fun _ => rfl) (by rw [tm_gI, if_neg (fun e => absurd e.1 (by decide))]; exact (F.1.1 4 4).1) (by rw [tm_gI, if_neg (fun e => absurd e.1 (by decide))]; exact (F.1.1 4 4).2), tv_un_tr (tv_un_tr F.2.1 (tv_un_ar rfl rfl)) (tv_un_ar rfl rfl), F.2.2⟩
      have g27 : ¬ (tm_sI (tm_sI s 27 (nI n).toNatClampNeg 1) 25 (nI n).toNatClampNeg ((tm_sI s 27 (nI n).toNatClampNeg 1).1 4 4)).1 27 n = 0 := by rw [tm_gI, if_neg (fun e => absurd e.1 (by decide)), tm_gI, if_pos ⟨rfl, cn.symm⟩]; decide
      exact WP.less (k49 _ hs0 F2 g27) (by simp)
    · refine wq_con (x := 1) rfl (by decide) ?_
      refine wp_ldi rfl tm_m1 ?_
      refine wq_ishl rfl ?_
      refine wq_con (x := 2) rfl (by decide) ?_
      refine wq_isub rfl ?_
      rw [hp2]
      refine wq_sti [(2, .int (nI (2 ^ n - 2))), (0, .ref 4), (1, .int (nI n))] rfl rfl ?_
      have F2 : th_FR n [(4, 4), (24, 64), (25, 64), (26, 64), (27, 64)] σ (tm_sI (tm_sI s 27 (nI n).toNatClampNeg 1) 25 (nI n).toNatClampNeg ((tm_sI s 27 (nI n).toNatClampNeg 1).1 4 4)) := ⟨tv_TY_row (tv_TY_row F.1 (ty := (0, 1)) (fun _ => rfl) (by decide) (by decide)) (ty := (0, 4174)) (fun _ => rfl) (by rw [tm_gI, if_neg (fun e => absurd e.1 (by decide))]; exact (F.1.1 4 4).1) (by rw [tm_gI, if_neg (fun e => absurd e.1 (by decide))]; exact (F.1.1 4 4).2), tv_un_tr (tv_un_tr F.2.1 (tv_un_ar rfl rfl)) (tv_un_ar rfl rfl), F.2.2⟩
      have g27 : ¬ (tm_sI (tm_sI s 27 (nI n).toNatClampNeg 1) 25 (nI n).toNatClampNeg ((tm_sI s 27 (nI n).toNatClampNeg 1).1 4 4)).1 27 n = 0 := by rw [tm_gI, if_neg (fun e => absurd e.1 (by decide)), tm_gI, if_pos ⟨rfl, cn.symm⟩]; decide
      generalize tm_sI (tm_sI s 27 (nI n).toNatClampNeg 1) 25 (nI n).toNatClampNeg ((tm_sI s 27 (nI n).toNatClampNeg 1).1 4 4) = t at F2 g27 ⊢
      refine wp_lda rfl tm_m1 ?_
      refine wp_ldi rfl tm_m2 ?_
      refine wq_con (x := nI 1) rfl (by decide) ?_
      refine wq_con (x := 0) rfl (by decide) ?_
      refine wp_ldi rfl tm_m0 ?_
      refine wp_ldi rfl tm_m0 ?_
      refine wq_lco (x := 0) rfl (by decide) ?_
      refine wq_calv [.int (nI n), .int (nI 1), .int 0, .int (nI (2 ^ n - 2)), .int (nI (2 ^ n - 2)), .long 0] rfl rfl rfl rfl rfl rfl rfl rfl rfl (WM.deep (WM.mono (th_len_ hn h3 (σ := t) (n - 1) 1 (2 ^ n - 2) 0 0 (nI (2 ^ n - 2)) t (by omega) hp (by exact ⟨by decide, (th_di0 (by decide)).2⟩) ⟨F2.1, tv_un_rf, F2.2.2⟩) (fun q s' h => h)) (by omega)) ?_
      rintro _ t2 ⟨rfl, F3⟩
      exact WP.less (k49 t2 hs0 ⟨F3.1, tv_un_tr F2.2.1 (tv_un_mo F3.2.1 (by decide)), F3.2.2⟩ (by rw [(tv_un_a F3.2.1 (k := 27) rfl rfl).1]; exact g27)) (by simp)
  · exact wp_retv rfl ⟨rfl, F, h6, fun _ => rfl⟩
set_option maxRecDepth 100000 in
set_option maxHeartbeats 4000000 in
theorem th_fcnt {n : Nat} {σ s : tm_S} (hn : n ≤ 12) (h3 : 3 ≤ n) (F : th_FR n [(4, 4), (24, 64), (25, 64), (26, 64), (27, 64)] σ s) : WM 21 69 [.ref 4, .int (nI n)] s (fun q s' => q = some (.int (s'.1 26 n - s'.1 25 n)) ∧ th_FR n [(4, 4), (24, 64), (25, 64), (26, 64), (27, 64)] σ s' ∧ ¬ s'.1 27 n = 0) := by
  have cn : (nI n).toNatClampNeg = n := nI_clamp (by omega)
  show WP 21 69 0 [(0, .ref 4), (1, .int (nI n))] [] s _
  refine wp_lda rfl tm_m0 ?_
  refine wp_ldi rfl tm_m1 ?_
  refine wq_calv [.int (nI n)] rfl rfl rfl rfl rfl rfl rfl rfl rfl (th_list hn h3 F) ?_
  rintro _ t ⟨rfl, Ft, gt, et⟩
  refine wp_lda rfl tm_m0 ?_
  refine wq_getr (p := 26) rfl rfl (f := 2) rfl rfl ?_
  refine wp_ldi rfl tm_m1 ?_
  refine wp_iald rfl rfl (nI_in (by omega) (by decide)) ?_
  rw [cn]
  refine wp_lda rfl tm_m0 ?_
  refine wq_getr (p := 25) rfl rfl (f := 1) rfl rfl ?_
  refine wp_ldi rfl tm_m1 ?_
  refine wp_iald rfl rfl (nI_in (by omega) (by decide)) ?_
  rw [cn]
  refine wq_isub rfl ?_
  exact wp_reti rfl (th_nI rfl) ⟨rfl, Ft, gt⟩
set_option maxRecDepth 100000 in
set_option maxHeartbeats 4000000 in
theorem th_fget {n : Nat} {k : Int32} {σ s : tm_S} (hn : n ≤ 12) (h3 : 3 ≤ n) (F : th_FR n [(4, 4), (24, 64), (25, 64), (26, 64), (27, 64)] σ s) (h27 : ¬ s.1 27 n = 0) (k0 : 0 ≤ k.toInt) (k1 : k < s.1 26 n - s.1 25 n) : WM 21 74 [.ref 4, .int (nI n), .int k] s (fun q s' => (∃ r : Int64, q = some (.long r) ∧ th_dg 12 r) ∧ s = s') := by
  have cn : (nI n).toNatClampNeg = n := nI_clamp (by omega)
  have ge : 0 ≤ (s.1 26 n).toInt ∧ (s.1 26 n).toInt ≤ 4174 := F.1.1 26 n
  have gs : 0 ≤ (s.1 25 n).toInt ∧ (s.1 25 n).toInt ≤ 4174 := F.1.1 25 n
  have kk : k.toInt < (s.1 26 n).toInt - (s.1 25 n).toInt := by rw [tn_ltI, tn_sub (by omega) (by omega)] at k1; exact k1
  have ix : (s.1 25 n + k).toInt = (s.1 25 n).toInt + k.toInt := tn_add (by omega) (by omega)
  show WP 21 74 0 [(0, .ref 4), (1, .int (nI n)), (2, .int k)] [] s _
  refine wp_lda rfl tm_m0 ?_
  refine wp_ldi rfl tm_m1 ?_
  refine wq_calv [.int (nI n)] rfl rfl rfl rfl rfl rfl rfl rfl rfl (th_list hn h3 F) ?_
  rintro _ t ⟨rfl, Ft, gt, et⟩
  obtain rfl := et h27
  refine wp_lda rfl tm_m0 ?_
  refine wq_getr (p := 24) rfl rfl (f := 0) rfl rfl ?_
  refine wp_lda rfl tm_m0 ?_
  refine wq_getr (p := 25) rfl rfl (f := 1) rfl rfl ?_
  refine wp_ldi rfl tm_m1 ?_
  refine wp_iald rfl rfl (nI_in (by omega) (by decide)) ?_
  rw [cn]
  refine wp_ldi rfl tm_m2 ?_
  refine wq_iadd rfl ?_
  refine wp_lald rfl rfl (tn_in (by rw [ix]; omega) (by rw [ix]; show _ < (4174 : Int); omega)) ?_
  exact wp_retl rfl ⟨⟨_, rfl, F.2.2 _⟩, rfl⟩
set_option maxRecDepth 100000 in
set_option maxHeartbeats 4000000 in
theorem th_ffind {n : Nat} {r : Int64} {σ s : tm_S} (hn : n ≤ 12) (h3 : 3 ≤ n) (F : th_FR n [(4, 4), (24, 64), (25, 64), (26, 64), (27, 64)] σ s) : WM 21 76 [.ref 4, .int (nI n), .long r] s (fun q s' => (∃ z : Int32, q = some (.int z)) ∧ th_FR n [(4, 4), (24, 64), (25, 64), (26, 64), (27, 64)] σ s') := by
  have cn : (nI n).toNatClampNeg = n := nI_clamp (by omega)
  have k13 : ∀ (m : Nat) (i : Int32) (t : tm_S), th_FR n [(4, 4), (24, 64), (25, 64), (26, 64), (27, 64)] σ t → 0 ≤ i.toInt → 4174 ≤ i.toInt + m → WP 21 76 13 [(4, .int i), (0, .ref 4), (1, .int (nI n)), (2, .long r)] [] t (fun q s' => (∃ z : Int32, q = some (.int z)) ∧ th_FR n [(4, 4), (24, 64), (25, 64), (26, 64), (27, 64)] σ s') := by
    intro m
    induction m with
    | zero =>
      intro i t Ft hi0 hi
      have ge : 0 ≤ (t.1 26 n).toInt ∧ (t.1 26 n).toInt ≤ 4174 := Ft.1.1 26 n
      refine wp_ldi rfl tm_m0 ?_
      refine wp_lda rfl tm_m1 ?_
      refine wq_getr (p := 26) rfl rfl (f := 2) rfl rfl ?_
      refine wp_ldi rfl tm_m2 ?_
      refine wp_iald rfl rfl (nI_in (by omega) (by decide)) ?_
      rw [cn]
      refine wq_icge rfl (fun h21 => ?_) (fun h21 => absurd (tn_leI.mpr (by omega)) h21)
      have g21 : (t.1 26 n).toInt ≤ (i).toInt := tn_leI.mp h21
      refine wq_con (x := (-1)) rfl (by decide) ?_
      exact wp_reti rfl (th_nI rfl) ⟨⟨_, rfl⟩, Ft⟩
    | succ m ih =>
      intro i t Ft hi0 hi
      have ge : 0 ≤ (t.1 26 n).toInt ∧ (t.1 26 n).toInt ≤ 4174 := Ft.1.1 26 n
      refine wp_ldi rfl tm_m0 ?_
      refine wp_lda rfl tm_m1 ?_
      refine wq_getr (p := 26) rfl rfl (f := 2) rfl rfl ?_
      refine wp_ldi rfl tm_m2 ?_
      refine wp_iald rfl rfl (nI_in (by omega) (by decide)) ?_
      rw [cn]
      refine wq_icge rfl (fun h21 => ?_) (fun h21 => ?_)
      · have g21 : (t.1 26 n).toInt ≤ (i).toInt := tn_leI.mp h21
        refine wq_con (x := (-1)) rfl (by decide) ?_
        exact wp_reti rfl (th_nI rfl) ⟨⟨_, rfl⟩, Ft⟩
      · have g21 : ¬ (t.1 26 n).toInt ≤ (i).toInt := fun g => h21 (tn_leI.mpr g)
        refine wp_lda rfl tm_m1 ?_
        refine wq_getr (p := 24) rfl rfl (f := 0) rfl rfl ?_
        refine wp_ldi rfl tm_m0 ?_
        refine wp_lald rfl rfl (tn_in hi0 (by show _ < (4174 : Int); omega)) ?_
        refine wp_ldl rfl tm_m3 ?_
        refine wp_cmp rfl ?_
        refine wq_ifne rfl (fun h33 => ?_) (fun h33 => ?_)
        · refine wq_inc (c := 1) [(4, .int (i + 1)), (0, .ref 4), (1, .int (nI n)), (2, .long r)] rfl tm_m0 rfl rfl ?_
          refine wp_go rfl ?_
          have e1 := tn_add1 (x := i) (by omega)
          exact WP.less (ih (i + 1) t Ft (by omega) (by omega)) (by simp)
        · have g33 : (lg_cmp (t.2.1 24 i.toNatClampNeg) r).toInt = 0 := congrArg Int32.toInt (Classical.not_not.mp h33)
          refine wp_ldi rfl tm_m0 ?_
          refine wp_lda rfl tm_m1 ?_
          refine wq_getr (p := 25) rfl rfl (f := 1) rfl rfl ?_
          refine wp_ldi rfl tm_m2 ?_
          refine wp_iald rfl rfl (nI_in (by omega) (by decide)) ?_
          refine wq_isub rfl ?_
          exact wp_reti rfl (th_nI rfl) ⟨⟨_, rfl⟩, Ft⟩
  show WP 21 76 0 [(0, .ref 4), (1, .int (nI n)), (2, .long r)] [] s _
  refine wp_lda rfl tm_m0 ?_
  refine wp_ldi rfl tm_m1 ?_
  refine wq_calv [.int (nI n)] rfl rfl rfl rfl rfl rfl rfl rfl rfl (th_list hn h3 F) ?_
  rintro _ t ⟨rfl, Ft, gt, et⟩
  refine wp_lda rfl tm_m0 ?_
  refine wq_getr (p := 25) rfl rfl (f := 1) rfl rfl ?_
  refine wp_ldi rfl tm_m1 ?_
  refine wp_iald rfl rfl (nI_in (by omega) (by decide)) ?_
  rw [cn]
  refine wq_sti [(4, .int (t.1 25 n)), (0, .ref 4), (1, .int (nI n)), (2, .long r)] rfl rfl ?_
  have gs : 0 ≤ (t.1 25 n).toInt := (Ft.1.1 25 n).1
  exact WP.less (k13 4174 _ t Ft gs (by omega)) (by simp)
set_option maxRecDepth 100000 in
set_option maxHeartbeats 4000000 in
theorem th_xfull {n : Nat} {σ : tm_S} (hn : n ≤ 12) (h3 : 3 ≤ n) (hT : tv_TY (tc_T (n : Int)) σ) (h : th_SL n σ) : WM 22 68 [.ref 0] σ (fun q s' => (∃ z : Int32, q = some (.int z)) ∧ th_FR n [(4, 4), (24, 64), (25, 64), (26, 64), (27, 64)] σ s') := by
  have hN0 := th_N0 hT hn
  show WP 22 68 0 [(0, .ref 0)] [] σ _
  refine wp_lda rfl tm_m0 ?_
  refine wq_getr (p := 4) rfl rfl (f := 3) rfl rfl ?_
  refine wp_lda rfl tm_m0 ?_
  refine wq_getr (p := 1) rfl rfl (f := 0) rfl rfl ?_
  refine wq_calv [] rfl rfl rfl rfl rfl rfl rfl rfl rfl (th_size) ?_
  rintro _ _ ⟨rfl, rfl⟩
  rw [hN0]
  refine wq_calv [.int (nI n)] rfl rfl rfl rfl rfl rfl rfl rfl rfl (th_fcnt hn h3 ⟨hT, tv_un_rf, h.2.1⟩) ?_
  rintro _ t ⟨rfl, Ft, gt⟩
  exact wp_reti rfl (th_nI rfl) ⟨⟨_, rfl⟩, Ft⟩
set_option maxRecDepth 100000 in
set_option maxHeartbeats 4000000 in
theorem th_xrank {n : Nat} {s : Int32} {σ : tm_S} (hn : n ≤ 12) (h3 : 3 ≤ n) (hT : tv_TY (tc_T (n : Int)) σ) (h : th_SL n σ) : WM 22 75 [.ref 0, .int s] σ (fun q s' => (∃ z : Int32, q = some (.int z)) ∧ th_FR n [(4, 4), (24, 64), (25, 64), (26, 64), (27, 64)] σ s') := by
  have hN0 := th_N0 hT hn
  show WP 22 75 0 [(0, .ref 0), (1, .int s)] [] σ _
  refine wp_lda rfl tm_m0 ?_
  refine wp_ldi rfl tm_m1 ?_
  refine wq_calv [.int s] rfl rfl rfl rfl rfl rfl rfl rfl rfl (th_hasr) ?_
  rintro r2 _ ⟨hr2, rfl⟩
  obtain ⟨z2, rfl, hz2⟩ : ∃ z : Int32, r2 = some (.int z) ∧ (¬ z = 0 → 0 ≤ s.toInt ∧ s.toInt < 6) := by
    rcases hr2 with ⟨rfl, g1, g2, -⟩ | rfl
    · exact ⟨_, rfl, fun _ => ⟨g1, g2⟩⟩
    · exact ⟨_, rfl, fun e => absurd rfl e⟩
  refine wq_ifeq rfl (fun h5 => ?_) (fun h5 => ?_)
  · refine wq_con (x := (-1)) rfl (by decide) ?_
    exact wp_reti rfl (th_nI rfl) ⟨⟨_, rfl⟩, ⟨hT, tv_un_rf, h.2.1⟩⟩
  · refine wp_lda rfl tm_m0 ?_
    refine wq_getr (p := 4) rfl rfl (f := 3) rfl rfl ?_
    refine wp_lda rfl tm_m0 ?_
    refine wq_getr (p := 1) rfl rfl (f := 0) rfl rfl ?_
    refine wq_calv [] rfl rfl rfl rfl rfl rfl rfl rfl rfl (th_size) ?_
    rintro _ _ ⟨rfl, rfl⟩
    rw [hN0]
    refine wp_lda rfl tm_m0 ?_
    refine wq_getr (p := 12) rfl rfl (f := 5) rfl rfl ?_
    refine wp_ldi rfl tm_m1 ?_
    refine wp_lald rfl rfl (tn_in (hz2 h5).1 (hz2 h5).2) ?_
    refine wq_calv [.int (nI n), .long (σ.2.1 12 s.toNatClampNeg)] rfl rfl rfl rfl rfl rfl rfl rfl rfl (th_ffind hn h3 ⟨hT, tv_un_rf, h.2.1⟩) ?_
    rintro _ t ⟨⟨z25, rfl⟩, Ft⟩
    refine wp_go rfl ?_
    exact wp_reti rfl (th_nI rfl) ⟨⟨_, rfl⟩, Ft⟩
set_option maxRecDepth 100000 in
set_option maxHeartbeats 4000000 in
theorem th_xpick {n : Nat} {s k : Int32} {σ : tm_S} (hn : n ≤ 12) (h3 : 3 ≤ n) (hT : tv_TY (tc_T (n : Int)) σ) (h : th_SL n σ) : WM 22 73 [.ref 0, .int s, .int k] σ (fun q s' => (∃ z : Int32, q = some (.int z)) ∧ ∃ t : tm_S, th_FR n [(4, 4), (24, 64), (25, 64), (26, 64), (27, 64)] σ t ∧ (s' = t ∨ ∃ (k : Nat) (r : Int64), th_dg 12 r ∧ s' = tm_sJ t 12 k r)) := by
  have hN0 := th_N0 hT hn
  show WP 22 73 0 [(0, .ref 0), (1, .int s), (2, .int k)] [] σ _
  refine wp_lda rfl tm_m0 ?_
  refine wq_getr (p := 1) rfl rfl (f := 0) rfl rfl ?_
  refine wq_calv [] rfl rfl rfl rfl rfl rfl rfl rfl rfl (th_size) ?_
  rintro _ _ ⟨rfl, rfl⟩
  rw [hN0]
  refine wq_sti [(3, .int (nI n)), (0, .ref 0), (1, .int s), (2, .int k)] rfl rfl ?_
  refine wp_ldi rfl tm_m2 ?_
  refine wq_cals [.int s] rfl rfl rfl rfl rfl rfl (th_isl) ?_
  rintro r9 _ ⟨hr9, rfl⟩
  obtain ⟨z9, rfl, hz9⟩ : ∃ z : Int32, r9 = some (.int z) ∧ (¬ z = 0 → 0 ≤ s.toInt ∧ s.toInt < 6) := by
    rcases hr9 with ⟨rfl, g1, g2⟩ | rfl
    · exact ⟨_, rfl, fun _ => ⟨g1, g2⟩⟩
    · exact ⟨_, rfl, fun e => absurd rfl e⟩
  refine wq_ifeq rfl (fun h12 => ?_) (fun h12 => ?_)
  · have g12 : (z9).toInt = 0 := congrArg Int32.toInt h12
    refine wq_con (x := 0) rfl (by decide) ?_
    exact wp_reti rfl (th_n0 rfl) ⟨⟨_, rfl⟩, σ, ⟨hT, tv_un_rf, h.2.1⟩, Or.inl rfl⟩
  · refine wp_ldi rfl tm_m3 ?_
    refine wq_iflt rfl (fun h16 => ?_) (fun h16 => ?_)
    · have g16 : (k).toInt < 0 := tn_ltI.mp h16
      refine wq_con (x := 0) rfl (by decide) ?_
      exact wp_reti rfl (th_n0 rfl) ⟨⟨_, rfl⟩, σ, ⟨hT, tv_un_rf, h.2.1⟩, Or.inl rfl⟩
    · have g16 : ¬ (k).toInt < 0 := fun g => h16 (tn_ltI.mpr g)
      refine wp_ldi rfl tm_m3 ?_
      refine wp_lda rfl tm_m1 ?_
      refine wq_getr (p := 4) rfl rfl (f := 3) rfl rfl ?_
      refine wp_ldi rfl tm_m0 ?_
      refine wq_calv [.int (nI n)] rfl rfl rfl rfl rfl rfl rfl rfl rfl (th_fcnt hn h3 ⟨hT, tv_un_rf, h.2.1⟩) ?_
      rintro _ t ⟨rfl, Ft, gt⟩
      refine wq_iclt rfl (fun h28 => ?_) (fun h28 => ?_)
      · have g28 : (k).toInt < (t.1 26 n - t.1 25 n).toInt := tn_ltI.mp h28
        refine wp_lda rfl tm_m1 ?_
        refine wq_getr (p := 12) rfl rfl (f := 5) rfl rfl ?_
        refine wp_ldi rfl tm_m2 ?_
        refine wp_lda rfl tm_m1 ?_
        refine wq_getr (p := 4) rfl rfl (f := 3) rfl rfl ?_
        refine wp_ldi rfl tm_m0 ?_
        refine wp_ldi rfl tm_m3 ?_
        refine wq_calv [.int (nI n), .int k] rfl rfl rfl rfl rfl rfl rfl rfl rfl (th_fget hn h3 Ft gt (by change ¬ k.toInt < (0 : Int) at g16; omega) h28) ?_
        rintro _ _ ⟨⟨r44, rfl, d44⟩, rfl⟩
        refine wp_last rfl rfl (tn_in (hz9 h12).1 (hz9 h12).2) ?_
        refine wq_con (x := 1) rfl (by decide) ?_
        exact wp_reti rfl (th_n1 rfl) ⟨⟨_, rfl⟩, t, Ft, Or.inr ⟨_, r44, d44, rfl⟩⟩
      · have g28 : ¬ (k).toInt < (t.1 26 n - t.1 25 n).toInt := fun g => h28 (tn_ltI.mpr g)
        refine wq_con (x := 0) rfl (by decide) ?_
        exact wp_reti rfl (th_n0 rfl) ⟨⟨_, rfl⟩, t, Ft, Or.inl rfl⟩
