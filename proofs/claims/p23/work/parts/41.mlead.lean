/-! ===== lead of the reference ===== -/
set_option maxRecDepth 100000 in
theorem th_pbk : (List.range 4096).all (fun a => (List.range 12).all (fun x => Nat.beq (th_pc (a % 2 ^ (x + 1))) (th_pc (a % 2 ^ x) + cond (Nat.testBit a x) 1 0))) = true := by decide +kernel
theorem th_pb {a x : Nat} (ha : a < 4096) (hx : x < 12) : th_pc (a % 2 ^ (x + 1)) = th_pc (a % 2 ^ x) + bif Nat.testBit a x then 1 else 0 :=
  tv_beq (List.all_eq_true.mp (List.all_eq_true.mp th_pbk a (List.mem_range.mpr ha)) x (List.mem_range.mpr hx))
set_option maxRecDepth 100000 in
theorem th_clrk : (List.range 13).all (fun k => (List.range (2 ^ k)).all (fun T => Nat.beq (th_pc T) k || (Nat.blt (th_pc T) k && (List.range k).any (fun j => !(T.testBit j))))) = true := by decide +kernel
theorem th_clr {k T : Nat} (hk : k ≤ 12) (hT : T < 2 ^ k) : th_pc T = k ∨ (th_pc T < k ∧ ∃ j : Nat, j < k ∧ T.testBit j = false) := by
  have h := List.all_eq_true.mp (List.all_eq_true.mp th_clrk k (List.mem_range.mpr (by omega))) T (List.mem_range.mpr hT)
  rw [Bool.or_eq_true, Bool.and_eq_true] at h
  rcases h with h | ⟨h1, h2⟩
  · exact Or.inl (tv_beq h)
  · obtain ⟨j, j1, j2⟩ := List.any_eq_true.mp h2
    exact Or.inr ⟨Nat.blt_eq.mp h1, j, List.mem_range.mp j1, by simpa using j2⟩
theorem th_pcm {a x : Nat} : th_pc (a % 2 ^ x) ≤ x := by
  by_cases hx : x ≤ 12
  · rcases th_clr hx (Nat.mod_lt a (Nat.two_pow_pos x)) with e | e
    · omega
    · omega
  · have := th_pc12 (a % 2 ^ x)
    omega
/-- steps between notes -/
def th_apI (n x y : Int) : Int := if n < 2 * (if x < y then y - x else x - y) then n - (if x < y then y - x else x - y) else (if x < y then y - x else x - y)
theorem th_ap11 {n x y : Int} (hn : n ≤ 12) (x0 : 0 ≤ x) (x1 : x < n) (y0 : 0 ≤ y) (y1 : y < n) : 0 ≤ th_apI n x y ∧ th_apI n x y ≤ 11 := by
  unfold th_apI
  split <;> split <;> omega
def th_stI (n : Nat) (t : tm_S) (i j : Nat) : Int := th_apI n (t.1 44 i).toInt (t.1 45 j).toInt
set_option maxRecDepth 100000 in
set_option maxHeartbeats 4000000 in
theorem th_apart {d n : Nat} {x y : Int32} {σ : tm_S} (hn : n ≤ 12) (hN1 : σ.1 11 1 = nI n) (x0 : 0 ≤ x.toInt) (x1 : x.toInt < n) (y0 : 0 ≤ y.toInt) (y1 : y.toInt < n) : WM d 178 [.ref 11, .int x, .int y] σ (fun q σ' => (∃ z : Int32, q = some (.int z) ∧ z.toInt = th_apI n x.toInt y.toInt) ∧ σ = σ') := by
  have eN : (nI n).toInt = n := nI_toInt (by omega)
  have k14 : ∀ w : Int32, w.toInt = (if x.toInt < y.toInt then y.toInt - x.toInt else x.toInt - y.toInt) → WP d 178 14 [(0, .ref 11), (1, .int x), (2, .int y)] [.int w] σ (fun q σ' => (∃ z : Int32, q = some (.int z) ∧ z.toInt = th_apI n x.toInt y.toInt) ∧ σ = σ') := by
    intro w hw
    have w0 : 0 ≤ w.toInt ∧ w.toInt < n := by rw [hw]; split <;> omega
    have e2 : (2 * w).toInt = 2 * w.toInt := by rw [tn_mul (by show -2147483648 ≤ 2 * w.toInt; omega) (by show 2 * w.toInt ≤ 2147483647; omega)]; rfl
    have e3 : (nI n - w).toInt = n - w.toInt := by rw [tn_sub (by rw [eN]; omega) (by rw [eN]; omega), eN]
    refine wq_sti [(3, .int w), (0, .ref 11), (1, .int x), (2, .int y)] rfl rfl ?_
    refine wq_con (x := 2) rfl (by decide) ?_
    refine wp_ldi rfl tm_m0 ?_
    refine wq_imul rfl ?_
    refine wp_lda rfl tm_m1 ?_
    refine wq_geti rfl rfl (f := 1) rfl rfl (Or.inl rfl) ?_
    rw [hN1]
    refine wq_icle rfl (fun h22 => ?_) (fun h22 => ?_)
    · have g22 : (2 * w).toInt ≤ (nI n).toInt := tn_leI.mp h22
      refine wp_ldi rfl tm_m0 ?_
      exact wp_reti rfl (th_nI rfl) ⟨⟨_, rfl, by unfold th_apI; rw [← hw, if_neg (by omega)]⟩, rfl⟩
    · have g22 : ¬ (2 * w).toInt ≤ (nI n).toInt := fun g => h22 (tn_leI.mpr g)
      refine wp_lda rfl tm_m1 ?_
      refine wq_geti rfl rfl (f := 1) rfl rfl (Or.inl rfl) ?_
      rw [hN1]
      refine wp_ldi rfl tm_m0 ?_
      refine wq_isub rfl ?_
      refine wp_go rfl ?_
      exact wp_reti rfl (th_nI rfl) ⟨⟨_, rfl, by unfold th_apI; rw [← hw, if_pos (by omega), e3]⟩, rfl⟩
  show WP d 178 0 [(0, .ref 11), (1, .int x), (2, .int y)] [] σ _
  refine wp_ldi rfl tm_m1 ?_
  refine wp_ldi rfl tm_m2 ?_
  refine wq_icge rfl (fun h2 => ?_) (fun h2 => ?_)
  · have g2 : (y).toInt ≤ (x).toInt := tn_leI.mp h2
    refine wp_ldi rfl tm_m1 ?_
    refine wp_ldi rfl tm_m2 ?_
    refine wq_isub rfl ?_
    exact k14 (x - y) (by rw [tn_sub (by omega) (by omega), if_neg (by omega)])
  · have g2 : ¬ (y).toInt ≤ (x).toInt := fun g => h2 (tn_leI.mpr g)
    refine wp_ldi rfl tm_m2 ?_
    refine wp_ldi rfl tm_m1 ?_
    refine wq_isub rfl ?_
    refine wp_go rfl ?_
    exact k14 (y - x) (by rw [tn_sub (by omega) (by omega), if_pos (by omega)])
set_option maxRecDepth 100000 in
set_option maxHeartbeats 4000000 in
theorem th_steps {d n i j : Nat} {t : tm_S} (hn : n ≤ 12) (hT : tv_TY (tc_T (n : Int)) t) (hi : i < 12) (hj : j < 12) (ni : (t.1 44 i).toInt < n) (oj : (t.1 45 j).toInt < n) : WM (d + 1) 183 [.ref 11, .int (nI i), .int (nI j)] t (fun q t' => (∃ z : Int32, q = some (.int z) ∧ z.toInt = th_stI n t i j) ∧ t = t') := by
  have ci : (nI i).toNatClampNeg = i := nI_clamp (by omega)
  have cj : (nI j).toNatClampNeg = j := nI_clamp (by omega)
  have n0 : 0 ≤ (t.1 44 i).toInt := (hT.1 44 i).1
  have o0 : 0 ≤ (t.1 45 j).toInt := (hT.1 45 j).1
  show WP (d + 1) 183 0 [(0, .ref 11), (1, .int (nI i)), (2, .int (nI j))] [] t _
  refine wp_lda rfl tm_m0 ?_
  refine wp_lda rfl tm_m0 ?_
  refine wq_getr (p := 44) rfl rfl (f := 3) rfl rfl ?_
  refine wp_ldi rfl tm_m1 ?_
  refine wp_iald rfl rfl (nI_in hi (by decide)) ?_
  rw [ci]
  refine wp_lda rfl tm_m0 ?_
  refine wq_getr (p := 45) rfl rfl (f := 4) rfl rfl ?_
  refine wp_ldi rfl tm_m2 ?_
  refine wp_iald rfl rfl (nI_in hj (by decide)) ?_
  rw [cj]
  refine wq_calv [.int (t.1 44 i), .int (t.1 45 j)] rfl rfl rfl rfl rfl rfl rfl rfl rfl (th_apart hn (th_N1 hT hn) n0 ni o0 oj) ?_
  rintro _ _ ⟨⟨z, rfl, hz⟩, rfl⟩
  exact wp_reti rfl (th_nI rfl) ⟨⟨z, rfl, hz⟩, rfl⟩
def th_PI (n : Nat) (σ t : tm_S) (ka kb : Nat) : Prop := tv_TY (tc_T (n : Int)) t ∧ tv_un σ t [(11, 0), (44, 64), (45, 64), (46, 64), (47, 64)] ∧ (∀ i : Nat, i < ka → (t.1 44 i).toInt < n) ∧ ∀ i : Nat, i < kb → (t.1 45 i).toInt < n
/-- T's least is attained -/
def th_AT (n k : Nat) (t : tm_S) (T : Nat) : Prop := (t.1 46 T).toInt ≤ 11 * ((k : Int) - th_pc T) ∧ (th_pc T < k → ∃ j : Nat, j < k ∧ T.testBit j = false ∧ th_stI n t (th_pc T) j + (t.1 46 (T ||| 2 ^ j)).toInt = (t.1 46 T).toInt)
def th_LI (n k : Nat) (σ t : tm_S) (c : Nat) : Prop := th_PI n σ t k k ∧ ∀ T : Nat, c ≤ T → T < 2 ^ k → th_AT n k t T
theorem th_or1 {k T j : Nat} (hk : k ≤ 12) (hT : T < 2 ^ k) (hj : j < k) (hb : T.testBit j = false) : T ||| 2 ^ j < 2 ^ k ∧ T < T ||| 2 ^ j ∧ th_pc (T ||| 2 ^ j) = th_pc T + 1 := by
  have h1 : T ||| 2 ^ j < 2 ^ k := Nat.or_lt_two_pow hT (Nat.pow_lt_pow_right (by decide) hj)
  have h4 := th_l12 hk hT
  have h2 := th_set1 h4 (w := j) (by omega) (by rw [(th_bk h4 (by omega)).1, hb]; decide)
  refine ⟨h1, ?_, h2.2.2⟩
  have h3 : T ≤ T ||| 2 ^ j := Nat.left_le_or
  rcases Nat.lt_or_ge T (T ||| 2 ^ j) with g | g
  · exact g
  · have e : T ||| 2 ^ j = T := by omega
    have := h2.2.2
    rw [e] at this
    omega
set_option maxRecDepth 100000 in
set_option maxHeartbeats 4000000 in
theorem th_pair {n a c k : Nat} {σ s : tm_S} (hn : n ≤ 12) (h3 : 3 ≤ n) (ha : a < 2 ^ n) (hc : c < 2 ^ n) (ka : th_pc a = k) (kc : th_pc c = k) (hT : tv_TY (tc_T (n : Int)) s) (hU : tv_un σ s [(11, 0), (44, 64), (45, 64), (46, 64), (47, 64)]) : WM 39 182 [.ref 11, .int (nI a), .int (nI c)] s (fun q t' => q = some (.int (nI k)) ∧ th_LI n k σ t' 0) := by
  have a12 := th_l12 hn ha
  have c12 := th_l12 hn hc
  have k12 : k ≤ 12 := by rw [← ka]; exact th_pc12 a
  have p12 : 2 ^ k ≤ 4096 := Nat.pow_le_pow_right (n := 2) (by decide) k12
  have k77 : ∀ (r : Nat) (m4 : Int32) (t : tm_S), r ≤ 2 ^ k → th_LI n k σ t r → WP 39 182 77 [(5, .int (nI r - 1)), (4, .int m4), (3, .int (nI k)), (0, .ref 11), (1, .int (nI a)), (2, .int (nI c))] [] t (fun q t' => q = some (.int (nI k)) ∧ th_LI n k σ t' 0) := by
    intro r
    induction r with
    | zero =>
      intro m4 t hr L
      refine wp_ldi rfl tm_m0 ?_
      refine wq_iflt rfl (fun h79 => ?_) (fun h79 => absurd (by decide) h79)
      refine wp_ldi rfl tm_m2 ?_
      exact wp_reti rfl (th_nI rfl) ⟨rfl, L⟩
    | succ T ih =>
      intro m4 t hr L
      rw [nI_pred]
      have T12 : T < 4096 := by omega
      have cT : (nI T).toNatClampNeg = T := nI_clamp (by omega)
      have pT : th_pc T ≤ k := by rcases th_clr k12 (show T < 2 ^ k by omega) with e | e <;> omega
      have done : ∀ (u : tm_S) (z7 : Int32), th_PI n σ u k k → (∀ x : Nat, ¬ x = T → u.1 46 x = t.1 46 x) → u.1 44 = t.1 44 → u.1 45 = t.1 45 → th_AT n k u T → WP 39 182 254 [(6, .int (nI (th_pc T))), (5, .int (nI T)), (4, .int m4), (3, .int (nI k)), (0, .ref 11), (1, .int (nI a)), (2, .int (nI c))] [] u (fun q t' => q = some (.int (nI k)) ∧ th_LI n k σ t' 0) := by
        intro u z7 PU e46 e44 e45 AT
        refine wq_inc (c := (-1)) [(5, .int ((nI T) + (-1))), (6, .int (nI (th_pc T))), (4, .int m4), (3, .int (nI k)), (0, .ref 11), (1, .int (nI a)), (2, .int (nI c))] rfl tm_m1 rfl rfl ?_
        refine wp_go rfl ?_
        rw [show nI T + (-1) = nI T - 1 from (Int32.sub_eq_add_neg (nI T) 1).symm]
        refine WP.less (ih m4 u (by omega) ⟨PU, fun x x1 x2 => ?_⟩) (by simp)
        by_cases ex : x = T
        · rw [ex]
          exact AT
        · obtain ⟨q1, q2⟩ := L.2 x (by omega) x2
          unfold th_AT th_stI
          rw [e46 x ex, e44, e45]
          refine ⟨q1, fun hp => ?_⟩
          obtain ⟨jj, j1, j2, j3⟩ := q2 hp
          refine ⟨jj, j1, j2, ?_⟩
          have := (th_or1 k12 x2 j1 j2).2.1
          rw [e46 _ (by omega)]
          exact j3
      have k131 : th_pc T < k → ∀ (mj jj : Nat) (u : tm_S) (z8 : Int32), jj + mj = k → th_PI n σ u k k → (∀ x : Nat, ¬ x = T → u.1 46 x = t.1 46 x) → u.1 44 = t.1 44 → u.1 45 = t.1 45 → (((u.1 46 T).toInt = 10000 ∧ ∀ q : Nat, q < jj → T.testBit q = true) ∨ ∃ q : Nat, q < k ∧ T.testBit q = false ∧ th_stI n u (th_pc T) q + (u.1 46 (T ||| 2 ^ q)).toInt = (u.1 46 T).toInt) → WP 39 182 131 [(7, .int (nI jj)), (6, .int (nI (th_pc T))), (5, .int (nI T)), (4, .int m4), (3, .int (nI k)), (0, .ref 11), (1, .int (nI a)), (2, .int (nI c))] [] u (fun q t' => q = some (.int (nI k)) ∧ th_LI n k σ t' 0) := by
        intro hpk mj
        induction mj with
        | zero =>
          intro jj u z8 hj PU e46 e44 e45 HI
          obtain rfl : jj = k := by omega
          refine wp_ldi rfl tm_m0 ?_
          refine wp_ldi rfl tm_m4 ?_
          refine wq_icge rfl (fun h134 => ?_) (fun h134 => absurd (nI_le (Nat.le_refl _) (by omega)) h134)
          refine WP.less (done u 0 PU e46 e44 e45 ?_) (by simp)
          rcases HI with ⟨q1, q2⟩ | ⟨q, q1, q2, q3⟩
          · exfalso
            rcases th_clr k12 (show T < 2 ^ jj by omega) with e | ⟨-, x, x1, x2⟩
            · omega
            · rw [q2 x x1] at x2
              cases x2
          · have hq := th_or1 k12 (show T < 2 ^ jj by omega) q1 q2
            have b1 := (L.2 _ (by omega) hq.1).1
            rw [← e46 _ (by omega), hq.2.2] at b1
            have b2 := th_ap11 (n := n) (x := (u.1 44 (th_pc T)).toInt) (y := (u.1 45 q).toInt) (by omega) (PU.1.1 44 _).1 (PU.2.2.1 _ hpk) (PU.1.1 45 _).1 (PU.2.2.2 _ q1)
            refine ⟨?_, fun _ => ⟨q, q1, q2, q3⟩⟩
            have q3b := q3
            unfold th_stI at q3b
            omega
        | succ mj ihj =>
          intro jj u z8 hj PU e46 e44 e45 HI
          have b1 := (th_bk T12 (w := jj) (by omega)).1
          have nxt : ∀ (u : tm_S) (z8 : Int32), th_PI n σ u k k → (∀ x : Nat, ¬ x = T → u.1 46 x = t.1 46 x) → u.1 44 = t.1 44 → u.1 45 = t.1 45 → (((u.1 46 T).toInt = 10000 ∧ ∀ q : Nat, q < jj + 1 → T.testBit q = true) ∨ ∃ q : Nat, q < k ∧ T.testBit q = false ∧ th_stI n u (th_pc T) q + (u.1 46 (T ||| 2 ^ q)).toInt = (u.1 46 T).toInt) → WP 39 182 248 [(7, .int (nI jj)), (6, .int (nI (th_pc T))), (5, .int (nI T)), (4, .int m4), (3, .int (nI k)), (0, .ref 11), (1, .int (nI a)), (2, .int (nI c))] [] u (fun q t' => q = some (.int (nI k)) ∧ th_LI n k σ t' 0) := by
            intro u z8 PU e46 e44 e45 HI
            refine wq_inc (c := 1) [(7, .int ((nI jj) + 1)), (6, .int (nI (th_pc T))), (5, .int (nI T)), (4, .int m4), (3, .int (nI k)), (0, .ref 11), (1, .int (nI a)), (2, .int (nI c))] rfl tm_m0 rfl rfl ?_
            refine wp_go rfl ?_
            rw [nI_1]
            exact WP.less (ihj (jj + 1) u z8 (by omega) PU e46 e44 e45 HI) (by simp)
          have k209 : ∀ (u2 : tm_S) (sm : Int32), T.testBit jj = false → th_PI n σ u2 k k → (∀ x : Nat, ¬ x = T → u2.1 46 x = t.1 46 x) → u2.1 44 = t.1 44 → u2.1 45 = t.1 45 → (((u2.1 46 T).toInt = 10000 ∧ ∀ q : Nat, q < jj + 1 → T.testBit q = true) ∨ ∃ q : Nat, q < k ∧ T.testBit q = false ∧ th_stI n u2 (th_pc T) q + (u2.1 46 (T ||| 2 ^ q)).toInt = (u2.1 46 T).toInt) → WP 39 182 209 [(8, .int sm), (7, .int (nI jj)), (6, .int (nI (th_pc T))), (5, .int (nI T)), (4, .int m4), (3, .int (nI k)), (0, .ref 11), (1, .int (nI a)), (2, .int (nI c))] [] u2 (fun q t' => q = some (.int (nI k)) ∧ th_LI n k σ t' 0) := by
            intro u2 sm hb P2 f46 f44 f45 H2
            have hO := th_or1 k12 (show T < 2 ^ k by omega) (show jj < k by omega) hb
            refine wp_ldi rfl tm_m0 ?_
            refine wp_lda rfl tm_m6 ?_
            refine wq_getr (p := 46) rfl rfl (f := 5) rfl rfl ?_
            refine wp_ldi rfl tm_m3 ?_
            refine wp_iald rfl rfl (nI_in T12 (by decide)) ?_
            refine wq_icne rfl (fun h218 => ?_) (fun h218 => ?_)
            · exact WP.less (nxt u2 sm P2 f46 f44 f45 H2) (by simp)
            · refine wp_lda rfl tm_m6 ?_
              refine wq_getr (p := 47) rfl rfl (f := 6) rfl rfl ?_
              refine wp_ldi rfl tm_m3 ?_
              refine wp_lda rfl tm_m6 ?_
              refine wq_getr (p := 47) rfl rfl (f := 6) rfl rfl ?_
              refine wp_ldi rfl tm_m3 ?_
              refine wp_iald rfl rfl (nI_in T12 (by decide)) ?_
              refine wp_lda rfl tm_m6 ?_
              refine wq_getr (p := 47) rfl rfl (f := 6) rfl rfl ?_
              refine wp_ldi rfl tm_m3 ?_
              refine wq_con (x := 1) rfl (by decide) ?_
              refine wp_ldi rfl tm_m1 ?_
              refine wq_ishl rfl ?_
              refine wq_ior rfl ?_
              rw [((th_bk T12 (by omega)).2 hb).1]
              refine wp_iald rfl rfl (nI_in (by omega) (by decide)) ?_
              refine wq_iadd rfl ?_
              refine wp_iast rfl rfl (nI_in T12 (by decide)) ?_
              have v6 : (tm_sI u2 47 (nI T).toNatClampNeg ((u2.1 47 (nI T).toNatClampNeg) + (u2.1 47 (nI (T ||| 2 ^ jj)).toNatClampNeg))).1 46 = u2.1 46 := (tm_sI_ar (by decide)).1
              have v4 : (tm_sI u2 47 (nI T).toNatClampNeg ((u2.1 47 (nI T).toNatClampNeg) + (u2.1 47 (nI (T ||| 2 ^ jj)).toNatClampNeg))).1 44 = u2.1 44 := (tm_sI_ar (by decide)).1
              have v5 : (tm_sI u2 47 (nI T).toNatClampNeg ((u2.1 47 (nI T).toNatClampNeg) + (u2.1 47 (nI (T ||| 2 ^ jj)).toNatClampNeg))).1 45 = u2.1 45 := (tm_sI_ar (by decide)).1
              refine WP.less (nxt (tm_sI u2 47 (nI T).toNatClampNeg ((u2.1 47 (nI T).toNatClampNeg) + (u2.1 47 (nI (T ||| 2 ^ jj)).toNatClampNeg))) sm ⟨tv_TY_row P2.1 (ty := (tv_lo, tv_hi)) (fun _ => rfl) (tn_rng _).1 (tn_rng _).2, tv_un_tr P2.2.1 (tv_un_ar rfl rfl), by rw [v4]; exact P2.2.2.1, by rw [v5]; exact P2.2.2.2⟩ (by rw [v6]; exact f46) (by rw [v4]; exact f44) (by rw [v5]; exact f45) (by unfold th_stI; rw [v4, v5, v6]; exact H2)) (by simp)
          refine wp_ldi rfl tm_m0 ?_
          refine wp_ldi rfl tm_m4 ?_
          refine wq_icge rfl (fun h134 => absurd h134 (nI_ge (by omega) (by omega))) (fun h134 => ?_)
          have g134 : ¬ (nI k).toInt ≤ (nI jj).toInt := fun g => h134 (tn_leI.mpr g)
          refine wp_ldi rfl tm_m1 ?_
          refine wp_ldi rfl tm_m4 ?_
          refine wq_icge rfl (fun h140 => absurd h140 (nI_ge hpk (by omega))) (fun h140 => ?_)
          have g140 : ¬ (nI k).toInt ≤ (nI (th_pc T)).toInt := fun g => h140 (tn_leI.mpr g)
          refine wp_lda rfl tm_m5 ?_
          refine wp_ldi rfl tm_m2 ?_
          refine wp_ldi rfl tm_m0 ?_
          refine wq_calv [.int (nI T), .int (nI jj)] rfl rfl rfl rfl rfl rfl rfl rfl rfl (th_has) ?_
          rintro _ _ ⟨rfl, rfl⟩
          refine wq_ifeq rfl (fun h151 => ?_) (fun h151 => ?_)
          · have g151 : (th_hs (nI T) (nI jj)).toInt = 0 := congrArg Int32.toInt h151
            have hb : T.testBit jj = false := by
              cases hb : T.testBit jj with
              | false => rfl
              | true => rw [b1, hb] at h151; exact absurd h151 (by decide)
            have hO := th_or1 k12 (show T < 2 ^ k by omega) (show jj < k by omega) hb
            have cO : (nI (T ||| 2 ^ jj)).toNatClampNeg = T ||| 2 ^ jj := nI_clamp (by omega)
            have lb : 0 ≤ (u.1 46 (T ||| 2 ^ jj)).toInt ∧ (u.1 46 (T ||| 2 ^ jj)).toInt ≤ 20000 := PU.1.1 46 _
            have lT : 0 ≤ (u.1 46 T).toInt ∧ (u.1 46 T).toInt ≤ 20000 := PU.1.1 46 _
            have b2 := th_ap11 (n := n) (x := (u.1 44 (th_pc T)).toInt) (y := (u.1 45 jj).toInt) (by omega) (PU.1.1 44 _).1 (PU.2.2.1 _ hpk) (PU.1.1 45 _).1 (PU.2.2.2 _ (by omega))
            have b3 : th_stI n u (th_pc T) jj = th_apI n (u.1 44 (th_pc T)).toInt (u.1 45 jj).toInt := rfl
            refine wp_lda rfl tm_m5 ?_
            refine wp_ldi rfl tm_m1 ?_
            refine wp_ldi rfl tm_m0 ?_
            refine wq_calv [.int (nI (th_pc T)), .int (nI jj)] rfl rfl rfl rfl rfl rfl rfl rfl rfl (th_steps hn PU.1 (i := th_pc T) (j := jj) (by omega) (by omega) (PU.2.2.1 _ hpk) (PU.2.2.2 _ (by omega))) ?_
            rintro _ _ ⟨⟨zs, rfl, hzs⟩, rfl⟩
            refine wp_lda rfl tm_m5 ?_
            refine wq_getr (p := 46) rfl rfl (f := 5) rfl rfl ?_
            refine wp_ldi rfl tm_m2 ?_
            refine wq_con (x := 1) rfl (by decide) ?_
            refine wp_ldi rfl tm_m0 ?_
            refine wq_ishl rfl ?_
            refine wq_ior rfl ?_
            rw [((th_bk T12 (by omega)).2 hb).1]
            refine wp_iald rfl rfl (nI_in (by omega) (by decide)) ?_
            rw [cO]
            refine wq_iadd rfl ?_
            have hs : (zs + (u.1 46 (T ||| 2 ^ jj))).toInt = th_stI n u (th_pc T) jj + (u.1 46 (T ||| 2 ^ jj)).toInt := by rw [tn_add (by omega) (by omega), hzs]
            generalize zs + (u.1 46 (T ||| 2 ^ jj)) = sm at hs ⊢
            refine wq_sti [(8, .int sm), (7, .int (nI jj)), (6, .int (nI (th_pc T))), (5, .int (nI T)), (4, .int m4), (3, .int (nI k)), (0, .ref 11), (1, .int (nI a)), (2, .int (nI c))] rfl rfl ?_
            refine wp_ldi rfl tm_m0 ?_
            refine wp_lda rfl tm_m6 ?_
            refine wq_getr (p := 46) rfl rfl (f := 5) rfl rfl ?_
            refine wp_ldi rfl tm_m3 ?_
            refine wp_iald rfl rfl (nI_in T12 (by decide)) ?_
            rw [cT]
            refine wq_icge rfl (fun h189 => ?_) (fun h189 => ?_)
            · have g189 : (u.1 46 T).toInt ≤ (sm).toInt := tn_leI.mp h189
              refine WP.less (k209 u sm hb PU e46 e44 e45 ?_) (by simp)
              rcases HI with ⟨q1, q2⟩ | q
              · exfalso
                have b4 := (L.2 _ (by omega) hO.1).1
                rw [← e46 _ (by omega), hO.2.2] at b4
                omega
              · exact Or.inr q
            · have g189 : ¬ (u.1 46 T).toInt ≤ (sm).toInt := fun g => h189 (tn_leI.mpr g)
              refine wp_lda rfl tm_m6 ?_
              refine wq_getr (p := 46) rfl rfl (f := 5) rfl rfl ?_
              refine wp_ldi rfl tm_m3 ?_
              refine wp_ldi rfl tm_m0 ?_
              refine wp_iast rfl rfl (nI_in T12 (by decide)) ?_
              refine wp_lda rfl tm_m6 ?_
              refine wq_getr (p := 47) rfl rfl (f := 6) rfl rfl ?_
              refine wp_ldi rfl tm_m3 ?_
              refine wq_con (x := 0) rfl (by decide) ?_
              refine wp_iast rfl rfl (nI_in T12 (by decide)) ?_
              have w6 : ∀ x : Nat, (tm_sI (tm_sI u 46 (nI T).toNatClampNeg sm) 47 (nI T).toNatClampNeg 0).1 46 x = if x = T then sm else u.1 46 x := by
                intro x
                rw [tm_gI, if_neg (fun e => absurd e.1 (by decide)), tm_gI, cT]
                by_cases e : x = T
                · rw [if_pos ⟨rfl, e⟩, if_pos e]
                · rw [if_neg (fun z => e z.2), if_neg e]
              have w4 : (tm_sI (tm_sI u 46 (nI T).toNatClampNeg sm) 47 (nI T).toNatClampNeg 0).1 44 = u.1 44 := (tm_sI_ar (by decide)).1.trans (tm_sI_ar (by decide)).1
              have w5 : (tm_sI (tm_sI u 46 (nI T).toNatClampNeg sm) 47 (nI T).toNatClampNeg 0).1 45 = u.1 45 := (tm_sI_ar (by decide)).1.trans (tm_sI_ar (by decide)).1
              refine WP.less (k209 (tm_sI (tm_sI u 46 (nI T).toNatClampNeg sm) 47 (nI T).toNatClampNeg 0) sm hb ⟨tv_TY_row (tv_TY_row PU.1 (ty := (0, 20000)) (fun _ => rfl) (by rw [hs]; show (0 : Int) ≤ _; omega) (by show sm.toInt ≤ (20000 : Int); omega)) (ty := (tv_lo, tv_hi)) (fun _ => rfl) (tn_rng _).1 (tn_rng _).2, tv_un_tr (tv_un_tr PU.2.1 (tv_un_ar rfl rfl)) (tv_un_ar rfl rfl), by rw [w4]; exact PU.2.2.1, by rw [w5]; exact PU.2.2.2⟩ (fun x hx => by rw [w6, if_neg hx]; exact e46 x hx) (by rw [w4]; exact e44) (by rw [w5]; exact e45) (Or.inr ⟨jj, by omega, hb, ?_⟩)) (by simp)
              unfold th_stI
              rw [w6, w6, if_neg (by omega), if_pos rfl, w4, w5, hs]
              rfl
          · refine wp_go rfl ?_
            refine WP.less (nxt u z8 PU e46 e44 e45 ?_) (by simp)
            rcases HI with ⟨q1, q2⟩ | q
            · refine Or.inl ⟨q1, fun q hq => ?_⟩
              by_cases e : q = jj
              · rw [e]
                cases hb : T.testBit jj with
                | true => rfl
                | false => exact absurd (by rw [b1, hb]; rfl) h151
              · exact q2 q (by omega)
            · exact Or.inr q
      have k128 : ∀ u : tm_S, th_PI n σ u k k → (∀ x : Nat, ¬ x = T → u.1 46 x = t.1 46 x) → u.1 44 = t.1 44 → u.1 45 = t.1 45 → (u.1 46 T).toInt = (if th_pc T = k then 0 else 10000) → WP 39 182 128 [(6, .int (nI (th_pc T))), (5, .int (nI T)), (4, .int m4), (3, .int (nI k)), (0, .ref 11), (1, .int (nI a)), (2, .int (nI c))] [] u (fun q t' => q = some (.int (nI k)) ∧ th_LI n k σ t' 0) := by
        intro u PU e46 e44 e45 e0
        by_cases hk : th_pc T = k
        · rw [if_pos hk] at e0
          refine wq_con (x := nI 0) rfl (by decide) ?_
          refine wq_sti [(7, .int (nI 0)), (6, .int (nI (th_pc T))), (5, .int (nI T)), (4, .int m4), (3, .int (nI k)), (0, .ref 11), (1, .int (nI a)), (2, .int (nI c))] rfl rfl ?_
          refine wp_ldi rfl tm_m0 ?_
          refine wp_ldi rfl tm_m4 ?_
          refine wq_icge rfl (fun h134 => ?_) (fun h134 => ?_)
          · exact WP.less (done u 0 PU e46 e44 e45 ⟨by omega, fun g => absurd g (by omega)⟩) (by simp)
          · refine wp_ldi rfl tm_m1 ?_
            refine wp_ldi rfl tm_m4 ?_
            refine wq_icge rfl (fun h140 => ?_) (fun h140 => absurd (nI_le (by omega) (by omega)) h140)
            exact WP.less (done u 0 PU e46 e44 e45 ⟨by omega, fun g => absurd g (by omega)⟩) (by simp)
        · rw [if_neg hk] at e0
          refine wq_con (x := nI 0) rfl (by decide) ?_
          refine wq_sti [(7, .int (nI 0)), (6, .int (nI (th_pc T))), (5, .int (nI T)), (4, .int m4), (3, .int (nI k)), (0, .ref 11), (1, .int (nI a)), (2, .int (nI c))] rfl rfl ?_
          exact WP.less (k131 (by omega) k 0 u 0 (by omega) PU e46 e44 e45 (Or.inl ⟨e0, fun q hq => absurd hq (by omega)⟩)) (by simp)
      refine wp_ldi rfl tm_m0 ?_
      refine wq_iflt rfl (fun h79 => absurd h79 (nI_pos (by omega))) (fun h79 => ?_)
      refine wp_lda rfl tm_m3 ?_
      refine wp_ldi rfl tm_m0 ?_
      refine wq_calv [.int (nI T)] rfl rfl rfl rfl rfl rfl rfl rfl rfl (th_onx T12) ?_
      rintro _ _ ⟨rfl, rfl⟩
      refine wq_sti [(6, .int (nI (th_pc T))), (5, .int (nI T)), (4, .int m4), (3, .int (nI k)), (0, .ref 11), (1, .int (nI a)), (2, .int (nI c))] rfl rfl ?_
      refine wp_lda rfl tm_m4 ?_
      refine wq_getr (p := 46) rfl rfl (f := 5) rfl rfl ?_
      refine wp_ldi rfl tm_m1 ?_
      refine wp_ldi rfl tm_m0 ?_
      refine wp_ldi rfl tm_m3 ?_
      refine wq_icne rfl (fun h99 => ?_) (fun h99 => ?_)
      · refine wq_con (x := 10000) rfl (by decide) ?_
        refine wp_iast rfl rfl (nI_in T12 (by decide)) ?_
        refine wp_lda rfl tm_m4 ?_
        refine wq_getr (p := 47) rfl rfl (f := 6) rfl rfl ?_
        refine wp_ldi rfl tm_m1 ?_
        refine wp_ldi rfl tm_m0 ?_
        refine wp_ldi rfl tm_m3 ?_
        refine wq_icne rfl (fun h119 => ?_) (fun h119 => ?_)
        · refine wq_con (x := 0) rfl (by decide) ?_
          refine wp_iast rfl rfl (nI_in T12 (by decide)) ?_
          have eqk : th_pc T = k ↔ nI (th_pc T) = nI k := ⟨fun e => by rw [e], fun e => (nI_eq (by omega) (by omega)).mp e⟩
          have w6 : ∀ x : Nat, (tm_sI (tm_sI t 46 (nI T).toNatClampNeg 10000) 47 (nI T).toNatClampNeg 0).1 46 x = if x = T then 10000 else t.1 46 x := by
            intro x
            rw [tm_gI, if_neg (fun e => absurd e.1 (by decide)), tm_gI, cT]
            by_cases e : x = T
            · rw [if_pos ⟨rfl, e⟩, if_pos e]
            · rw [if_neg (fun z => e z.2), if_neg e]
          have w4 : (tm_sI (tm_sI t 46 (nI T).toNatClampNeg 10000) 47 (nI T).toNatClampNeg 0).1 44 = t.1 44 := (tm_sI_ar (by decide)).1.trans (tm_sI_ar (by decide)).1
          have w5 : (tm_sI (tm_sI t 46 (nI T).toNatClampNeg 10000) 47 (nI T).toNatClampNeg 0).1 45 = t.1 45 := (tm_sI_ar (by decide)).1.trans (tm_sI_ar (by decide)).1
          refine WP.less (k128 (tm_sI (tm_sI t 46 (nI T).toNatClampNeg 10000) 47 (nI T).toNatClampNeg 0) ⟨tv_TY_row (tv_TY_row L.1.1 (ty := (0, 20000)) (fun _ => rfl) (by decide) (by decide)) (ty := (tv_lo, tv_hi)) (fun _ => rfl) (tn_rng _).1 (tn_rng _).2, tv_un_tr (tv_un_tr L.1.2.1 (tv_un_ar rfl rfl)) (tv_un_ar rfl rfl), by rw [w4]; exact L.1.2.2.1, by rw [w5]; exact L.1.2.2.2⟩ (fun x hx => by rw [w6, if_neg hx]) w4 w5 ?_) (by simp)
          rw [w6, if_pos rfl, if_neg (fun e => h99 (eqk.mp e))]
          rfl
        · refine wq_con (x := 1) rfl (by decide) ?_
          refine wp_go rfl ?_
          refine wp_iast rfl rfl (nI_in T12 (by decide)) ?_
          have eqk : th_pc T = k ↔ nI (th_pc T) = nI k := ⟨fun e => by rw [e], fun e => (nI_eq (by omega) (by omega)).mp e⟩
          have w6 : ∀ x : Nat, (tm_sI (tm_sI t 46 (nI T).toNatClampNeg 10000) 47 (nI T).toNatClampNeg 1).1 46 x = if x = T then 10000 else t.1 46 x := by
            intro x
            rw [tm_gI, if_neg (fun e => absurd e.1 (by decide)), tm_gI, cT]
            by_cases e : x = T
            · rw [if_pos ⟨rfl, e⟩, if_pos e]
            · rw [if_neg (fun z => e z.2), if_neg e]
          have w4 : (tm_sI (tm_sI t 46 (nI T).toNatClampNeg 10000) 47 (nI T).toNatClampNeg 1).1 44 = t.1 44 := (tm_sI_ar (by decide)).1.trans (tm_sI_ar (by decide)).1
          have w5 : (tm_sI (tm_sI t 46 (nI T).toNatClampNeg 10000) 47 (nI T).toNatClampNeg 1).1 45 = t.1 45 := (tm_sI_ar (by decide)).1.trans (tm_sI_ar (by decide)).1
          refine WP.less (k128 (tm_sI (tm_sI t 46 (nI T).toNatClampNeg 10000) 47 (nI T).toNatClampNeg 1) ⟨tv_TY_row (tv_TY_row L.1.1 (ty := (0, 20000)) (fun _ => rfl) (by decide) (by decide)) (ty := (tv_lo, tv_hi)) (fun _ => rfl) (tn_rng _).1 (tn_rng _).2, tv_un_tr (tv_un_tr L.1.2.1 (tv_un_ar rfl rfl)) (tv_un_ar rfl rfl), by rw [w4]; exact L.1.2.2.1, by rw [w5]; exact L.1.2.2.2⟩ (fun x hx => by rw [w6, if_neg hx]) w4 w5 ?_) (by simp)
          rw [w6, if_pos rfl, if_neg (fun e => h99 (eqk.mp e))]
          rfl
      · refine wq_con (x := 0) rfl (by decide) ?_
        refine wp_go rfl ?_
        refine wp_iast rfl rfl (nI_in T12 (by decide)) ?_
        refine wp_lda rfl tm_m4 ?_
        refine wq_getr (p := 47) rfl rfl (f := 6) rfl rfl ?_
        refine wp_ldi rfl tm_m1 ?_
        refine wp_ldi rfl tm_m0 ?_
        refine wp_ldi rfl tm_m3 ?_
        refine wq_icne rfl (fun h119 => ?_) (fun h119 => ?_)
        · refine wq_con (x := 0) rfl (by decide) ?_
          refine wp_iast rfl rfl (nI_in T12 (by decide)) ?_
          have eqk : th_pc T = k ↔ nI (th_pc T) = nI k := ⟨fun e => by rw [e], fun e => (nI_eq (by omega) (by omega)).mp e⟩
          have w6 : ∀ x : Nat, (tm_sI (tm_sI t 46 (nI T).toNatClampNeg 0) 47 (nI T).toNatClampNeg 0).1 46 x = if x = T then 0 else t.1 46 x := by
            intro x
            rw [tm_gI, if_neg (fun e => absurd e.1 (by decide)), tm_gI, cT]
            by_cases e : x = T
            · rw [if_pos ⟨rfl, e⟩, if_pos e]
            · rw [if_neg (fun z => e z.2), if_neg e]
          have w4 : (tm_sI (tm_sI t 46 (nI T).toNatClampNeg 0) 47 (nI T).toNatClampNeg 0).1 44 = t.1 44 := (tm_sI_ar (by decide)).1.trans (tm_sI_ar (by decide)).1
          have w5 : (tm_sI (tm_sI t 46 (nI T).toNatClampNeg 0) 47 (nI T).toNatClampNeg 0).1 45 = t.1 45 := (tm_sI_ar (by decide)).1.trans (tm_sI_ar (by decide)).1
          refine WP.less (k128 (tm_sI (tm_sI t 46 (nI T).toNatClampNeg 0) 47 (nI T).toNatClampNeg 0) ⟨tv_TY_row (tv_TY_row L.1.1 (ty := (0, 20000)) (fun _ => rfl) (by decide) (by decide)) (ty := (tv_lo, tv_hi)) (fun _ => rfl) (tn_rng _).1 (tn_rng _).2, tv_un_tr (tv_un_tr L.1.2.1 (tv_un_ar rfl rfl)) (tv_un_ar rfl rfl), by rw [w4]; exact L.1.2.2.1, by rw [w5]; exact L.1.2.2.2⟩ (fun x hx => by rw [w6, if_neg hx]) w4 w5 ?_) (by simp)
          rw [w6, if_pos rfl, if_pos (eqk.mpr (Classical.not_not.mp h99))]
          rfl
        · refine wq_con (x := 1) rfl (by decide) ?_
          refine wp_go rfl ?_
          refine wp_iast rfl rfl (nI_in T12 (by decide)) ?_
          have eqk : th_pc T = k ↔ nI (th_pc T) = nI k := ⟨fun e => by rw [e], fun e => (nI_eq (by omega) (by omega)).mp e⟩
          have w6 : ∀ x : Nat, (tm_sI (tm_sI t 46 (nI T).toNatClampNeg 0) 47 (nI T).toNatClampNeg 1).1 46 x = if x = T then 0 else t.1 46 x := by
            intro x
            rw [tm_gI, if_neg (fun e => absurd e.1 (by decide)), tm_gI, cT]
            by_cases e : x = T
            · rw [if_pos ⟨rfl, e⟩, if_pos e]
            · rw [if_neg (fun z => e z.2), if_neg e]
          have w4 : (tm_sI (tm_sI t 46 (nI T).toNatClampNeg 0) 47 (nI T).toNatClampNeg 1).1 44 = t.1 44 := (tm_sI_ar (by decide)).1.trans (tm_sI_ar (by decide)).1
          have w5 : (tm_sI (tm_sI t 46 (nI T).toNatClampNeg 0) 47 (nI T).toNatClampNeg 1).1 45 = t.1 45 := (tm_sI_ar (by decide)).1.trans (tm_sI_ar (by decide)).1
          refine WP.less (k128 (tm_sI (tm_sI t 46 (nI T).toNatClampNeg 0) 47 (nI T).toNatClampNeg 1) ⟨tv_TY_row (tv_TY_row L.1.1 (ty := (0, 20000)) (fun _ => rfl) (by decide) (by decide)) (ty := (tv_lo, tv_hi)) (fun _ => rfl) (tn_rng _).1 (tn_rng _).2, tv_un_tr (tv_un_tr L.1.2.1 (tv_un_ar rfl rfl)) (tv_un_ar rfl rfl), by rw [w4]; exact L.1.2.2.1, by rw [w5]; exact L.1.2.2.2⟩ (fun x hx => by rw [w6, if_neg hx]) w4 w5 ?_) (by simp)
          rw [w6, if_pos rfl, if_pos (eqk.mpr (Classical.not_not.mp h99))]
          rfl
  have k8 : ∀ (m x : Nat) (t : tm_S), x + m = n → th_PI n σ t (th_pc (a % 2 ^ x)) (th_pc (c % 2 ^ x)) → WP 39 182 8 [(5, .int (nI x)), (4, .int (nI (th_pc (c % 2 ^ x)))), (3, .int (nI (th_pc (a % 2 ^ x)))), (0, .ref 11), (1, .int (nI a)), (2, .int (nI c))] [] t (fun q t' => q = some (.int (nI k)) ∧ th_LI n k σ t' 0) := by
    intro m
    induction m with
    | zero =>
      intro x t hx PT
      have hN1 := th_N1 PT.1 hn
      obtain rfl : n = x := by omega
      rw [Nat.mod_eq_of_lt ha, Nat.mod_eq_of_lt hc, ka, kc] at PT ⊢
      refine wp_ldi rfl tm_m0 ?_
      refine wp_lda rfl tm_m3 ?_
      refine wq_geti rfl rfl (f := 1) rfl rfl (Or.inl rfl) ?_
      rw [hN1]
      refine wq_icge rfl (fun h14 => ?_) (fun h14 => absurd (nI_le (Nat.le_refl _) (by omega)) h14)
      refine wq_con (x := 1) rfl (by decide) ?_
      refine wp_ldi rfl tm_m2 ?_
      refine wq_ishl rfl ?_
      rw [th_p2 k k12]
      refine wq_con (x := 1) rfl (by decide) ?_
      refine wq_isub rfl ?_
      refine wq_sti [(5, .int ((nI (2 ^ k)) - 1)), (4, .int (nI k)), (3, .int (nI k)), (0, .ref 11), (1, .int (nI a)), (2, .int (nI c))] rfl rfl ?_
      exact WP.less (k77 (2 ^ k) (nI k) t (Nat.le_refl _) ⟨PT, fun T t1 t2 => absurd t2 (by omega)⟩) (by simp)
    | succ m ih =>
      intro x t hx PT
      have hN1 := th_N1 PT.1 hn
      have pa := th_pb a12 (x := x) (by omega)
      have pc := th_pb c12 (x := x) (by omega)
      have ba := (th_bk a12 (w := x) (by omega)).1
      have bc := (th_bk c12 (w := x) (by omega)).1
      have la := th_pcm (a := a) (x := x)
      have lc := th_pcm (a := c) (x := x)
      have k64 : ∀ u : tm_S, th_PI n σ u (th_pc (a % 2 ^ (x + 1))) (th_pc (c % 2 ^ (x + 1))) → WP 39 182 64 [(5, .int (nI x)), (4, .int (nI (th_pc (c % 2 ^ (x + 1))))), (3, .int (nI (th_pc (a % 2 ^ (x + 1))))), (0, .ref 11), (1, .int (nI a)), (2, .int (nI c))] [] u (fun q t' => q = some (.int (nI k)) ∧ th_LI n k σ t' 0) := by
        intro u PU
        refine wq_inc (c := 1) [(5, .int ((nI x) + 1)), (4, .int (nI (th_pc (c % 2 ^ (x + 1))))), (3, .int (nI (th_pc (a % 2 ^ (x + 1))))), (0, .ref 11), (1, .int (nI a)), (2, .int (nI c))] rfl tm_m0 rfl rfl ?_
        refine wp_go rfl ?_
        rw [nI_1]
        exact WP.less (ih (x + 1) u (by omega) PU) (by simp)
      have k39 : ∀ u : tm_S, th_PI n σ u (th_pc (a % 2 ^ (x + 1))) (th_pc (c % 2 ^ x)) → WP 39 182 39 [(5, .int (nI x)), (4, .int (nI (th_pc (c % 2 ^ x)))), (3, .int (nI (th_pc (a % 2 ^ (x + 1))))), (0, .ref 11), (1, .int (nI a)), (2, .int (nI c))] [] u (fun q t' => q = some (.int (nI k)) ∧ th_LI n k σ t' 0) := by
        intro u PU
        refine wp_lda rfl tm_m3 ?_
        refine wp_ldi rfl tm_m5 ?_
        refine wp_ldi rfl tm_m0 ?_
        refine wq_calv [.int (nI c), .int (nI x)] rfl rfl rfl rfl rfl rfl rfl rfl rfl (th_has) ?_
        rintro _ _ ⟨rfl, rfl⟩
        refine wq_ifeq rfl (fun h46 => ?_) (fun h46 => ?_)
        · have e : th_pc (c % 2 ^ (x + 1)) = th_pc (c % 2 ^ x) := by
            rw [pc]
            cases hb : c.testBit x with
            | false => rfl
            | true => rw [bc, hb] at h46; exact absurd h46 (by decide)
          refine WP.less (k64 u ?_) (by rw [e]; simp)
          rw [e]
          exact PU
        · refine wp_lda rfl tm_m3 ?_
          refine wq_getr (p := 45) rfl rfl (f := 4) rfl rfl ?_
          refine wp_ldi rfl tm_m1 ?_
          refine wp_ldi rfl tm_m0 ?_
          refine wp_iast rfl rfl (nI_in (by omega) (by decide)) ?_
          refine wp_ldi rfl tm_m1 ?_
          refine wq_con (x := 1) rfl (by decide) ?_
          refine wq_iadd rfl ?_
          refine wq_sti [(4, .int ((nI (th_pc (c % 2 ^ x))) + 1)), (5, .int (nI x)), (3, .int (nI (th_pc (a % 2 ^ (x + 1))))), (0, .ref 11), (1, .int (nI a)), (2, .int (nI c))] rfl rfl ?_
          have e : th_pc (c % 2 ^ (x + 1)) = th_pc (c % 2 ^ x) + 1 := by
            rw [pc]
            cases hb : c.testBit x with
            | true => rfl
            | false => exact absurd (by rw [bc, hb]; rfl) h46
          have ck : (nI (th_pc (c % 2 ^ x))).toNatClampNeg = th_pc (c % 2 ^ x) := nI_clamp (by omega)
          rw [nI_1]
          refine WP.less (k64 _ ⟨tv_TY_row PU.1 (ty := (0, 11)) (fun _ => rfl) (by rw [nI_toInt (by omega)]; show (0 : Int) ≤ _; omega) (by rw [nI_toInt (by omega)]; show _ ≤ (11 : Int); omega), tv_un_tr PU.2.1 (tv_un_ar rfl rfl), fun i hi => ?_, fun i hi => ?_⟩) (by rw [e]; simp)
          · rw [tm_gI, if_neg (fun e => absurd e.1 (by decide))]
            exact PU.2.2.1 i hi
          · rw [tm_gI, ck]
            split
            · rw [nI_toInt (by omega)]
              omega
            · rename_i g
              exact PU.2.2.2 i (by have : ¬ i = th_pc (c % 2 ^ x) := fun z => g ⟨rfl, z⟩; omega)
      refine wp_ldi rfl tm_m0 ?_
      refine wp_lda rfl tm_m3 ?_
      refine wq_geti rfl rfl (f := 1) rfl rfl (Or.inl rfl) ?_
      rw [hN1]
      refine wq_icge rfl (fun h14 => absurd h14 (nI_ge (by omega) (by omega))) (fun h14 => ?_)
      refine wp_lda rfl tm_m3 ?_
      refine wp_ldi rfl tm_m4 ?_
      refine wp_ldi rfl tm_m0 ?_
      refine wq_calv [.int (nI a), .int (nI x)] rfl rfl rfl rfl rfl rfl rfl rfl rfl (th_has) ?_
      rintro _ _ ⟨rfl, rfl⟩
      refine wq_ifeq rfl (fun h24 => ?_) (fun h24 => ?_)
      · have e : th_pc (a % 2 ^ (x + 1)) = th_pc (a % 2 ^ x) := by
          rw [pa]
          cases hb : a.testBit x with
          | false => rfl
          | true => rw [ba, hb] at h24; exact absurd h24 (by decide)
        refine WP.less (k39 t ?_) (by rw [e]; simp)
        rw [e]
        exact PT
      · refine wp_lda rfl tm_m3 ?_
        refine wq_getr (p := 44) rfl rfl (f := 3) rfl rfl ?_
        refine wp_ldi rfl tm_m2 ?_
        refine wp_ldi rfl tm_m0 ?_
        refine wp_iast rfl rfl (nI_in (by omega) (by decide)) ?_
        refine wp_ldi rfl tm_m2 ?_
        refine wq_con (x := 1) rfl (by decide) ?_
        refine wq_iadd rfl ?_
        refine wq_sti [(3, .int ((nI (th_pc (a % 2 ^ x))) + 1)), (5, .int (nI x)), (4, .int (nI (th_pc (c % 2 ^ x)))), (0, .ref 11), (1, .int (nI a)), (2, .int (nI c))] rfl rfl ?_
        have e : th_pc (a % 2 ^ (x + 1)) = th_pc (a % 2 ^ x) + 1 := by
          rw [pa]
          cases hb : a.testBit x with
          | true => rfl
          | false => exact absurd (by rw [ba, hb]; rfl) h24
        have ck : (nI (th_pc (a % 2 ^ x))).toNatClampNeg = th_pc (a % 2 ^ x) := nI_clamp (by omega)
        rw [nI_1]
        refine WP.less (k39 _ ⟨tv_TY_row PT.1 (ty := (0, 11)) (fun _ => rfl) (by rw [nI_toInt (by omega)]; show (0 : Int) ≤ _; omega) (by rw [nI_toInt (by omega)]; show _ ≤ (11 : Int); omega), tv_un_tr PT.2.1 (tv_un_ar rfl rfl), fun i hi => ?_, fun i hi => ?_⟩) (by rw [e]; simp)
        · rw [tm_gI, ck]
          split
          · rw [nI_toInt (by omega)]
            omega
          · rename_i g
            exact PT.2.2.1 i (by have : ¬ i = th_pc (a % 2 ^ x) := fun z => g ⟨rfl, z⟩; omega)
        · rw [tm_gI, if_neg (fun e => absurd e.1 (by decide))]
          exact PT.2.2.2 i hi
  show WP 39 182 0 [(0, .ref 11), (1, .int (nI a)), (2, .int (nI c))] [] s _
  have z0 : ∀ q : Nat, th_pc (q % 2 ^ 0) = 0 := fun q => by rw [Nat.pow_zero, Nat.mod_one]; rfl
  refine wq_con (x := nI 0) rfl (by decide) ?_
  refine wq_sti [(3, .int (nI 0)), (0, .ref 11), (1, .int (nI a)), (2, .int (nI c))] rfl rfl ?_
  refine wq_con (x := nI 0) rfl (by decide) ?_
  refine wq_sti [(4, .int (nI 0)), (3, .int (nI 0)), (0, .ref 11), (1, .int (nI a)), (2, .int (nI c))] rfl rfl ?_
  refine wq_con (x := nI 0) rfl (by decide) ?_
  refine wq_sti [(5, .int (nI 0)), (4, .int (nI 0)), (3, .int (nI 0)), (0, .ref 11), (1, .int (nI a)), (2, .int (nI c))] rfl rfl ?_
  refine WP.less (k8 n 0 s (by omega) ⟨hT, hU, fun i hi => ?_, fun i hi => ?_⟩) (by rw [z0, z0]; simp)
  · rw [z0] at hi
    omega
  · rw [z0] at hi
    omega
set_option maxRecDepth 100000 in
set_option maxHeartbeats 4000000 in
theorem th_mlead {n : Nat} {a2 c2 wh : Int32} {σ : tm_S} (hn : n ≤ 12) (h3 : 3 ≤ n) (hT : tv_TY (tc_T (n : Int)) σ) : WM 40 181 [.ref 11, .int a2, .int c2, .int wh] σ (fun q t' => (∃ z : Int32, q = some (.int z)) ∧ tv_TY (tc_T (n : Int)) t' ∧ tv_un σ t' [(11, 0), (44, 64), (45, 64), (46, 64), (47, 64)]) := by
  have k90 : ∀ (k : Nat) (x1 x2 : Int32) (t : tm_S), k ≤ 12 → th_LI n k σ t 0 → 2 ≤ wh.toInt → (wh.toInt - 2 < k) → ∀ (m i jo T : Nat), wh.toInt - 2 < i + m → i ≤ 13 → T < 2 ^ k → th_pc T = i → jo < 12 → WP 40 181 90 [(7, .int (nI i)), (6, .int (nI jo)), (5, .int (nI T)), (4, .int (nI k)), (0, .ref 11), (1, .int x1), (2, .int x2), (3, .int wh)] [] t (fun q t' => (∃ z : Int32, q = some (.int z)) ∧ tv_TY (tc_T (n : Int)) t' ∧ tv_un σ t' [(11, 0), (44, 64), (45, 64), (46, 64), (47, 64)]) := by
    intro k x1 x2 t k12 L w2 wk m
    have e2 : (wh - 2).toInt = wh.toInt - 2 := by rw [tn_sub (by show -2147483648 ≤ wh.toInt - 2; omega) (by have := (tn_rng wh).2; show wh.toInt - 2 ≤ 2147483647; omega)]; rfl
    have p12 : 2 ^ k ≤ 4096 := Nat.pow_le_pow_right (n := 2) (by decide) k12
    induction m with
    | zero =>
      intro i jo T hm hi hT2 hp hj
      have eI : (nI i).toInt = i := nI_toInt (by omega)
      refine wp_ldi rfl tm_m0 ?_
      refine wp_ldi rfl tm_m7 ?_
      refine wq_con (x := 2) rfl (by decide) ?_
      refine wq_isub rfl ?_
      refine wq_icgt rfl (fun h95 => ?_) (fun h95 => absurd (tn_ltI.mpr (by rw [e2, eI]; omega)) h95)
      refine wp_lda rfl tm_m4 ?_
      refine wq_getr (p := 45) rfl rfl (f := 4) rfl rfl ?_
      refine wp_ldi rfl tm_m1 ?_
      refine wp_iald rfl rfl (nI_in hj (by decide)) ?_
      exact wp_reti rfl (th_nI rfl) ⟨⟨_, rfl⟩, L.1.1, L.1.2.1⟩
    | succ m ih =>
      intro i jo T hm hi hT2 hp hj
      have eI : (nI i).toInt = i := nI_toInt (by omega)
      have T12 : T < 4096 := by omega
      have cT : (nI T).toNatClampNeg = T := nI_clamp (by omega)
      have k101 : (i : Int) ≤ wh.toInt - 2 → ∀ q : Nat, q < k → T.testBit q = false → th_stI n t i q + (t.1 46 (T ||| 2 ^ q)).toInt = (t.1 46 T).toInt → ∀ (mj jj : Nat), jj + mj = q → WP 40 181 101 [(7, .int (nI i)), (6, .int (nI jj)), (5, .int (nI T)), (4, .int (nI k)), (0, .ref 11), (1, .int x1), (2, .int x2), (3, .int wh)] [] t (fun q t' => (∃ z : Int32, q = some (.int z)) ∧ tv_TY (tc_T (n : Int)) t' ∧ tv_un σ t' [(11, 0), (44, 64), (45, 64), (46, 64), (47, 64)]) := by
        intro hiw q q1 q2 q3 mj
        induction mj with
        | zero =>
          intro jj hjq
          have b1 := (th_bk T12 (w := jj) (by omega)).1
          obtain rfl : jj = q := by omega
          refine wp_lda rfl tm_m4 ?_
          refine wp_ldi rfl tm_m2 ?_
          refine wp_ldi rfl tm_m1 ?_
          refine wq_calv [.int (nI T), .int (nI jj)] rfl rfl rfl rfl rfl rfl rfl rfl rfl (th_has) ?_
          rintro _ _ ⟨rfl, rfl⟩
          refine wq_ifne rfl (fun h109 => absurd (by rw [b1, q2]; rfl) h109) (fun h109 => ?_)
          have hb : T.testBit jj = false := by
            cases hb : T.testBit jj with
            | false => rfl
            | true => exact absurd (by rw [b1, hb]; decide) h109
          have hO := th_or1 k12 hT2 (show jj < k by omega) hb
          have cO : (nI (T ||| 2 ^ jj)).toNatClampNeg = T ||| 2 ^ jj := nI_clamp (by omega)
          have lb : 0 ≤ (t.1 46 (T ||| 2 ^ jj)).toInt ∧ (t.1 46 (T ||| 2 ^ jj)).toInt ≤ 20000 := L.1.1.1 46 _
          have b2 := th_ap11 (n := n) (x := (t.1 44 i).toInt) (y := (t.1 45 jj).toInt) (by omega) (L.1.1.1 44 _).1 (L.1.2.2.1 _ (by omega)) (L.1.1.1 45 _).1 (L.1.2.2.2 _ (by omega))
          have b3 : th_stI n t i jj = th_apI n (t.1 44 i).toInt (t.1 45 jj).toInt := rfl
          refine wp_lda rfl tm_m4 ?_
          refine wp_ldi rfl tm_m0 ?_
          refine wp_ldi rfl tm_m1 ?_
          refine wq_calv [.int (nI i), .int (nI jj)] rfl rfl rfl rfl rfl rfl rfl rfl rfl (th_steps hn L.1.1 (i := i) (j := jj) (by omega) (by omega) (L.1.2.2.1 _ (by omega)) (L.1.2.2.2 _ (by omega))) ?_
          rintro _ _ ⟨⟨zs, rfl, hzs⟩, rfl⟩
          refine wp_lda rfl tm_m4 ?_
          refine wq_getr (p := 46) rfl rfl (f := 5) rfl rfl ?_
          refine wp_ldi rfl tm_m2 ?_
          refine wq_con (x := 1) rfl (by decide) ?_
          refine wp_ldi rfl tm_m1 ?_
          refine wq_ishl rfl ?_
          refine wq_ior rfl ?_
          rw [((th_bk T12 (by omega)).2 hb).1]
          refine wp_iald rfl rfl (nI_in (by omega) (by decide)) ?_
          rw [cO]
          refine wq_iadd rfl ?_
          have hs : (zs + (t.1 46 (T ||| 2 ^ jj))).toInt = th_stI n t i jj + (t.1 46 (T ||| 2 ^ jj)).toInt := by rw [tn_add (by omega) (by omega), hzs]
          generalize zs + (t.1 46 (T ||| 2 ^ jj)) = sm at hs ⊢
          refine wp_lda rfl tm_m4 ?_
          refine wq_getr (p := 46) rfl rfl (f := 5) rfl rfl ?_
          refine wp_ldi rfl tm_m2 ?_
          refine wp_iald rfl rfl (nI_in T12 (by decide)) ?_
          rw [cT]
          refine wq_iceq rfl (fun h140 => ?_) (fun h140 => absurd (Int32.toInt_inj.mp (by omega)) h140)
          refine wp_ldi rfl tm_m2 ?_
          refine wq_con (x := 1) rfl (by decide) ?_
          refine wp_ldi rfl tm_m1 ?_
          refine wq_ishl rfl ?_
          refine wq_ior rfl ?_
          rw [((th_bk T12 (by omega)).2 hb).1]
          refine wq_sti [(5, .int (nI (T ||| 2 ^ jj))), (7, .int (nI i)), (6, .int (nI jj)), (4, .int (nI k)), (0, .ref 11), (1, .int x1), (2, .int x2), (3, .int wh)] rfl rfl ?_
          refine wq_inc (c := 1) [(7, .int ((nI i) + 1)), (5, .int (nI (T ||| 2 ^ jj))), (6, .int (nI jj)), (4, .int (nI k)), (0, .ref 11), (1, .int x1), (2, .int x2), (3, .int wh)] rfl tm_m1 rfl rfl ?_
          refine wp_go rfl ?_
          rw [nI_1]
          exact WP.less (ih (i + 1) jj (T ||| 2 ^ jj) (by omega) (by omega) hO.1 (by omega) (by omega)) (by simp)
        | succ mj ihj =>
          intro jj hjq
          have b1 := (th_bk T12 (w := jj) (by omega)).1
          refine wp_lda rfl tm_m4 ?_
          refine wp_ldi rfl tm_m2 ?_
          refine wp_ldi rfl tm_m1 ?_
          refine wq_calv [.int (nI T), .int (nI jj)] rfl rfl rfl rfl rfl rfl rfl rfl rfl (th_has) ?_
          rintro _ _ ⟨rfl, rfl⟩
          refine wq_ifne rfl (fun h109 => ?_) (fun h109 => ?_)
          · refine wp_ldi rfl tm_m1 ?_
            refine wq_con (x := 1) rfl (by decide) ?_
            refine wq_iadd rfl ?_
            refine wq_sti [(6, .int ((nI jj) + 1)), (7, .int (nI i)), (5, .int (nI T)), (4, .int (nI k)), (0, .ref 11), (1, .int x1), (2, .int x2), (3, .int wh)] rfl rfl ?_
            refine wp_go rfl ?_
            rw [nI_1]
            exact WP.less (ihj (jj + 1) (by omega)) (by simp)
          · have hb : T.testBit jj = false := by
              cases hb : T.testBit jj with
              | false => rfl
              | true => exact absurd (by rw [b1, hb]; decide) h109
            have hO := th_or1 k12 hT2 (show jj < k by omega) hb
            have cO : (nI (T ||| 2 ^ jj)).toNatClampNeg = T ||| 2 ^ jj := nI_clamp (by omega)
            have lb : 0 ≤ (t.1 46 (T ||| 2 ^ jj)).toInt ∧ (t.1 46 (T ||| 2 ^ jj)).toInt ≤ 20000 := L.1.1.1 46 _
            have b2 := th_ap11 (n := n) (x := (t.1 44 i).toInt) (y := (t.1 45 jj).toInt) (by omega) (L.1.1.1 44 _).1 (L.1.2.2.1 _ (by omega)) (L.1.1.1 45 _).1 (L.1.2.2.2 _ (by omega))
            have b3 : th_stI n t i jj = th_apI n (t.1 44 i).toInt (t.1 45 jj).toInt := rfl
            refine wp_lda rfl tm_m4 ?_
            refine wp_ldi rfl tm_m0 ?_
            refine wp_ldi rfl tm_m1 ?_
            refine wq_calv [.int (nI i), .int (nI jj)] rfl rfl rfl rfl rfl rfl rfl rfl rfl (th_steps hn L.1.1 (i := i) (j := jj) (by omega) (by omega) (L.1.2.2.1 _ (by omega)) (L.1.2.2.2 _ (by omega))) ?_
            rintro _ _ ⟨⟨zs, rfl, hzs⟩, rfl⟩
            refine wp_lda rfl tm_m4 ?_
            refine wq_getr (p := 46) rfl rfl (f := 5) rfl rfl ?_
            refine wp_ldi rfl tm_m2 ?_
            refine wq_con (x := 1) rfl (by decide) ?_
            refine wp_ldi rfl tm_m1 ?_
            refine wq_ishl rfl ?_
            refine wq_ior rfl ?_
            rw [((th_bk T12 (by omega)).2 hb).1]
            refine wp_iald rfl rfl (nI_in (by omega) (by decide)) ?_
            rw [cO]
            refine wq_iadd rfl ?_
            have hs : (zs + (t.1 46 (T ||| 2 ^ jj))).toInt = th_stI n t i jj + (t.1 46 (T ||| 2 ^ jj)).toInt := by rw [tn_add (by omega) (by omega), hzs]
            generalize zs + (t.1 46 (T ||| 2 ^ jj)) = sm at hs ⊢
            refine wp_lda rfl tm_m4 ?_
            refine wq_getr (p := 46) rfl rfl (f := 5) rfl rfl ?_
            refine wp_ldi rfl tm_m2 ?_
            refine wp_iald rfl rfl (nI_in T12 (by decide)) ?_
            rw [cT]
            refine wq_iceq rfl (fun h140 => ?_) (fun h140 => ?_)
            · refine wp_ldi rfl tm_m2 ?_
              refine wq_con (x := 1) rfl (by decide) ?_
              refine wp_ldi rfl tm_m1 ?_
              refine wq_ishl rfl ?_
              refine wq_ior rfl ?_
              rw [((th_bk T12 (by omega)).2 hb).1]
              refine wq_sti [(5, .int (nI (T ||| 2 ^ jj))), (7, .int (nI i)), (6, .int (nI jj)), (4, .int (nI k)), (0, .ref 11), (1, .int x1), (2, .int x2), (3, .int wh)] rfl rfl ?_
              refine wq_inc (c := 1) [(7, .int ((nI i) + 1)), (5, .int (nI (T ||| 2 ^ jj))), (6, .int (nI jj)), (4, .int (nI k)), (0, .ref 11), (1, .int x1), (2, .int x2), (3, .int wh)] rfl tm_m1 rfl rfl ?_
              refine wp_go rfl ?_
              rw [nI_1]
              exact WP.less (ih (i + 1) jj (T ||| 2 ^ jj) (by omega) (by omega) hO.1 (by omega) (by omega)) (by simp)
            · refine wp_ldi rfl tm_m1 ?_
              refine wq_con (x := 1) rfl (by decide) ?_
              refine wq_iadd rfl ?_
              refine wq_sti [(6, .int ((nI jj) + 1)), (7, .int (nI i)), (5, .int (nI T)), (4, .int (nI k)), (0, .ref 11), (1, .int x1), (2, .int x2), (3, .int wh)] rfl rfl ?_
              refine wp_go rfl ?_
              rw [nI_1]
              exact WP.less (ihj (jj + 1) (by omega)) (by simp)
      refine wp_ldi rfl tm_m0 ?_
      refine wp_ldi rfl tm_m7 ?_
      refine wq_con (x := 2) rfl (by decide) ?_
      refine wq_isub rfl ?_
      refine wq_icgt rfl (fun h95 => ?_) (fun h95 => ?_)
      · refine wp_lda rfl tm_m4 ?_
        refine wq_getr (p := 45) rfl rfl (f := 4) rfl rfl ?_
        refine wp_ldi rfl tm_m1 ?_
        refine wp_iald rfl rfl (nI_in hj (by decide)) ?_
        exact wp_reti rfl (th_nI rfl) ⟨⟨_, rfl⟩, L.1.1, L.1.2.1⟩
      · refine wq_con (x := nI 0) rfl (by decide) ?_
        refine wq_sti [(6, .int (nI 0)), (7, .int (nI i)), (5, .int (nI T)), (4, .int (nI k)), (0, .ref 11), (1, .int x1), (2, .int x2), (3, .int wh)] rfl rfl ?_
        have hiw : (i : Int) ≤ wh.toInt - 2 := by
          rw [tn_ltI, e2, eI] at h95
          omega
        obtain ⟨q, q1, q2, q3⟩ := (L.2 T (by omega) hT2).2 (by omega)
        rw [hp] at q3
        exact WP.less (k101 hiw q q1 q2 q3 q 0 (by omega)) (by simp)
  show WP 40 181 0 [(0, .ref 11), (1, .int a2), (2, .int c2), (3, .int wh)] [] σ _
  have T0 : tv_TY (tc_T (n : Int)) (tm_sI σ 11 0 0) := tv_TY_sI hT tv_z0 tv_z1
  have U0 : tv_un σ (tm_sI σ 11 0 0) [(11, 0), (44, 64), (45, 64), (46, 64), (47, 64)] := tv_un_fI rfl
  have hN1 := th_N1 T0 hn
  refine wp_lda rfl tm_m0 ?_
  refine wq_con (x := 0) rfl (by decide) ?_
  refine wq_puti rfl rfl (f := 0) rfl rfl ?_
  refine wp_lda rfl tm_m0 ?_
  refine wp_ldi rfl tm_m1 ?_
  refine wq_calv [.int a2] rfl rfl rfl rfl rfl rfl rfl rfl rfl (th_mset hn hN1) ?_
  rintro r7 _ ⟨hr7, rfl⟩
  obtain ⟨z7, rfl, hz7⟩ : ∃ z : Int32, r7 = some (.int z) ∧ (¬ z = 0 → ∃ a : Nat, a2 = nI a ∧ a < 2 ^ n) := by
    rcases hr7 with ⟨rfl, g⟩ | rfl
    · exact ⟨_, rfl, fun _ => g⟩
    · exact ⟨_, rfl, fun e => absurd rfl e⟩
  refine wq_ifeq rfl (fun h10 => ?_) (fun h10 => ?_)
  · refine wq_con (x := (-1)) rfl (by decide) ?_
    exact wp_reti rfl (th_nI rfl) ⟨⟨_, rfl⟩, T0, U0⟩
  · refine wp_lda rfl tm_m0 ?_
    refine wp_ldi rfl tm_m2 ?_
    refine wq_calv [.int c2] rfl rfl rfl rfl rfl rfl rfl rfl rfl (th_mset hn hN1) ?_
    rintro r15 _ ⟨hr15, rfl⟩
    obtain ⟨z15, rfl, hz15⟩ : ∃ z : Int32, r15 = some (.int z) ∧ (¬ z = 0 → ∃ a : Nat, c2 = nI a ∧ a < 2 ^ n) := by
      rcases hr15 with ⟨rfl, g⟩ | rfl
      · exact ⟨_, rfl, fun _ => g⟩
      · exact ⟨_, rfl, fun e => absurd rfl e⟩
    refine wq_ifeq rfl (fun h18 => ?_) (fun h18 => ?_)
    · refine wq_con (x := (-1)) rfl (by decide) ?_
      exact wp_reti rfl (th_nI rfl) ⟨⟨_, rfl⟩, T0, U0⟩
    · obtain ⟨a, rfl, ha⟩ := hz7 h10
      obtain ⟨c, rfl, hc⟩ := hz15 h18
      have a12 := th_l12 hn ha
      have c12 := th_l12 hn hc
      refine wp_lda rfl tm_m0 ?_
      refine wp_ldi rfl tm_m1 ?_
      refine wq_calv [.int (nI a)] rfl rfl rfl rfl rfl rfl rfl rfl rfl (th_onx a12) ?_
      rintro _ _ ⟨rfl, rfl⟩
      refine wp_lda rfl tm_m0 ?_
      refine wp_ldi rfl tm_m2 ?_
      refine wq_calv [.int (nI c)] rfl rfl rfl rfl rfl rfl rfl rfl rfl (th_onx c12) ?_
      rintro _ _ ⟨rfl, rfl⟩
      refine wq_icne rfl (fun h31 => ?_) (fun h31 => ?_)
      · refine wq_con (x := (-1)) rfl (by decide) ?_
        exact wp_reti rfl (th_nI rfl) ⟨⟨_, rfl⟩, T0, U0⟩
      · have g31 : (nI (th_pc a)).toInt = (nI (th_pc c)).toInt := congrArg Int32.toInt (Classical.not_not.mp h31)
        refine wp_ldi rfl tm_m3 ?_
        refine wq_ifge rfl (fun h35 => ?_) (fun h35 => ?_)
        · have g35 : 0 ≤ (wh).toInt := tn_leI.mp h35
          have kk : th_pc c = th_pc a := ((nI_eq (by have := th_pc12 a; omega) (by have := th_pc12 c; omega)).mp (Classical.not_not.mp h31)).symm
          have k12 := th_pc12 a
          refine wp_lda rfl tm_m0 ?_
          refine wp_ldi rfl tm_m1 ?_
          refine wp_ldi rfl tm_m2 ?_
          refine wq_calv [.int (nI a), .int (nI c)] rfl rfl rfl rfl rfl rfl rfl rfl rfl (th_pair hn h3 ha hc rfl kk T0 U0) ?_
          rintro _ t ⟨rfl, L⟩
          refine wq_sti [(4, .int (nI (th_pc a))), (0, .ref 11), (1, .int (nI a)), (2, .int (nI c)), (3, .int wh)] rfl rfl ?_
          refine wp_ldi rfl tm_m4 ?_
          refine wq_ifne rfl (fun h49 => ?_) (fun h49 => ?_)
          · refine wp_ldi rfl tm_m4 ?_
            refine wq_con (x := 1) rfl (by decide) ?_
            refine wq_icne rfl (fun h61 => ?_) (fun h61 => ?_)
            · refine wp_ldi rfl tm_m4 ?_
              refine wq_con (x := 2) rfl (by decide) ?_
              refine wq_isub rfl ?_
              refine wp_ldi rfl tm_m0 ?_
              refine wq_iclt rfl (fun h76 => ?_) (fun h76 => ?_)
              · have g76 : (wh - 2).toInt < (nI (th_pc a)).toInt := tn_ltI.mp h76
                refine wq_con (x := nI 0) rfl (by decide) ?_
                refine wq_sti [(5, .int (nI 0)), (4, .int (nI (th_pc a))), (0, .ref 11), (1, .int (nI a)), (2, .int (nI c)), (3, .int wh)] rfl rfl ?_
                refine wq_con (x := nI 0) rfl (by decide) ?_
                refine wq_sti [(6, .int (nI 0)), (5, .int (nI 0)), (4, .int (nI (th_pc a))), (0, .ref 11), (1, .int (nI a)), (2, .int (nI c)), (3, .int wh)] rfl rfl ?_
                refine wq_con (x := nI 0) rfl (by decide) ?_
                refine wq_sti [(7, .int (nI 0)), (6, .int (nI 0)), (5, .int (nI 0)), (4, .int (nI (th_pc a))), (0, .ref 11), (1, .int (nI a)), (2, .int (nI c)), (3, .int wh)] rfl rfl ?_
                have w0 : ¬ wh.toInt = 0 := fun e => h49 (Int32.toInt_inj.mp e)
                have w1 : ¬ wh.toInt = 1 := fun e => h61 (Int32.toInt_inj.mp e)
                have w2 : 0 ≤ wh.toInt := by change (0 : Int) ≤ wh.toInt at g35; exact g35
                have e2 : (wh - 2).toInt = wh.toInt - 2 := by rw [tn_sub (by show -2147483648 ≤ wh.toInt - 2; omega) (by have := (tn_rng wh).2; show wh.toInt - 2 ≤ 2147483647; omega)]; rfl
                rw [e2, nI_toInt (by omega)] at g76
                exact WP.less (k90 (th_pc a) (nI a) (nI c) t k12 L (by omega) (by omega) 13 0 0 0 (by omega) (by omega) (Nat.two_pow_pos _) rfl (by decide)) (by simp)
              · have g76 : ¬ (wh - 2).toInt < (nI (th_pc a)).toInt := fun g => h76 (tn_ltI.mpr g)
                refine wq_con (x := (-1)) rfl (by decide) ?_
                exact wp_reti rfl (th_nI rfl) ⟨⟨_, rfl⟩, L.1.1, L.1.2.1⟩
            · have g61 : (wh).toInt = 1 := congrArg Int32.toInt (Classical.not_not.mp h61)
              refine wp_lda rfl tm_m1 ?_
              refine wq_getr (p := 47) rfl rfl (f := 6) rfl rfl ?_
              refine wq_con (x := 0) rfl (by decide) ?_
              refine wp_iald rfl rfl (tn_in (by decide) (by decide)) ?_
              exact wp_reti rfl (th_nI rfl) ⟨⟨_, rfl⟩, L.1.1, L.1.2.1⟩
          · have g49 : (wh).toInt = 0 := congrArg Int32.toInt (Classical.not_not.mp h49)
            refine wp_lda rfl tm_m1 ?_
            refine wq_getr (p := 46) rfl rfl (f := 5) rfl rfl ?_
            refine wq_con (x := 0) rfl (by decide) ?_
            refine wp_iald rfl rfl (tn_in (by decide) (by decide)) ?_
            exact wp_reti rfl (th_nI rfl) ⟨⟨_, rfl⟩, L.1.1, L.1.2.1⟩
        · have g35 : ¬ 0 ≤ (wh).toInt := fun g => h35 (tn_leI.mpr g)
          refine wq_con (x := (-1)) rfl (by decide) ?_
          exact wp_reti rfl (th_nI rfl) ⟨⟨_, rfl⟩, T0, U0⟩
