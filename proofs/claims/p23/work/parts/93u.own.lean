/-! ===== own, within: what both answer ===== -/
theorem tb_swd {l : List (Int × Nat)} {a : Nat} {x : Int} (h : ∀ q ∈ l, ¬ q.1 = x) : tb_sw l a x = a := by
  induction l with
  | nil => rfl
  | cons q t ih =>
    show (if q.1 = x then q.2 else tb_sw t a x) = a
    rw [if_neg (h q List.mem_cons_self)]
    exact ih (fun r hr => h r (List.mem_cons_of_mem _ hr))
def tg_gp (x : Int32) : Prop := ∃ g : Nat, x = nI g ∧ g ≤ 2
def tg_J (n g a m t : Nat) : List Nat := tg_I n g a m ++ (List.range t).map (fun s => th_im n a m s n)
theorem tg_J0 {n g a m : Nat} : tg_J n g a m 0 = tg_I n g a m := List.append_nil _
theorem tg_J1 {n g a m t : Nat} : tg_J n g a m (t + 1) = tg_J n g a m t ++ [th_im n a m t n] := by
  unfold tg_J
  rw [List.range_succ, List.map_append, List.append_assoc]
  rfl
theorem tg_Jn {n g a m : Nat} (h : th_fac n g m = true) : tg_J n g a m n = tg_I n g a (m + 1) := by
  show _ = tg_I n g a m ++ (if th_fac n g m = true then _ else _)
  rw [if_pos h]
  rfl
theorem tg_Is {n g a m : Nat} (h : ¬ th_fac n g m = true) : tg_I n g a (m + 1) = tg_I n g a m := by
  show tg_I n g a m ++ (if th_fac n g m = true then _ else _) = _
  rw [if_neg h, List.append_nil]
theorem tg_I1 {n g a : Nat} : tg_I n g a 1 = [] := by
  rw [tg_Is (fun h => by have := th_fac_lt h; omega)]
  rfl
theorem tg_len {n g a : Nat} : ∀ k : Nat, (tg_I n g a k).length ≤ k * n
  | 0 => Nat.zero_le _
  | k + 1 => by
    have ih := tg_len (n := n) (g := g) (a := a) k
    rw [Nat.add_mul, Nat.one_mul]
    by_cases h : th_fac n g k = true
    · rw [← tg_Jn h]
      unfold tg_J
      rw [List.length_append, List.length_map, List.length_range]
      omega
    · rw [tg_Is h]
      omega
theorem tg_Jl {n g a m t : Nat} (hn : n ≤ 12) (hm : m < n) (ht : t ≤ n) : (tg_J n g a m t).length ≤ 144 := by
  have h1 := tg_len (n := n) (g := g) (a := a) m
  have h2 : m * n ≤ 11 * 12 := Nat.mul_le_mul (by omega) hn
  unfold tg_J
  rw [List.length_append, List.length_map, List.length_range]
  omega
theorem tg_Il {n g a : Nat} (hn : n ≤ 12) : (tg_I n g a n).length ≤ 144 := by
  have h1 := tg_len (n := n) (g := g) (a := a) n
  have h2 : n * n ≤ 12 * 12 := Nat.mul_le_mul hn hn
  omega
theorem tg_c1 {l : List Nat} {p : Nat → Bool} {v : Nat} : (l ++ [v]).countP p = l.countP p + cond (p v) 1 0 := by
  rw [List.countP_append, List.countP_singleton]
  cases p v <;> rfl
theorem tg_msk {v c : Nat} (hv : v < 4096) (hc : c < 4096) : (nI v &&& (nI c ^^^ (-1)) = 0) ↔ tg_sub v c = true := by
  have em : (-1 : Int32).toBitVec.toNat = 2 ^ 32 - 1 := by decide
  have e1 : (nI v &&& (nI c ^^^ (-1))).toBitVec.toNat = v &&& (c ^^^ (2 ^ 32 - 1)) := by rw [tn_and, tn_xor, th_nn (by omega), th_nn (by omega), em]
  have hb : ∀ i : Nat, (v &&& (c ^^^ (2 ^ 32 - 1))).testBit i = (v.testBit i && (c.testBit i ^^ decide (i < 32))) := fun i => by rw [Nat.testBit_and, Nat.testBit_xor, Nat.testBit_two_pow_sub_one]
  have hi : ∀ i : Nat, v.testBit i = true → i < 32 := fun i h => by
    rcases Nat.lt_or_ge i 32 with e | e
    · exact e
    · rw [Nat.testBit_lt_two_pow (Nat.lt_of_lt_of_le hv (show 4096 ≤ 2 ^ i from Nat.le_trans (by decide) (Nat.pow_le_pow_right (n := 2) (by decide) e)))] at h
      cases h
  unfold tg_sub
  rw [decide_eq_true_eq]
  constructor
  · intro h
    have h0 : v &&& (c ^^^ (2 ^ 32 - 1)) = 0 := by rw [← e1, h]; rfl
    apply Nat.eq_of_testBit_eq
    intro i
    rw [Nat.testBit_and]
    cases hv2 : v.testBit i with
    | false => rfl
    | true =>
      have h1 := hb i
      rw [h0, Nat.zero_testBit, hv2, decide_eq_true (hi i hv2)] at h1
      cases hc2 : c.testBit i with
      | true => rfl
      | false => rw [hc2] at h1; cases h1
  · intro h
    apply th_iext
    rw [e1]
    show _ = 0
    apply Nat.eq_of_testBit_eq
    intro i
    rw [hb, Nat.zero_testBit]
    cases hv2 : v.testBit i with
    | false => rfl
    | true =>
      have h1 : (v &&& c).testBit i = true := by rw [h]; exact hv2
      rw [Nat.testBit_and, hv2, Bool.true_and] at h1
      rw [h1, decide_eq_true (hi i hv2)]
      rfl
set_option maxRecDepth 100000 in
set_option maxHeartbeats 4000000 in
theorem th_xgp {d : Nat} {x : Int32} {σ : tm_S} : WM d 13 [.int x] σ (fun q σ' => ((q = some (.int 1) ∧ tg_gp x) ∨ (q = some (.int 0) ∧ ¬ tg_gp x)) ∧ σ = σ') := by
  show WP d 13 0 [(0, .int x)] [] σ _
  refine wp_ldi rfl tm_m0 ?_
  refine wq_iflt rfl (fun h1 => ?_) (fun h1 => ?_)
  · have g1 : (x).toInt < 0 := tn_ltI.mp h1
    refine wq_con (x := 0) rfl (by decide) ?_
    refine wp_reti rfl (th_n0 rfl) ⟨Or.inr ⟨rfl, fun hk => ?_⟩, rfl⟩
    obtain ⟨q, rfl, hq⟩ := hk
    have eq : (nI q).toInt = q := nI_toInt (by omega)
    first | (change (nI q).toInt < (0 : Int) at g1; omega) | (rw [eq] at g6; omega)
  · have g1 : ¬ (x).toInt < 0 := fun g => h1 (tn_ltI.mpr g)
    refine wp_ldi rfl tm_m0 ?_
    refine wq_con (x := 3) rfl (by decide) ?_
    refine wq_icge rfl (fun h6 => ?_) (fun h6 => ?_)
    · have g6 : 3 ≤ (x).toInt := tn_leI.mp h6
      refine wq_con (x := 0) rfl (by decide) ?_
      refine wp_reti rfl (th_n0 rfl) ⟨Or.inr ⟨rfl, fun hk => ?_⟩, rfl⟩
      obtain ⟨q, rfl, hq⟩ := hk
      have eq : (nI q).toInt = q := nI_toInt (by omega)
      first | (change (nI q).toInt < (0 : Int) at g1; omega) | (rw [eq] at g6; omega)
    · have g6 : ¬ 3 ≤ (x).toInt := fun g => h6 (tn_leI.mpr g)
      refine wq_con (x := 1) rfl (by decide) ?_
      refine wp_go rfl ?_
      change ¬ x.toInt < (0 : Int) at g1
      obtain ⟨q, q1, rfl⟩ := nI_of (x := x) (by rw [tn_ltI]; show ¬ x.toInt < 0; omega)
      rw [nI_toInt q1] at g6
      exact wp_reti rfl (th_n1 rfl) ⟨Or.inl ⟨rfl, q, rfl, by omega⟩, rfl⟩
set_option maxRecDepth 100000 in
set_option maxHeartbeats 4000000 in
theorem th_mgp {d : Nat} {x : Int32} {σ : tm_S} : WM d 168 [.ref 11, .int x] σ (fun q σ' => ((q = some (.int 1) ∧ tg_gp x) ∨ (q = some (.int 0) ∧ ¬ tg_gp x)) ∧ σ = σ') := by
  show WP d 168 0 [(0, .ref 11), (1, .int x)] [] σ _
  refine wp_ldi rfl tm_m1 ?_
  refine wq_iflt rfl (fun h1 => ?_) (fun h1 => ?_)
  · have g1 : (x).toInt < 0 := tn_ltI.mp h1
    refine wq_con (x := 0) rfl (by decide) ?_
    refine wp_reti rfl (th_n0 rfl) ⟨Or.inr ⟨rfl, fun hk => ?_⟩, rfl⟩
    obtain ⟨q, rfl, hq⟩ := hk
    have eq : (nI q).toInt = q := nI_toInt (by omega)
    first | (change (nI q).toInt < (0 : Int) at g1; omega) | (rw [eq] at g6; omega)
  · have g1 : ¬ (x).toInt < 0 := fun g => h1 (tn_ltI.mpr g)
    refine wp_ldi rfl tm_m1 ?_
    refine wq_con (x := 2) rfl (by decide) ?_
    refine wq_icgt rfl (fun h6 => ?_) (fun h6 => ?_)
    · have g6 : 2 < (x).toInt := tn_ltI.mp h6
      refine wq_con (x := 0) rfl (by decide) ?_
      refine wp_reti rfl (th_n0 rfl) ⟨Or.inr ⟨rfl, fun hk => ?_⟩, rfl⟩
      obtain ⟨q, rfl, hq⟩ := hk
      have eq : (nI q).toInt = q := nI_toInt (by omega)
      first | (change (nI q).toInt < (0 : Int) at g1; omega) | (rw [eq] at g6; omega)
    · have g6 : ¬ 2 < (x).toInt := fun g => h6 (tn_ltI.mpr g)
      refine wq_con (x := 1) rfl (by decide) ?_
      refine wp_go rfl ?_
      change ¬ x.toInt < (0 : Int) at g1
      obtain ⟨q, q1, rfl⟩ := nI_of (x := x) (by rw [tn_ltI]; show ¬ x.toInt < 0; omega)
      rw [nI_toInt q1] at g6
      exact wp_reti rfl (th_n1 rfl) ⟨Or.inl ⟨rfl, q, rfl, by omega⟩, rfl⟩
set_option maxRecDepth 100000 in
set_option maxHeartbeats 4000000 in
theorem th_alln {d n : Nat} {σ : tm_S} (hN : σ.1 1 0 = nI n) (hn : n ≤ 12) : WM d 20 [.ref 1] σ (th_is (.int (nI (2 ^ n - 1))) σ) := by
  show WP d 20 0 [(0, .ref 1)] [] σ _
  refine wq_con (x := 1) rfl (by decide) ?_
  refine wp_lda rfl tm_m0 ?_
  refine wq_geti rfl rfl (f := 0) rfl rfl (Or.inl rfl) ?_
  rw [hN]
  refine wq_ishl rfl ?_
  refine wq_con (x := 1) rfl (by decide) ?_
  refine wq_isub rfl ?_
  rw [th_all1 n hn]
  exact wp_reti rfl (th_nI rfl) ⟨rfl, rfl⟩
set_option maxRecDepth 100000 in
set_option maxHeartbeats 4000000 in
theorem th_acts {d n g a c : Nat} {σ : tm_S} (hN : σ.1 1 0 = nI n) (hn : n ≤ 12) (h3 : 3 ≤ n) (hg : g ≤ 2) (ha : a < 2 ^ n) (hc : c < 2 ^ n) : WM (d + 2) 19 [.ref 1, .int (nI g), .int (nI a), .int (nI c)] σ (th_is (.int (nI ((tg_I n g a n).countP (fun x => tg_sub x c)))) σ) := by
  have hp : 2 ^ n ≤ 4096 := Nat.pow_le_pow_right (n := 2) (by decide) hn
  have k6 : ∀ f m : Nat, m + f = n → 1 ≤ m → WP (d + 2) 19 6 [(5, .int (nI m)), (4, .int (nI ((tg_I n g a m).countP (fun x => tg_sub x c)))), (0, .ref 1), (1, .int (nI g)), (2, .int (nI a)), (3, .int (nI c))] [] σ (th_is (.int (nI ((tg_I n g a n).countP (fun x => tg_sub x c)))) σ) := by
    intro f
    induction f with
    | zero =>
      intro m hm h1
      obtain rfl : m = n := by omega
      refine wp_ldi rfl tm_m0 ?_
      refine wp_lda rfl tm_m2 ?_
      refine wq_geti rfl rfl (f := 0) rfl rfl (Or.inl rfl) ?_
      rw [hN]
      refine wq_icge rfl (fun h12 => ?_) (fun h12 => absurd (nI_le (Nat.le_refl _) (by omega)) h12)
      refine wp_ldi rfl tm_m1 ?_
      exact wp_reti rfl (th_nI rfl) ⟨rfl, rfl⟩
    | succ f ih =>
      intro m hm h1
      have hfi := th_fP_iff (n := n) (g := g) (m := m) hn (by omega)
      have hl := th_im_lt (n := n) (S := a) (m := m) (t := 0) (by omega) n
      have k40 : th_fac n g m = true → ∀ e t : Nat, t + e = n → WP (d + 2) 19 40 [(7, .int (nI t)), (6, .int (nI (th_im n a m 0 n))), (5, .int (nI m)), (4, .int (nI ((tg_J n g a m t).countP (fun x => tg_sub x c)))), (0, .ref 1), (1, .int (nI g)), (2, .int (nI a)), (3, .int (nI c))] [] σ (th_is (.int (nI ((tg_I n g a n).countP (fun x => tg_sub x c)))) σ) := by
        intro hf e
        induction e with
        | zero =>
          intro t ht
          obtain rfl : t = n := by omega
          refine wp_ldi rfl tm_m0 ?_
          refine wp_lda rfl tm_m4 ?_
          refine wq_geti rfl rfl (f := 0) rfl rfl (Or.inl rfl) ?_
          rw [hN]
          refine wq_icge rfl (fun h46 => ?_) (fun h46 => absurd (nI_le (Nat.le_refl _) (by omega)) h46)
          refine wq_inc (c := 1) [(5, .int ((nI m) + 1)), (7, .int (nI t)), (6, .int (nI (th_im t a m 0 t))), (4, .int (nI ((tg_J t g a m t).countP (fun x => tg_sub x c)))), (0, .ref 1), (1, .int (nI g)), (2, .int (nI a)), (3, .int (nI c))] rfl tm_m2 rfl rfl ?_
          refine wp_go rfl ?_
          rw [nI_1, tg_Jn hf]
          exact WP.less (ih (m + 1) (by omega) (by omega)) (by simp)
        | succ e ihe =>
          intro t ht
          have hit := th_im_lt (n := n) (S := a) (m := m) (t := t) (by omega) n
          have hle : (tg_J n g a m t).countP (fun x => tg_sub x c) ≤ 144 := Nat.le_trans List.countP_le_length (tg_Jl hn (by omega) (by omega))
          have e1 : (tg_J n g a m (t + 1)).countP (fun x => tg_sub x c) = (tg_J n g a m t).countP (fun x => tg_sub x c) + cond (tg_sub (th_im n a m t n) c) 1 0 := by rw [tg_J1, tg_c1]
          have hmk := tg_msk (v := th_im n a m t n) (c := c) (by omega) (by omega)
          refine wp_ldi rfl tm_m0 ?_
          refine wp_lda rfl tm_m4 ?_
          refine wq_geti rfl rfl (f := 0) rfl rfl (Or.inl rfl) ?_
          rw [hN]
          refine wq_icge rfl (fun h46 => absurd h46 (nI_ge (by omega) (by omega))) (fun h46 => ?_)
          refine wp_ldi rfl tm_m1 ?_
          refine wp_ldi rfl tm_m0 ?_
          refine wp_lda rfl tm_m4 ?_
          refine wq_geti rfl rfl (f := 0) rfl rfl (Or.inl rfl) ?_
          rw [hN]
          refine wq_cals [.int (nI (th_im n a m 0 n)), .int (nI t), .int (nI n)] rfl rfl rfl rfl rfl rfl (th_trnd (by omega) hl (by omega)) ?_
          rintro _ _ ⟨rfl, rfl⟩
          rw [th_im_rot (by omega) (by omega)]
          refine wp_ldi rfl tm_m7 ?_
          refine wq_con (x := (-1)) rfl (by decide) ?_
          refine wq_ixor rfl ?_
          refine wq_iand rfl ?_
          refine wq_ifne rfl (fun h64 => ?_) (fun h64 => ?_)
          · refine wq_inc (c := 1) [(7, .int ((nI t) + 1)), (6, .int (nI (th_im n a m 0 n))), (5, .int (nI m)), (4, .int (nI ((tg_J n g a m t).countP (fun x => tg_sub x c)))), (0, .ref 1), (1, .int (nI g)), (2, .int (nI a)), (3, .int (nI c))] rfl tm_m0 rfl rfl ?_
            refine wp_go rfl ?_
            rw [Bool.eq_false_iff.mpr (fun q => h64 (hmk.mpr q))] at e1
            rw [nI_1, show (tg_J n g a m t).countP (fun x => tg_sub x c) = (tg_J n g a m (t + 1)).countP (fun x => tg_sub x c) from e1.symm]
            exact WP.less (ihe (t + 1) (by omega)) (by simp)
          · refine wq_inc (c := 1) [(4, .int ((nI ((tg_J n g a m t).countP (fun x => tg_sub x c))) + 1)), (7, .int (nI t)), (6, .int (nI (th_im n a m 0 n))), (5, .int (nI m)), (0, .ref 1), (1, .int (nI g)), (2, .int (nI a)), (3, .int (nI c))] rfl tm_m3 rfl rfl ?_
            refine wq_inc (c := 1) [(7, .int ((nI t) + 1)), (4, .int ((nI ((tg_J n g a m t).countP (fun x => tg_sub x c))) + 1)), (6, .int (nI (th_im n a m 0 n))), (5, .int (nI m)), (0, .ref 1), (1, .int (nI g)), (2, .int (nI a)), (3, .int (nI c))] rfl tm_m1 rfl rfl ?_
            refine wp_go rfl ?_
            rw [hmk.mp (Classical.not_not.mp h64)] at e1
            rw [nI_1, nI_1, show (tg_J n g a m t).countP (fun x => tg_sub x c) + 1 = (tg_J n g a m (t + 1)).countP (fun x => tg_sub x c) from e1.symm]
            exact WP.less (ihe (t + 1) (by omega)) (by simp)
      refine wp_ldi rfl tm_m0 ?_
      refine wp_lda rfl tm_m2 ?_
      refine wq_geti rfl rfl (f := 0) rfl rfl (Or.inl rfl) ?_
      rw [hN]
      refine wq_icge rfl (fun h12 => absurd h12 (nI_ge (by omega) (by omega))) (fun h12 => ?_)
      refine wp_lda rfl tm_m2 ?_
      refine wp_ldi rfl tm_m3 ?_
      refine wp_ldi rfl tm_m0 ?_
      refine wq_calv [.int (nI g), .int (nI m)] rfl rfl rfl rfl rfl rfl rfl rfl rfl (th_xfac hN hn h3 hg) ?_
      rintro r19 _ ⟨hr19, rfl⟩
      obtain ⟨z19, rfl, hz19, hn19⟩ : ∃ z : Int32, r19 = some (.int z) ∧ (¬ z = 0 → th_fP n g (nI m)) ∧ (z = 0 → ¬ th_fP n g (nI m)) := by
        rcases hr19 with ⟨rfl, g⟩ | ⟨rfl, g⟩
        · exact ⟨_, rfl, fun _ => g, fun e => absurd e (by decide)⟩
        · exact ⟨_, rfl, fun e => absurd rfl e, fun _ => g⟩
      refine wq_ifne rfl (fun h22 => ?_) (fun h22 => ?_)
      · refine wp_lda rfl tm_m2 ?_
        refine wp_ldi rfl tm_m4 ?_
        refine wp_ldi rfl tm_m0 ?_
        refine wq_calv [.int (nI a), .int (nI m)] rfl rfl rfl rfl rfl rfl rfl rfl rfl (th_mult hN hn ha (by omega)) ?_
        rintro _ _ ⟨rfl, rfl⟩
        refine wq_sti [(6, .int (nI (th_im n a m 0 n))), (5, .int (nI m)), (4, .int (nI ((tg_I n g a m).countP (fun x => tg_sub x c)))), (0, .ref 1), (1, .int (nI g)), (2, .int (nI a)), (3, .int (nI c))] rfl rfl ?_
        refine wq_con (x := nI 0) rfl (by decide) ?_
        refine wq_sti [(7, .int (nI 0)), (6, .int (nI (th_im n a m 0 n))), (5, .int (nI m)), (4, .int (nI ((tg_I n g a m).countP (fun x => tg_sub x c)))), (0, .ref 1), (1, .int (nI g)), (2, .int (nI a)), (3, .int (nI c))] rfl rfl ?_
        refine WP.less (k40 (hfi.mp (hz19 h22)) n 0 (by omega)) (by simp [tg_J0])
      · refine wp_go rfl ?_
        refine wq_inc (c := 1) [(5, .int ((nI m) + 1)), (4, .int (nI ((tg_I n g a m).countP (fun x => tg_sub x c)))), (0, .ref 1), (1, .int (nI g)), (2, .int (nI a)), (3, .int (nI c))] rfl tm_m0 rfl rfl ?_
        refine wp_go rfl ?_
        rw [nI_1, ← tg_Is (n := n) (g := g) (a := a) (m := m) (fun q => hn19 (Classical.not_not.mp h22) (hfi.mpr q))]
        exact WP.less (ih (m + 1) (by omega) (by omega)) (by simp)
  show WP (d + 2) 19 0 [(0, .ref 1), (1, .int (nI g)), (2, .int (nI a)), (3, .int (nI c))] [] σ _
  refine wq_con (x := nI 0) rfl (by decide) ?_
  refine wq_sti [(4, .int (nI 0)), (0, .ref 1), (1, .int (nI g)), (2, .int (nI a)), (3, .int (nI c))] rfl rfl ?_
  refine wq_con (x := nI 1) rfl (by decide) ?_
  refine wq_sti [(5, .int (nI 1)), (4, .int (nI 0)), (0, .ref 1), (1, .int (nI g)), (2, .int (nI a)), (3, .int (nI c))] rfl rfl ?_
  exact WP.less (k6 (n - 1) 1 (by omega) (by omega)) (by simp [tg_I1])
theorem tg_dvk : (List.range 145).all (fun a => (List.range 145).all (fun k => Nat.beq k 0 || decide (nI a / nI k = nI (a / k)))) = true := by decide +kernel
theorem tg_dv {a k : Nat} (ha : a ≤ 144) (hk : k ≤ 144) (h0 : 0 < k) : nI a / nI k = nI (a / k) := by
  have h1 := List.all_eq_true.mp (List.all_eq_true.mp tg_dvk a (List.mem_range.mpr (by omega))) k (List.mem_range.mpr (by omega))
  rw [Bool.or_eq_true] at h1
  rcases h1 with h1 | h1
  · exact absurd (Nat.eq_of_beq_eq_true h1) (by omega)
  · exact of_decide_eq_true h1
set_option maxRecDepth 100000 in
set_option maxHeartbeats 4000000 in
theorem th_imgi {d n g a c : Nat} {σ : tm_S} (hN : σ.1 1 0 = nI n) (hn : n ≤ 12) (h3 : 3 ≤ n) (hg : g ≤ 2) (ha : a < 2 ^ n) (hc : c < 2 ^ n) : WM (d + 3) 21 [.ref 1, .int (nI g), .int (nI a), .int (nI c)] σ (th_is (.int (nI (tg_D (fun x => tg_sub x c) (tg_I n g a n)).length)) σ) := by
  obtain ⟨ho, hpo⟩ := tg_orb (b := c) hn h3 hg ha
  have l1 : (tg_I n g a n).countP (fun x => tg_sub x c) ≤ 144 := Nat.le_trans List.countP_le_length (tg_Il hn)
  have l2 : (tg_I n g a n).countP (fun x => tg_sub x a) ≤ 144 := Nat.le_trans List.countP_le_length (tg_Il hn)
  show WP (d + 3) 21 0 [(0, .ref 1), (1, .int (nI g)), (2, .int (nI a)), (3, .int (nI c))] [] σ _
  refine wp_lda rfl tm_m0 ?_
  refine wp_ldi rfl tm_m1 ?_
  refine wp_ldi rfl tm_m2 ?_
  refine wp_ldi rfl tm_m2 ?_
  refine wq_calv [.int (nI g), .int (nI a), .int (nI a)] rfl rfl rfl rfl rfl rfl rfl rfl rfl (th_acts hN hn h3 hg ha ha) ?_
  rintro _ _ ⟨rfl, rfl⟩
  refine wq_sti [(4, .int (nI ((tg_I n g a n).countP (fun x => tg_sub x a)))), (0, .ref 1), (1, .int (nI g)), (2, .int (nI a)), (3, .int (nI c))] rfl rfl ?_
  refine wp_ldi rfl tm_m0 ?_
  refine wq_ifne rfl (fun h11 => ?_) (fun h11 => absurd (Classical.not_not.mp h11) (nI_ne0 hpo (by omega)))
  refine wp_lda rfl tm_m1 ?_
  refine wp_ldi rfl tm_m2 ?_
  refine wp_ldi rfl tm_m3 ?_
  refine wp_ldi rfl tm_m4 ?_
  refine wq_calv [.int (nI g), .int (nI a), .int (nI c)] rfl rfl rfl rfl rfl rfl rfl rfl rfl (th_acts hN hn h3 hg ha hc) ?_
  rintro _ _ ⟨rfl, rfl⟩
  refine wp_ldi rfl tm_m0 ?_
  refine wp_div rfl (nI_ne0 hpo (by omega)) ?_
  rw [tg_dv l1 l2 hpo, ho, Nat.mul_div_cancel _ hpo]
  exact wp_reti rfl (th_nI rfl) ⟨rfl, rfl⟩
/-- the marks hold just the unlike ones met -/
def tg_MK (s : tm_S) (V : List Nat) : Prop := ∀ v : Nat, v < 4096 → s.1 43 v = cond (V.contains v) 1 0
set_option maxRecDepth 100000 in
set_option maxHeartbeats 4000000 in
theorem th_imgs {d n g a c : Nat} {σ : tm_S} (hT : tv_TY (tc_T (n : Int)) σ) (hn : n ≤ 12) (h3 : 3 ≤ n) (hg : g ≤ 2) (ha : a < 2 ^ n) (hc : c < 2 ^ n) : WM (d + 2) 171 [.ref 11, .int (nI g), .int (nI a), .int (nI c)] σ (fun r t => r = some (.int (nI (tg_D (fun x => tg_sub x c) (tg_I n g a n)).length)) ∧ tv_TY (tc_T (n : Int)) t ∧ tv_un σ t [(43, 64)]) := by
  have hp : 2 ^ n ≤ 4096 := Nat.pow_le_pow_right (n := 2) (by decide) hn
  have k31 : ∀ (f m : Nat) (s : tm_S), m + f = n → 1 ≤ m → tv_TY (tc_T (n : Int)) s → tv_un σ s [(43, 64)] → tg_MK s (tg_D (fun x => tg_sub x c) (tg_I n g a m)) → WP (d + 2) 171 31 [(5, .int (nI m)), (4, .int (nI (tg_D (fun x => tg_sub x c) (tg_I n g a m)).length)), (0, .ref 11), (1, .int (nI g)), (2, .int (nI a)), (3, .int (nI c))] [] s (fun r t => r = some (.int (nI (tg_D (fun x => tg_sub x c) (tg_I n g a n)).length)) ∧ tv_TY (tc_T (n : Int)) t ∧ tv_un σ t [(43, 64)]) := by
    intro f
    induction f with
    | zero =>
      intro m s hm h1 Ts us hM
      obtain rfl : m = n := by omega
      refine wp_ldi rfl tm_m0 ?_
      refine wp_lda rfl tm_m2 ?_
      refine wq_geti rfl rfl (f := 1) rfl rfl (Or.inl rfl) ?_
      rw [th_N1 Ts hn]
      refine wq_icge rfl (fun h37 => ?_) (fun h37 => absurd (nI_le (Nat.le_refl _) (by omega)) h37)
      refine wp_ldi rfl tm_m1 ?_
      exact wp_reti rfl (th_nI rfl) ⟨rfl, Ts, us⟩
    | succ f ih =>
      intro m s hm h1 Ts us hM
      have hfi := th_fP_iff (n := n) (g := g) (m := m) hn (by omega)
      have k56 : th_fac n g m = true → ∀ (e t : Nat) (s : tm_S), t + e = n → tv_TY (tc_T (n : Int)) s → tv_un σ s [(43, 64)] → tg_MK s (tg_D (fun x => tg_sub x c) (tg_J n g a m t)) → WP (d + 2) 171 56 [(6, .int (nI t)), (5, .int (nI m)), (4, .int (nI (tg_D (fun x => tg_sub x c) (tg_J n g a m t)).length)), (0, .ref 11), (1, .int (nI g)), (2, .int (nI a)), (3, .int (nI c))] [] s (fun r t => r = some (.int (nI (tg_D (fun x => tg_sub x c) (tg_I n g a n)).length)) ∧ tv_TY (tc_T (n : Int)) t ∧ tv_un σ t [(43, 64)]) := by
        intro hf e
        induction e with
        | zero =>
          intro t s ht Ts us hM
          obtain rfl : t = n := by omega
          rw [tg_Jn hf] at hM
          refine wp_ldi rfl tm_m0 ?_
          refine wp_lda rfl tm_m3 ?_
          refine wq_geti rfl rfl (f := 1) rfl rfl (Or.inl rfl) ?_
          rw [th_N1 Ts hn]
          refine wq_icge rfl (fun h62 => ?_) (fun h62 => absurd (nI_le (Nat.le_refl _) (by omega)) h62)
          refine wq_inc (c := 1) [(5, .int ((nI m) + 1)), (6, .int (nI t)), (4, .int (nI (tg_D (fun x => tg_sub x c) (tg_J t g a m t)).length)), (0, .ref 11), (1, .int (nI g)), (2, .int (nI a)), (3, .int (nI c))] rfl tm_m1 rfl rfl ?_
          refine wp_go rfl ?_
          rw [nI_1, tg_Jn hf]
          exact WP.less (ih (m + 1) s (by omega) (by omega) Ts us hM) (by simp)
        | succ e ihe =>
          intro t s ht Ts us hM
          have hit := th_im_lt (n := n) (S := a) (m := m) (t := t) (by omega) n
          have ei : (nI (th_im n a m t n)).toNatClampNeg = th_im n a m t n := nI_clamp (by omega)
          have hle : (tg_D (fun x => tg_sub x c) (tg_J n g a m t)).length ≤ 4096 := by
            have := tg_Jl (n := n) (g := g) (a := a) (m := m) (t := t) hn (by omega) (by omega)
            have h2 : ∀ l V : List Nat, (l.foldl (tg_st (fun x => tg_sub x c)) V).length ≤ V.length + l.length := by
              intro l
              induction l with
              | nil => intro V; exact Nat.le_refl _
              | cons x l il =>
                intro V
                have h3 := il (tg_st (fun x => tg_sub x c) V x)
                have h4 : (tg_st (fun x => tg_sub x c) V x).length ≤ V.length + 1 := by
                  unfold tg_st
                  split
                  · omega
                  · rw [List.length_append]; exact Nat.le_refl _
                show (l.foldl (tg_st (fun x => tg_sub x c)) (tg_st (fun x => tg_sub x c) V x)).length ≤ _
                rw [List.length_cons]
                omega
            have h5 := h2 (tg_J n g a m t) []
            unfold tg_D
            rw [List.length_nil] at h5
            omega
          have e1 : tg_D (fun x => tg_sub x c) (tg_J n g a m (t + 1)) = tg_st (fun x => tg_sub x c) (tg_D (fun x => tg_sub x c) (tg_J n g a m t)) (th_im n a m t n) := by rw [tg_J1, tg_D1]
          have hmk := tg_msk (v := th_im n a m t n) (c := c) (by omega) (by omega)
          have hMi := hM (th_im n a m t n) (by omega)
          refine wp_ldi rfl tm_m0 ?_
          refine wp_lda rfl tm_m3 ?_
          refine wq_geti rfl rfl (f := 1) rfl rfl (Or.inl rfl) ?_
          rw [th_N1 Ts hn]
          refine wq_icge rfl (fun h62 => absurd h62 (nI_ge (by omega) (by omega))) (fun h62 => ?_)
          refine wp_lda rfl tm_m3 ?_
          refine wp_ldi rfl tm_m5 ?_
          refine wp_ldi rfl tm_m1 ?_
          refine wp_ldi rfl tm_m0 ?_
          refine wq_calv [.int (nI a), .int (nI m), .int (nI t)] rfl rfl rfl rfl rfl rfl rfl rfl rfl (th_imof (th_N1 Ts hn) hn ha (by omega) (by omega)) ?_
          rintro _ _ ⟨rfl, rfl⟩
          refine wq_sti [(7, .int (nI (th_im n a m t n))), (6, .int (nI t)), (5, .int (nI m)), (4, .int (nI (tg_D (fun x => tg_sub x c) (tg_J n g a m t)).length)), (0, .ref 11), (1, .int (nI g)), (2, .int (nI a)), (3, .int (nI c))] rfl rfl ?_
          refine wp_lda rfl tm_m4 ?_
          refine wq_getr (p := 43) rfl rfl (f := 2) rfl rfl ?_
          refine wp_ldi rfl tm_m0 ?_
          refine wp_zald rfl rfl (nI_in (by omega) (by decide)) ?_
          rw [ei]
          refine wq_ifne rfl (fun h83 => ?_) (fun h83 => ?_)
          · refine wq_inc (c := 1) [(6, .int ((nI t) + 1)), (7, .int (nI (th_im n a m t n))), (5, .int (nI m)), (4, .int (nI (tg_D (fun x => tg_sub x c) (tg_J n g a m t)).length)), (0, .ref 11), (1, .int (nI g)), (2, .int (nI a)), (3, .int (nI c))] rfl tm_m1 rfl rfl ?_
            refine wp_go rfl ?_
            have hq : tg_st (fun x => tg_sub x c) (tg_D (fun x => tg_sub x c) (tg_J n g a m t)) (th_im n a m t n) = tg_D (fun x => tg_sub x c) (tg_J n g a m t) := by
              unfold tg_st
              rw [if_pos]
              rw [Bool.or_eq_true]
              first
              | (refine Or.inl ?_
                 cases z : (tg_D (fun x => tg_sub x c) (tg_J n g a m t)).contains (th_im n a m t n) with
                 | true => rfl
                 | false => exact absurd (by rw [hMi, z]; rfl) h83)
              | (refine Or.inr ?_
                 show (!(tg_sub (th_im n a m t n) c)) = true
                 cases z : tg_sub (th_im n a m t n) c with
                 | false => rfl
                 | true => exact absurd (hmk.mpr z) h92)
            rw [hq] at e1
            rw [nI_1, ← e1]
            refine WP.less (ihe (t + 1) s (by omega) Ts us (by rw [e1]; exact hM)) (by simp)
          · refine wp_ldi rfl tm_m0 ?_
            refine wp_ldi rfl tm_m7 ?_
            refine wq_con (x := (-1)) rfl (by decide) ?_
            refine wq_ixor rfl ?_
            refine wq_iand rfl ?_
            refine wq_ifeq rfl (fun h92 => ?_) (fun h92 => ?_)
            · refine wp_lda rfl tm_m4 ?_
              refine wq_getr (p := 43) rfl rfl (f := 2) rfl rfl ?_
              refine wp_ldi rfl tm_m0 ?_
              refine wq_con (x := 1) rfl (by decide) ?_
              refine wp_zast rfl rfl (nI_in (by omega) (by decide)) (Or.inr rfl) ?_
              refine wp_ldi rfl tm_m3 ?_
              refine wq_con (x := 1) rfl (by decide) ?_
              refine wq_iadd rfl ?_
              refine wq_sti [(4, .int ((nI (tg_D (fun x => tg_sub x c) (tg_J n g a m t)).length) + 1)), (7, .int (nI (th_im n a m t n))), (6, .int (nI t)), (5, .int (nI m)), (0, .ref 11), (1, .int (nI g)), (2, .int (nI a)), (3, .int (nI c))] rfl rfl ?_
              refine wq_inc (c := 1) [(6, .int ((nI t) + 1)), (4, .int ((nI (tg_D (fun x => tg_sub x c) (tg_J n g a m t)).length) + 1)), (7, .int (nI (th_im n a m t n))), (5, .int (nI m)), (0, .ref 11), (1, .int (nI g)), (2, .int (nI a)), (3, .int (nI c))] rfl tm_m2 rfl rfl ?_
              refine wp_go rfl ?_
              have hq : tg_st (fun x => tg_sub x c) (tg_D (fun x => tg_sub x c) (tg_J n g a m t)) (th_im n a m t n) = tg_D (fun x => tg_sub x c) (tg_J n g a m t) ++ [th_im n a m t n] := by
                unfold tg_st
                rw [if_neg]
                rw [Bool.or_eq_true]
                rintro (q | q)
                · exact absurd (Classical.not_not.mp h83) (by rw [hMi, q]; decide)
                · change (!(tg_sub (th_im n a m t n) c)) = true at q
                  rw [show tg_sub (th_im n a m t n) c = true from hmk.mp h92] at q
                  cases q
              rw [hq] at e1
              rw [ei, nI_1, nI_1, show (tg_D (fun x => tg_sub x c) (tg_J n g a m t)).length + 1 = (tg_D (fun x => tg_sub x c) (tg_J n g a m (t + 1))).length by rw [e1, List.length_append]; rfl]
              refine WP.less (ihe (t + 1) _ (by omega) (tv_TY_row Ts (ty := (0, 1)) (fun _ => rfl) (by decide) (by decide)) (tv_un_tr us (tv_un_ar rfl rfl)) (fun v hv => ?_)) (by simp)
              rw [e1, tm_gI]
              by_cases q : v = th_im n a m t n
              · rw [if_pos ⟨rfl, q⟩, q, List.contains_iff_mem.mpr (List.mem_append.mpr (Or.inr (List.mem_singleton.mpr rfl)))]
                rfl
              · rw [if_neg (fun z => q z.2), hM v hv]
                congr 1
                apply Bool.eq_iff_iff.mpr
                rw [List.contains_iff_mem, List.contains_iff_mem, List.mem_append, List.mem_singleton]
                exact ⟨Or.inl, fun z => z.elim id (fun z => absurd z q)⟩
            · refine wp_go rfl ?_
              refine wq_inc (c := 1) [(6, .int ((nI t) + 1)), (7, .int (nI (th_im n a m t n))), (5, .int (nI m)), (4, .int (nI (tg_D (fun x => tg_sub x c) (tg_J n g a m t)).length)), (0, .ref 11), (1, .int (nI g)), (2, .int (nI a)), (3, .int (nI c))] rfl tm_m1 rfl rfl ?_
              refine wp_go rfl ?_
              have hq : tg_st (fun x => tg_sub x c) (tg_D (fun x => tg_sub x c) (tg_J n g a m t)) (th_im n a m t n) = tg_D (fun x => tg_sub x c) (tg_J n g a m t) := by
                unfold tg_st
                rw [if_pos]
                rw [Bool.or_eq_true]
                first
                | (refine Or.inl ?_
                   cases z : (tg_D (fun x => tg_sub x c) (tg_J n g a m t)).contains (th_im n a m t n) with
                   | true => rfl
                   | false => exact absurd (by rw [hMi, z]; rfl) h83)
                | (refine Or.inr ?_
                   show (!(tg_sub (th_im n a m t n) c)) = true
                   cases z : tg_sub (th_im n a m t n) c with
                   | false => rfl
                   | true => exact absurd (hmk.mpr z) h92)
              rw [hq] at e1
              rw [nI_1, ← e1]
              refine WP.less (ihe (t + 1) s (by omega) Ts us (by rw [e1]; exact hM)) (by simp)
      refine wp_ldi rfl tm_m0 ?_
      refine wp_lda rfl tm_m2 ?_
      refine wq_geti rfl rfl (f := 1) rfl rfl (Or.inl rfl) ?_
      rw [th_N1 Ts hn]
      refine wq_icge rfl (fun h37 => absurd h37 (nI_ge (by omega) (by omega))) (fun h37 => ?_)
      refine wp_lda rfl tm_m2 ?_
      refine wp_ldi rfl tm_m3 ?_
      refine wp_ldi rfl tm_m0 ?_
      refine wq_calv [.int (nI g), .int (nI m)] rfl rfl rfl rfl rfl rfl rfl rfl rfl (th_mfac (th_N1 Ts hn) hn h3 hg) ?_
      rintro r44 _ ⟨hr44, rfl⟩
      obtain ⟨z44, rfl, hz44, hn44⟩ : ∃ z : Int32, r44 = some (.int z) ∧ (¬ z = 0 → th_fP n g (nI m)) ∧ (z = 0 → ¬ th_fP n g (nI m)) := by
        rcases hr44 with ⟨rfl, g⟩ | ⟨rfl, g⟩
        · exact ⟨_, rfl, fun _ => g, fun e => absurd e (by decide)⟩
        · exact ⟨_, rfl, fun e => absurd rfl e, fun _ => g⟩
      refine wq_ifne rfl (fun h47 => ?_) (fun h47 => ?_)
      · refine wq_con (x := nI 0) rfl (by decide) ?_
        refine wq_sti [(6, .int (nI 0)), (5, .int (nI m)), (4, .int (nI (tg_D (fun x => tg_sub x c) (tg_I n g a m)).length)), (0, .ref 11), (1, .int (nI g)), (2, .int (nI a)), (3, .int (nI c))] rfl rfl ?_
        refine WP.less (k56 (hfi.mp (hz44 h47)) n 0 s (by omega) Ts us (by rw [tg_J0]; exact hM)) (by simp [tg_J0])
      · refine wp_go rfl ?_
        refine wq_inc (c := 1) [(5, .int ((nI m) + 1)), (4, .int (nI (tg_D (fun x => tg_sub x c) (tg_I n g a m)).length)), (0, .ref 11), (1, .int (nI g)), (2, .int (nI a)), (3, .int (nI c))] rfl tm_m0 rfl rfl ?_
        refine wp_go rfl ?_
        rw [← tg_Is (n := n) (g := g) (a := a) (m := m) (fun q => hn44 (Classical.not_not.mp h47) (hfi.mpr q))] at hM
        rw [nI_1, ← tg_Is (n := n) (g := g) (a := a) (m := m) (fun q => hn44 (Classical.not_not.mp h47) (hfi.mpr q))]
        exact WP.less (ih (m + 1) s (by omega) (by omega) Ts us hM) (by simp)
  have k3 : ∀ (f k : Nat) (s : tm_S), k + f = 4096 → tv_TY (tc_T (n : Int)) s → tv_un σ s [(43, 64)] → (∀ v : Nat, v < k → s.1 43 v = 0) → WP (d + 2) 171 3 [(4, .int (nI k)), (0, .ref 11), (1, .int (nI g)), (2, .int (nI a)), (3, .int (nI c))] [] s (fun r t => r = some (.int (nI (tg_D (fun x => tg_sub x c) (tg_I n g a n)).length)) ∧ tv_TY (tc_T (n : Int)) t ∧ tv_un σ t [(43, 64)]) := by
    intro f
    induction f with
    | zero =>
      intro k s hk Ts us hz
      obtain rfl : k = 4096 := by omega
      refine wp_ldi rfl tm_m0 ?_
      refine wq_con (x := nI 4096) rfl (by decide) ?_
      refine wq_icge rfl (fun h8 => ?_) (fun h8 => absurd (nI_le (Nat.le_refl _) (by decide)) h8)
      refine wq_con (x := nI 0) rfl (by decide) ?_
      refine wq_sti [(4, .int (nI 0)), (0, .ref 11), (1, .int (nI g)), (2, .int (nI a)), (3, .int (nI c))] rfl rfl ?_
      refine wq_con (x := nI 1) rfl (by decide) ?_
      refine wq_sti [(5, .int (nI 1)), (4, .int (nI 0)), (0, .ref 11), (1, .int (nI g)), (2, .int (nI a)), (3, .int (nI c))] rfl rfl ?_
      refine WP.less (k31 (n - 1) 1 s (by omega) (by omega) Ts us (fun v hv => ?_)) (by simp [tg_I1, tg_D])
      rw [hz v hv, tg_I1]
      rfl
    | succ f ih =>
      intro k s hk Ts us hz
      refine wp_ldi rfl tm_m0 ?_
      refine wq_con (x := nI 4096) rfl (by decide) ?_
      refine wq_icge rfl (fun h8 => absurd h8 (nI_ge (by omega) (by decide))) (fun h8 => ?_)
      refine wp_lda rfl tm_m1 ?_
      refine wq_getr (p := 43) rfl rfl (f := 2) rfl rfl ?_
      refine wp_ldi rfl tm_m0 ?_
      refine wq_con (x := 0) rfl (by decide) ?_
      refine wp_zast rfl rfl (nI_in (by omega) (by decide)) (Or.inl rfl) ?_
      refine wq_inc (c := 1) [(4, .int ((nI k) + 1)), (0, .ref 11), (1, .int (nI g)), (2, .int (nI a)), (3, .int (nI c))] rfl tm_m0 rfl rfl ?_
      refine wp_go rfl ?_
      rw [nI_1, nI_clamp (n := k) (by omega)]
      refine WP.less (ih (k + 1) _ (by omega) (tv_TY_row Ts (ty := (0, 1)) (fun _ => rfl) (by decide) (by decide)) (tv_un_tr us (tv_un_ar rfl rfl)) (fun v hv => ?_)) (by simp)
      rw [tm_gI]
      by_cases q : v = k
      · rw [if_pos ⟨rfl, q⟩]
      · rw [if_neg (fun z => q z.2)]
        exact hz v (by omega)
  show WP (d + 2) 171 0 [(0, .ref 11), (1, .int (nI g)), (2, .int (nI a)), (3, .int (nI c))] [] σ _
  refine wq_con (x := nI 0) rfl (by decide) ?_
  refine wq_sti [(4, .int (nI 0)), (0, .ref 11), (1, .int (nI g)), (2, .int (nI a)), (3, .int (nI c))] rfl rfl ?_
  exact WP.less (k3 4096 0 σ (by omega) hT (tv_un_rf) (fun v hv => absurd hv (by omega))) (by simp)
theorem tg_IVm {n : Nat} {σ t : tm_S} (h : th_IV n σ) (hT : tv_TY (tc_T (n : Int)) t) (hu : tv_un σ t [(43, 64)]) : th_IV n t := ⟨h.1, h.2.1, hT, th_SLu h.2.2.1 h.2.2.2 hu (by decide)⟩
/-- what within answers -/
def tp_wok (n : Nat) (g s c : Int32) : Prop := tg_gp g ∧ th_st n s ∧ th_st n c
def tp_wi (n : Nat) (g s c z : Int32) : Prop := (∃ G S C : Nat, g = nI G ∧ s = nI S ∧ c = nI C ∧ G ≤ 2 ∧ S < 2 ^ 12 ∧ C < 2 ^ 12 ∧ z = nI (tg_D (fun x => tg_sub x C) (tg_I n G S n)).length ∧ tp_wok n g s c) ∨ (¬ tp_wok n g s c ∧ z = -1)
theorem tp_wi_u {n : Nat} {g s c z w : Int32} (h : tp_wi n g s c z) (k : tp_wi n g s c w) : z = w := by
  rcases h with ⟨S, q, u, e1, e2, e3, e4, e5, e6, e7, e8⟩ | ⟨h1, h2⟩
  · rcases k with ⟨S', q', u', f1, f2, f3, f4, f5, f6, f7, f8⟩ | ⟨g1, g2⟩
    · rw [e7, f7, (nI_eq (by omega) (by omega)).mp (e1.symm.trans f1), (nI_eq (by omega) (by omega)).mp (e2.symm.trans f2), (nI_eq (by omega) (by omega)).mp (e3.symm.trans f3)]
    · exact absurd e8 g1
  · rcases k with ⟨S', q', u', f1, f2, f3, f4, f5, f6, f7, f8⟩ | ⟨g1, g2⟩
    · exact absurd f8 h1
    · rw [h2, g2]
/-- what own answers -/
def tg_ow (n G S W : Nat) : Nat := if W = 0 then (tg_I n G S n).countP (fun x => x == S) else if W = 2 then (tg_I n G S n).length else (tg_D (fun x => tg_sub x (2 ^ n - 1)) (tg_I n G S n)).length
def tp_ook (n : Nat) (g s w : Int32) : Prop := tg_gp g ∧ th_st n s ∧ tg_gp w
def tp_own (n : Nat) (g s w z : Int32) : Prop := (∃ G S W : Nat, g = nI G ∧ s = nI S ∧ w = nI W ∧ G ≤ 2 ∧ S < 2 ^ 12 ∧ W ≤ 2 ∧ z = nI (tg_ow n G S W) ∧ tp_ook n g s w) ∨ (¬ tp_ook n g s w ∧ z = -1)
theorem tp_own_u {n : Nat} {g s c z w : Int32} (h : tp_own n g s c z) (k : tp_own n g s c w) : z = w := by
  rcases h with ⟨S, q, u, e1, e2, e3, e4, e5, e6, e7, e8⟩ | ⟨h1, h2⟩
  · rcases k with ⟨S', q', u', f1, f2, f3, f4, f5, f6, f7, f8⟩ | ⟨g1, g2⟩
    · rw [e7, f7, (nI_eq (by omega) (by omega)).mp (e1.symm.trans f1), (nI_eq (by omega) (by omega)).mp (e2.symm.trans f2), (nI_eq (by omega) (by omega)).mp (e3.symm.trans f3)]
    · exact absurd e8 g1
  · rcases k with ⟨S', q', u', f1, f2, f3, f4, f5, f6, f7, f8⟩ | ⟨g1, g2⟩
    · exact absurd f8 h1
    · rw [h2, g2]
theorem tg_all {n g a : Nat} (hn : 0 < n) : (tg_I n g a n).countP (fun x => tg_sub x (2 ^ n - 1)) = (tg_I n g a n).length := by
  rw [List.countP_eq_length]
  intro x hx
  unfold tg_sub
  rw [Nat.and_two_pow_sub_one_eq_mod, Nat.mod_eq_of_lt (tg_lt hn hx)]
  exact decide_eq_true rfl
set_option maxRecDepth 100000 in
set_option maxHeartbeats 4000000 in
theorem tf_x_within {n : Nat} {a1 a2 a3 : Int32} {σ : tm_S} (h : th_IV n σ) : WM 90 33 [.ref 0, .int a1, .int a2, .int a3] σ (fun r σ' => ∃ z : Int32, r = some (.int z) ∧ tp_wi n a1 a2 a3 z ∧ th_IV n σ') := by
  have hI := th_IV0 h
  have ⟨h3, hn, hT, hSL⟩ := h
  have hN := th_N0 hT hn
  show WP 90 33 0 [(0, .ref 0), (1, .int a1), (2, .int a2), (3, .int a3)] [] σ _
  refine wp_ldi rfl tm_m1 ?_
  refine wq_cals [.int a1] rfl rfl rfl rfl rfl rfl (th_xgp) ?_
  rintro r1 _ ⟨hr1, rfl⟩
  obtain ⟨z1, rfl, hz1, hn1⟩ : ∃ z : Int32, r1 = some (.int z) ∧ (¬ z = 0 → tg_gp a1) ∧ (z = 0 → ¬ tg_gp a1) := by
    rcases hr1 with ⟨rfl, g⟩ | ⟨rfl, g⟩
    · exact ⟨_, rfl, fun _ => g, fun e => absurd e (by decide)⟩
    · exact ⟨_, rfl, fun e => absurd rfl e, fun _ => g⟩
  refine wq_ifeq rfl (fun h4 => ?_) (fun h4 => ?_)
  · refine wq_con (x := (-1)) rfl (by decide) ?_
    refine wp_reti rfl (th_nI rfl) ⟨_, rfl, Or.inr ⟨fun hk => ?_, rfl⟩, h⟩
    first | exact hn1 h4 hk.1 | exact hn12 h15 hk.2.1 | exact hn23 (Classical.not_not.mp h26) hk.2.2
  · refine wp_lda rfl tm_m0 ?_
    refine wq_getr (p := 1) rfl rfl (f := 0) rfl rfl ?_
    refine wp_ldi rfl tm_m2 ?_
    refine wq_calv [.int a2] rfl rfl rfl rfl rfl rfl rfl rfl rfl (th_hset hN hn) ?_
    rintro r12 _ ⟨hr12, rfl⟩
    obtain ⟨z12, rfl, hz12, hn12⟩ : ∃ z : Int32, r12 = some (.int z) ∧ (¬ z = 0 → th_st n a2) ∧ (z = 0 → ¬ th_st n a2) := by
      rcases hr12 with ⟨rfl, g⟩ | ⟨rfl, g⟩
      · exact ⟨_, rfl, fun _ => g, fun e => absurd e (by decide)⟩
      · exact ⟨_, rfl, fun e => absurd rfl e, fun _ => g⟩
    refine wq_ifeq rfl (fun h15 => ?_) (fun h15 => ?_)
    · refine wq_con (x := (-1)) rfl (by decide) ?_
      refine wp_reti rfl (th_nI rfl) ⟨_, rfl, Or.inr ⟨fun hk => ?_, rfl⟩, h⟩
      first | exact hn1 h4 hk.1 | exact hn12 h15 hk.2.1 | exact hn23 (Classical.not_not.mp h26) hk.2.2
    · refine wp_lda rfl tm_m0 ?_
      refine wq_getr (p := 1) rfl rfl (f := 0) rfl rfl ?_
      refine wp_ldi rfl tm_m3 ?_
      refine wq_calv [.int a3] rfl rfl rfl rfl rfl rfl rfl rfl rfl (th_hset hN hn) ?_
      rintro r23 _ ⟨hr23, rfl⟩
      obtain ⟨z23, rfl, hz23, hn23⟩ : ∃ z : Int32, r23 = some (.int z) ∧ (¬ z = 0 → th_st n a3) ∧ (z = 0 → ¬ th_st n a3) := by
        rcases hr23 with ⟨rfl, g⟩ | ⟨rfl, g⟩
        · exact ⟨_, rfl, fun _ => g, fun e => absurd e (by decide)⟩
        · exact ⟨_, rfl, fun e => absurd rfl e, fun _ => g⟩
      refine wq_ifne rfl (fun h26 => ?_) (fun h26 => ?_)
      · obtain ⟨G, e1, hG⟩ := hz1 h4
        obtain ⟨S, e2, hS⟩ := hz12 h15
        obtain ⟨C, e3, hC⟩ := hz23 h26
        have hp : 2 ^ n ≤ 4096 := Nat.pow_le_pow_right (n := 2) (by decide) hn
        refine wp_lda rfl tm_m0 ?_
        refine wq_getr (p := 1) rfl rfl (f := 0) rfl rfl ?_
        refine wp_ldi rfl tm_m1 ?_
        refine wp_ldi rfl tm_m2 ?_
        refine wp_ldi rfl tm_m3 ?_
        refine wq_calv [.int a1, .int a2, .int a3] rfl rfl rfl rfl rfl rfl rfl rfl rfl (by rw [e1, e2, e3]; exact th_imgi (d := 86) hN hn h3 hG hS hC) ?_
        rintro _ _ ⟨rfl, rfl⟩
        exact wp_reti rfl (th_nI rfl) ⟨_, rfl, Or.inl ⟨G, S, C, e1, e2, e3, hG, by omega, by omega, rfl, ⟨⟨G, e1, hG⟩, ⟨S, e2, hS⟩, ⟨C, e3, hC⟩⟩⟩, h⟩
      · refine wq_con (x := (-1)) rfl (by decide) ?_
        refine wp_reti rfl (th_nI rfl) ⟨_, rfl, Or.inr ⟨fun hk => ?_, rfl⟩, h⟩
        first | exact hn1 h4 hk.1 | exact hn12 h15 hk.2.1 | exact hn23 (Classical.not_not.mp h26) hk.2.2
set_option maxRecDepth 100000 in
set_option maxHeartbeats 4000000 in
theorem tf_m_within {n : Nat} {a1 a2 a3 : Int32} {σ : tm_S} (h : th_IV n σ) : WM 90 180 [.ref 11, .int a1, .int a2, .int a3] σ (fun r σ' => ∃ z : Int32, r = some (.int z) ∧ tp_wi n a1 a2 a3 z ∧ th_IV n σ') := by
  have hI := th_IV0 h
  have ⟨h3, hn, hT, hSL⟩ := hI
  have hN := th_N1 hT hn
  show WP 90 180 0 [(0, .ref 11), (1, .int a1), (2, .int a2), (3, .int a3)] [] σ _
  refine wp_lda rfl tm_m0 ?_
  refine wq_con (x := 0) rfl (by decide) ?_
  refine wq_puti rfl rfl (f := 0) rfl rfl ?_
  refine wp_lda rfl tm_m0 ?_
  refine wp_ldi rfl tm_m1 ?_
  refine wq_calv [.int a1] rfl rfl rfl rfl rfl rfl rfl rfl rfl (th_mgp) ?_
  rintro r7 _ ⟨hr7, rfl⟩
  obtain ⟨z7, rfl, hz7, hn7⟩ : ∃ z : Int32, r7 = some (.int z) ∧ (¬ z = 0 → tg_gp a1) ∧ (z = 0 → ¬ tg_gp a1) := by
    rcases hr7 with ⟨rfl, g⟩ | ⟨rfl, g⟩
    · exact ⟨_, rfl, fun _ => g, fun e => absurd e (by decide)⟩
    · exact ⟨_, rfl, fun e => absurd rfl e, fun _ => g⟩
  refine wq_ifeq rfl (fun h10 => ?_) (fun h10 => ?_)
  · refine wq_con (x := (-1)) rfl (by decide) ?_
    refine wp_reti rfl (th_nI rfl) ⟨_, rfl, Or.inr ⟨fun hk => ?_, rfl⟩, hI⟩
    first | exact hn7 h10 hk.1 | exact hn15 h18 hk.2.1 | exact hn23 h26 hk.2.2
  · refine wp_lda rfl tm_m0 ?_
    refine wp_ldi rfl tm_m2 ?_
    refine wq_calv [.int a2] rfl rfl rfl rfl rfl rfl rfl rfl rfl (tg_mset hN hn) ?_
    rintro r15 _ ⟨hr15, rfl⟩
    obtain ⟨z15, rfl, hz15, hn15⟩ : ∃ z : Int32, r15 = some (.int z) ∧ (¬ z = 0 → th_st n a2) ∧ (z = 0 → ¬ th_st n a2) := by
      rcases hr15 with ⟨rfl, g⟩ | ⟨rfl, g⟩
      · exact ⟨_, rfl, fun _ => g, fun e => absurd e (by decide)⟩
      · exact ⟨_, rfl, fun e => absurd rfl e, fun _ => g⟩
    refine wq_ifeq rfl (fun h18 => ?_) (fun h18 => ?_)
    · refine wq_con (x := (-1)) rfl (by decide) ?_
      refine wp_reti rfl (th_nI rfl) ⟨_, rfl, Or.inr ⟨fun hk => ?_, rfl⟩, hI⟩
      first | exact hn7 h10 hk.1 | exact hn15 h18 hk.2.1 | exact hn23 h26 hk.2.2
    · refine wp_lda rfl tm_m0 ?_
      refine wp_ldi rfl tm_m3 ?_
      refine wq_calv [.int a3] rfl rfl rfl rfl rfl rfl rfl rfl rfl (tg_mset hN hn) ?_
      rintro r23 _ ⟨hr23, rfl⟩
      obtain ⟨z23, rfl, hz23, hn23⟩ : ∃ z : Int32, r23 = some (.int z) ∧ (¬ z = 0 → th_st n a3) ∧ (z = 0 → ¬ th_st n a3) := by
        rcases hr23 with ⟨rfl, g⟩ | ⟨rfl, g⟩
        · exact ⟨_, rfl, fun _ => g, fun e => absurd e (by decide)⟩
        · exact ⟨_, rfl, fun e => absurd rfl e, fun _ => g⟩
      refine wq_ifeq rfl (fun h26 => ?_) (fun h26 => ?_)
      · refine wq_con (x := (-1)) rfl (by decide) ?_
        refine wp_reti rfl (th_nI rfl) ⟨_, rfl, Or.inr ⟨fun hk => ?_, rfl⟩, hI⟩
        first | exact hn7 h10 hk.1 | exact hn15 h18 hk.2.1 | exact hn23 h26 hk.2.2
      · obtain ⟨G, e1, hG⟩ := hz7 h10
        obtain ⟨S, e2, hS⟩ := hz15 h18
        obtain ⟨C, e3, hC⟩ := hz23 h26
        have hp : 2 ^ n ≤ 4096 := Nat.pow_le_pow_right (n := 2) (by decide) hn
        refine wp_lda rfl tm_m0 ?_
        refine wp_ldi rfl tm_m1 ?_
        refine wp_ldi rfl tm_m2 ?_
        refine wp_ldi rfl tm_m3 ?_
        refine wq_calv [.int a1, .int a2, .int a3] rfl rfl rfl rfl rfl rfl rfl rfl rfl (by rw [e1, e2, e3]; exact th_imgs (d := 87) hT hn h3 hG hS hC) ?_
        rintro _ t ⟨rfl, Tt, ut⟩
        refine wp_go rfl ?_
        exact wp_reti rfl (th_nI rfl) ⟨_, rfl, Or.inl ⟨G, S, C, e1, e2, e3, hG, by omega, by omega, rfl, ⟨⟨G, e1, hG⟩, ⟨S, e2, hS⟩, ⟨C, e3, hC⟩⟩⟩, tg_IVm hI Tt ut⟩
set_option maxRecDepth 100000 in
set_option maxHeartbeats 4000000 in
theorem tf_x_own {n : Nat} {a1 a2 a3 : Int32} {σ : tm_S} (h : th_IV n σ) : WM 90 18 [.ref 0, .int a1, .int a2, .int a3] σ (fun r σ' => ∃ z : Int32, r = some (.int z) ∧ tp_own n a1 a2 a3 z ∧ th_IV n σ') := by
  have ⟨h3, hn, hT, hSL⟩ := h
  have hN := th_N0 hT hn
  have hp : 2 ^ n ≤ 4096 := Nat.pow_le_pow_right (n := 2) (by decide) hn
  have hpp : 0 < 2 ^ n := Nat.two_pow_pos n
  show WP 90 18 0 [(0, .ref 0), (1, .int a1), (2, .int a2), (3, .int a3)] [] σ _
  refine wp_ldi rfl tm_m1 ?_
  refine wq_cals [.int a1] rfl rfl rfl rfl rfl rfl (th_xgp) ?_
  rintro r1 _ ⟨hr1, rfl⟩
  obtain ⟨z1, rfl, hz1, hn1⟩ : ∃ z : Int32, r1 = some (.int z) ∧ (¬ z = 0 → tg_gp a1) ∧ (z = 0 → ¬ tg_gp a1) := by
    rcases hr1 with ⟨rfl, g⟩ | ⟨rfl, g⟩
    · exact ⟨_, rfl, fun _ => g, fun e => absurd e (by decide)⟩
    · exact ⟨_, rfl, fun e => absurd rfl e, fun _ => g⟩
  refine wq_ifeq rfl (fun h4 => ?_) (fun h4 => ?_)
  · refine wq_con (x := (-1)) rfl (by decide) ?_
    refine wp_reti rfl (th_nI rfl) ⟨_, rfl, Or.inr ⟨fun hk => ?_, rfl⟩, h⟩
    first | exact hn1 h4 hk.1 | exact hn12 (Classical.not_not.mp h15) hk.2.1 | (obtain ⟨q, rfl, hq⟩ := hk.2.2; have eq : (nI q).toInt = q := nI_toInt (by omega); omega)
  · refine wp_lda rfl tm_m0 ?_
    refine wq_getr (p := 1) rfl rfl (f := 0) rfl rfl ?_
    refine wp_ldi rfl tm_m2 ?_
    refine wq_calv [.int a2] rfl rfl rfl rfl rfl rfl rfl rfl rfl (th_hset hN hn) ?_
    rintro r12 _ ⟨hr12, rfl⟩
    obtain ⟨z12, rfl, hz12, hn12⟩ : ∃ z : Int32, r12 = some (.int z) ∧ (¬ z = 0 → th_st n a2) ∧ (z = 0 → ¬ th_st n a2) := by
      rcases hr12 with ⟨rfl, g⟩ | ⟨rfl, g⟩
      · exact ⟨_, rfl, fun _ => g, fun e => absurd e (by decide)⟩
      · exact ⟨_, rfl, fun e => absurd rfl e, fun _ => g⟩
    refine wq_ifne rfl (fun h15 => ?_) (fun h15 => ?_)
    · obtain ⟨G, e1, hG⟩ := hz1 h4
      obtain ⟨S, e2, hS⟩ := hz12 h15
      refine wp_ldi rfl tm_m3 ?_
      refine wp_sw rfl ?_
      by_cases h21_0 : (a3).toInt = 0
      · rw [h21_0]
        show WP _ 18 48 _ _ _ _
        refine wp_lda rfl tm_m0 ?_
        refine wq_getr (p := 1) rfl rfl (f := 0) rfl rfl ?_
        refine wp_ldi rfl tm_m1 ?_
        refine wp_ldi rfl tm_m2 ?_
        refine wp_ldi rfl tm_m2 ?_
        refine wq_calv [.int a1, .int a2, .int a2] rfl rfl rfl rfl rfl rfl rfl rfl rfl (by rw [e1, e2]; exact th_acts (d := 87) hN hn h3 hG hS hS) ?_
        rintro _ _ ⟨rfl, rfl⟩
        obtain ⟨q, q1, e3⟩ := nI_of (x := a3) (by rw [tn_ltI]; show ¬ a3.toInt < 0; omega)
        have eq : a3.toInt = q := by rw [e3]; exact nI_toInt q1
        obtain rfl : q = 0 := by omega
        exact wp_reti rfl (th_nI rfl) ⟨_, rfl, Or.inl ⟨G, S, 0, e1, e2, e3, hG, by omega, by decide, by rw [List.countP_congr (fun x hx => by rw [tg_self hn h3 hG hS hx])]; rfl, ⟨⟨G, e1, hG⟩, ⟨S, e2, hS⟩, ⟨0, e3, by decide⟩⟩⟩, h⟩
      by_cases h21_1 : (a3).toInt = 1
      · rw [h21_1]
        show WP _ 18 59 _ _ _ _
        refine wp_lda rfl tm_m0 ?_
        refine wq_getr (p := 1) rfl rfl (f := 0) rfl rfl ?_
        refine wp_ldi rfl tm_m1 ?_
        refine wp_ldi rfl tm_m2 ?_
        refine wp_lda rfl tm_m0 ?_
        refine wq_getr (p := 1) rfl rfl (f := 0) rfl rfl ?_
        refine wq_calv [] rfl rfl rfl rfl rfl rfl rfl rfl rfl (th_alln hN hn) ?_
        rintro _ _ ⟨rfl, rfl⟩
        refine wq_calv [.int a1, .int a2, .int (nI (2 ^ n - 1))] rfl rfl rfl rfl rfl rfl rfl rfl rfl (by rw [e1, e2]; exact th_imgi (d := 86) hN hn h3 hG hS (by omega)) ?_
        rintro _ _ ⟨rfl, rfl⟩
        obtain ⟨q, q1, e3⟩ := nI_of (x := a3) (by rw [tn_ltI]; show ¬ a3.toInt < 0; omega)
        have eq : a3.toInt = q := by rw [e3]; exact nI_toInt q1
        obtain rfl : q = 1 := by omega
        exact wp_reti rfl (th_nI rfl) ⟨_, rfl, Or.inl ⟨G, S, 1, e1, e2, e3, hG, by omega, by decide, rfl, ⟨⟨G, e1, hG⟩, ⟨S, e2, hS⟩, ⟨1, e3, by decide⟩⟩⟩, h⟩
      by_cases h21_2 : (a3).toInt = 2
      · rw [h21_2]
        show WP _ 18 76 _ _ _ _
        refine wp_lda rfl tm_m0 ?_
        refine wq_getr (p := 1) rfl rfl (f := 0) rfl rfl ?_
        refine wp_ldi rfl tm_m1 ?_
        refine wp_ldi rfl tm_m2 ?_
        refine wp_lda rfl tm_m0 ?_
        refine wq_getr (p := 1) rfl rfl (f := 0) rfl rfl ?_
        refine wq_calv [] rfl rfl rfl rfl rfl rfl rfl rfl rfl (th_alln hN hn) ?_
        rintro _ _ ⟨rfl, rfl⟩
        refine wq_calv [.int a1, .int a2, .int (nI (2 ^ n - 1))] rfl rfl rfl rfl rfl rfl rfl rfl rfl (by rw [e1, e2]; exact th_acts (d := 87) hN hn h3 hG hS (by omega)) ?_
        rintro _ _ ⟨rfl, rfl⟩
        obtain ⟨q, q1, e3⟩ := nI_of (x := a3) (by rw [tn_ltI]; show ¬ a3.toInt < 0; omega)
        have eq : a3.toInt = q := by rw [e3]; exact nI_toInt q1
        obtain rfl : q = 2 := by omega
        exact wp_reti rfl (th_nI rfl) ⟨_, rfl, Or.inl ⟨G, S, 2, e1, e2, e3, hG, by omega, by decide, by rw [tg_all (by omega)]; rfl, ⟨⟨G, e1, hG⟩, ⟨S, e2, hS⟩, ⟨2, e3, by decide⟩⟩⟩, h⟩
      rw [show tb_sw _ _ (a3).toInt = 93 from tb_swd (by intro q hq; simp only [List.mem_cons, List.not_mem_nil, or_false] at hq; rcases hq with rfl | rfl | rfl <;> (intro e; dsimp only at e; omega))]
      refine wq_con (x := (-1)) rfl (by decide) ?_
      refine wp_reti rfl (th_nI rfl) ⟨_, rfl, Or.inr ⟨fun hk => ?_, rfl⟩, h⟩
      first | exact hn1 h4 hk.1 | exact hn12 (Classical.not_not.mp h15) hk.2.1 | (obtain ⟨q, rfl, hq⟩ := hk.2.2; have eq : (nI q).toInt = q := nI_toInt (by omega); omega)
    · refine wq_con (x := (-1)) rfl (by decide) ?_
      refine wp_reti rfl (th_nI rfl) ⟨_, rfl, Or.inr ⟨fun hk => ?_, rfl⟩, h⟩
      first | exact hn1 h4 hk.1 | exact hn12 (Classical.not_not.mp h15) hk.2.1 | (obtain ⟨q, rfl, hq⟩ := hk.2.2; have eq : (nI q).toInt = q := nI_toInt (by omega); omega)
set_option maxRecDepth 100000 in
set_option maxHeartbeats 4000000 in
theorem tf_m_own {n : Nat} {a1 a2 a3 : Int32} {σ : tm_S} (h : th_IV n σ) : WM 90 170 [.ref 11, .int a1, .int a2, .int a3] σ (fun r σ' => ∃ z : Int32, r = some (.int z) ∧ tp_own n a1 a2 a3 z ∧ th_IV n σ') := by
  have hI := th_IV0 h
  have ⟨h3, hn, hT, hSL⟩ := hI
  have hN := th_N1 hT hn
  have hp : 2 ^ n ≤ 4096 := Nat.pow_le_pow_right (n := 2) (by decide) hn
  have hpp : 0 < 2 ^ n := Nat.two_pow_pos n
  generalize hs0 : tm_sI σ 11 0 0 = s0 at hI hT hN
  have k41 : ∀ G S W : Nat, a1 = nI G → a2 = nI S → a3 = nI W → G ≤ 2 → S < 2 ^ n → W ≤ 2 → ∀ f m : Nat, m + f = n → 1 ≤ m → WP 90 170 41 [(6, .int (nI m)), (5, .int (nI (tg_I n G S m).length)), (4, .int (nI ((tg_I n G S m).countP (fun x => x == S)))), (0, .ref 11), (1, .int (nI G)), (2, .int (nI S)), (3, .int (nI W))] [] s0 (fun r σ' => ∃ z : Int32, r = some (.int z) ∧ tp_own n a1 a2 a3 z ∧ th_IV n σ') := by
    intro G S W e1 e2 e3 hG hS hW f
    have ok : tp_ook n a1 a2 a3 := ⟨⟨G, e1, hG⟩, ⟨S, e2, hS⟩, ⟨W, e3, hW⟩⟩
    induction f with
    | zero =>
      intro m hm h1
      obtain rfl : m = n := by omega
      refine wp_ldi rfl tm_m0 ?_
      refine wp_lda rfl tm_m3 ?_
      refine wq_geti rfl rfl (f := 1) rfl rfl (Or.inl rfl) ?_
      rw [hN]
      refine wq_icge rfl (fun h47 => ?_) (fun h47 => absurd (nI_le (Nat.le_refl _) (by omega)) h47)
      refine wp_ldi rfl tm_m6 ?_
      refine wq_ifne rfl (fun h113 => ?_) (fun h113 => ?_)
      · refine wp_ldi rfl tm_m6 ?_
        refine wq_con (x := 2) rfl (by decide) ?_
        refine wq_icne rfl (fun h121 => ?_) (fun h121 => ?_)
        · refine wp_lda rfl tm_m3 ?_
          refine wp_ldi rfl tm_m4 ?_
          refine wp_ldi rfl tm_m5 ?_
          refine wq_con (x := 1) rfl (by decide) ?_
          refine wp_lda rfl tm_m3 ?_
          refine wq_geti rfl rfl (f := 1) rfl rfl (Or.inl rfl) ?_
          rw [hN]
          refine wq_ishl rfl ?_
          refine wq_con (x := 1) rfl (by decide) ?_
          refine wq_isub rfl ?_
          rw [th_all1 _ hn]
          refine wq_calv [.int (nI G), .int (nI S), .int (nI (2 ^ m - 1))] rfl rfl rfl rfl rfl rfl rfl rfl rfl (th_imgs (d := 87) hT hn h3 hG hS (by omega)) ?_
          rintro _ t ⟨rfl, Tt, ut⟩
          exact wp_reti rfl (th_nI rfl) ⟨_, rfl, Or.inl ⟨G, S, W, e1, e2, e3, hG, by omega, hW, by unfold tg_ow; rw [if_neg (fun q => h113 (by rw [q]; rfl)), if_neg (fun q => h121 (by rw [q]; rfl))], ok⟩, tg_IVm hI Tt ut⟩
        · refine wp_ldi rfl tm_m1 ?_
          refine wp_go rfl ?_
          exact wp_reti rfl (th_nI rfl) ⟨_, rfl, Or.inl ⟨G, S, W, e1, e2, e3, hG, by omega, hW, by rw [show W = 2 from (nI_eq (by omega) (by decide)).mp (Classical.not_not.mp h121)]; rfl, ok⟩, hI⟩
      · refine wp_ldi rfl tm_m2 ?_
        exact wp_reti rfl (th_nI rfl) ⟨_, rfl, Or.inl ⟨G, S, W, e1, e2, e3, hG, by omega, hW, by rw [show W = 0 from (nI_eq (by omega) (by decide)).mp (Classical.not_not.mp h113)]; rfl, ok⟩, hI⟩
    | succ f ih =>
      intro m hm h1
      have hfi := th_fP_iff (n := n) (g := G) (m := m) hn (by omega)
      have k66 : th_fac n G m = true → ∀ e t : Nat, t + e = n → WP 90 170 66 [(7, .int (nI t)), (6, .int (nI m)), (5, .int (nI (tg_J n G S m t).length)), (4, .int (nI ((tg_J n G S m t).countP (fun x => x == S)))), (0, .ref 11), (1, .int (nI G)), (2, .int (nI S)), (3, .int (nI W))] [] s0 (fun r σ' => ∃ z : Int32, r = some (.int z) ∧ tp_own n a1 a2 a3 z ∧ th_IV n σ') := by
        intro hf e
        induction e with
        | zero =>
          intro t ht
          obtain rfl : t = n := by omega
          refine wp_ldi rfl tm_m0 ?_
          refine wp_lda rfl tm_m4 ?_
          refine wq_geti rfl rfl (f := 1) rfl rfl (Or.inl rfl) ?_
          rw [hN]
          refine wq_icge rfl (fun h72 => ?_) (fun h72 => absurd (nI_le (Nat.le_refl _) (by omega)) h72)
          refine wq_inc (c := 1) [(6, .int ((nI m) + 1)), (7, .int (nI t)), (5, .int (nI (tg_J t G S m t).length)), (4, .int (nI ((tg_J t G S m t).countP (fun x => x == S)))), (0, .ref 11), (1, .int (nI G)), (2, .int (nI S)), (3, .int (nI W))] rfl tm_m1 rfl rfl ?_
          refine wp_go rfl ?_
          rw [nI_1, tg_Jn hf]
          exact WP.less (ih (m + 1) (by omega) (by omega)) (by simp)
        | succ e ihe =>
          intro t ht
          have hit := th_im_lt (n := n) (S := S) (m := m) (t := t) (by omega) n
          have hle := tg_Jl (n := n) (g := G) (a := S) (m := m) (t := t) hn (by omega) (by omega)
          have hl2 : (tg_J n G S m t).countP (fun x => x == S) ≤ 144 := Nat.le_trans List.countP_le_length hle
          have e4 : (tg_J n G S m (t + 1)).countP (fun x => x == S) = (tg_J n G S m t).countP (fun x => x == S) + cond (th_im n S m t n == S) 1 0 := by rw [tg_J1, tg_c1]
          have e5 : (tg_J n G S m (t + 1)).length = (tg_J n G S m t).length + 1 := by rw [tg_J1, List.length_append]; rfl
          refine wp_ldi rfl tm_m0 ?_
          refine wp_lda rfl tm_m4 ?_
          refine wq_geti rfl rfl (f := 1) rfl rfl (Or.inl rfl) ?_
          rw [hN]
          refine wq_icge rfl (fun h72 => absurd h72 (nI_ge (by omega) (by omega))) (fun h72 => ?_)
          refine wp_ldi rfl tm_m2 ?_
          refine wq_con (x := 1) rfl (by decide) ?_
          refine wq_iadd rfl ?_
          refine wq_sti [(5, .int ((nI (tg_J n G S m t).length) + 1)), (7, .int (nI t)), (6, .int (nI m)), (4, .int (nI ((tg_J n G S m t).countP (fun x => x == S)))), (0, .ref 11), (1, .int (nI G)), (2, .int (nI S)), (3, .int (nI W))] rfl rfl ?_
          refine wp_lda rfl tm_m4 ?_
          refine wp_ldi rfl tm_m6 ?_
          refine wp_ldi rfl tm_m2 ?_
          refine wp_ldi rfl tm_m1 ?_
          refine wq_calv [.int (nI S), .int (nI m), .int (nI t)] rfl rfl rfl rfl rfl rfl rfl rfl rfl (th_imof (d := 88) hN hn hS (by omega) (by omega)) ?_
          rintro _ _ ⟨rfl, rfl⟩
          refine wp_ldi rfl tm_m6 ?_
          refine wq_icne rfl (fun h91 => ?_) (fun h91 => ?_)
          · refine wq_inc (c := 1) [(7, .int ((nI t) + 1)), (5, .int ((nI (tg_J n G S m t).length) + 1)), (6, .int (nI m)), (4, .int (nI ((tg_J n G S m t).countP (fun x => x == S)))), (0, .ref 11), (1, .int (nI G)), (2, .int (nI S)), (3, .int (nI W))] rfl tm_m1 rfl rfl ?_
            refine wp_go rfl ?_
            rw [show (th_im n S m t n == S) = false from Bool.eq_false_iff.mpr (fun q => h91 (by rw [eq_of_beq q]))] at e4
            rw [nI_1, nI_1, show (tg_J n G S m t).countP (fun x => x == S) = (tg_J n G S m (t + 1)).countP (fun x => x == S) from e4.symm, ← e5]
            exact WP.less (ihe (t + 1) (by omega)) (by simp)
          · refine wp_ldi rfl tm_m3 ?_
            refine wq_con (x := 1) rfl (by decide) ?_
            refine wq_iadd rfl ?_
            refine wq_sti [(4, .int ((nI ((tg_J n G S m t).countP (fun x => x == S))) + 1)), (5, .int ((nI (tg_J n G S m t).length) + 1)), (7, .int (nI t)), (6, .int (nI m)), (0, .ref 11), (1, .int (nI G)), (2, .int (nI S)), (3, .int (nI W))] rfl rfl ?_
            refine wq_inc (c := 1) [(7, .int ((nI t) + 1)), (4, .int ((nI ((tg_J n G S m t).countP (fun x => x == S))) + 1)), (5, .int ((nI (tg_J n G S m t).length) + 1)), (6, .int (nI m)), (0, .ref 11), (1, .int (nI G)), (2, .int (nI S)), (3, .int (nI W))] rfl tm_m2 rfl rfl ?_
            refine wp_go rfl ?_
            rw [show (th_im n S m t n == S) = true from beq_iff_eq.mpr ((nI_eq (by omega) (by omega)).mp (Classical.not_not.mp h91))] at e4
            rw [nI_1, nI_1, nI_1, show (tg_J n G S m t).countP (fun x => x == S) + 1 = (tg_J n G S m (t + 1)).countP (fun x => x == S) from e4.symm, ← e5]
            exact WP.less (ihe (t + 1) (by omega)) (by simp)
      refine wp_ldi rfl tm_m0 ?_
      refine wp_lda rfl tm_m3 ?_
      refine wq_geti rfl rfl (f := 1) rfl rfl (Or.inl rfl) ?_
      rw [hN]
      refine wq_icge rfl (fun h47 => absurd h47 (nI_ge (by omega) (by omega))) (fun h47 => ?_)
      refine wp_lda rfl tm_m3 ?_
      refine wp_ldi rfl tm_m4 ?_
      refine wp_ldi rfl tm_m0 ?_
      refine wq_calv [.int (nI G), .int (nI m)] rfl rfl rfl rfl rfl rfl rfl rfl rfl (th_mfac (d := 88) hN hn h3 hG) ?_
      rintro r54 _ ⟨hr54, rfl⟩
      obtain ⟨z54, rfl, hz54, hn54⟩ : ∃ z : Int32, r54 = some (.int z) ∧ (¬ z = 0 → th_fP n G (nI m)) ∧ (z = 0 → ¬ th_fP n G (nI m)) := by
        rcases hr54 with ⟨rfl, g⟩ | ⟨rfl, g⟩
        · exact ⟨_, rfl, fun _ => g, fun e => absurd e (by decide)⟩
        · exact ⟨_, rfl, fun e => absurd rfl e, fun _ => g⟩
      refine wq_ifne rfl (fun h57 => ?_) (fun h57 => ?_)
      · refine wq_con (x := nI 0) rfl (by decide) ?_
        refine wq_sti [(7, .int (nI 0)), (6, .int (nI m)), (5, .int (nI (tg_I n G S m).length)), (4, .int (nI ((tg_I n G S m).countP (fun x => x == S)))), (0, .ref 11), (1, .int (nI G)), (2, .int (nI S)), (3, .int (nI W))] rfl rfl ?_
        refine WP.less (k66 (hfi.mp (hz54 h57)) n 0 (by omega)) (by simp [tg_J0])
      · refine wp_go rfl ?_
        refine wq_inc (c := 1) [(6, .int ((nI m) + 1)), (5, .int (nI (tg_I n G S m).length)), (4, .int (nI ((tg_I n G S m).countP (fun x => x == S)))), (0, .ref 11), (1, .int (nI G)), (2, .int (nI S)), (3, .int (nI W))] rfl tm_m0 rfl rfl ?_
        refine wp_go rfl ?_
        rw [nI_1, ← tg_Is (n := n) (g := G) (a := S) (m := m) (fun q => hn54 (Classical.not_not.mp h57) (hfi.mpr q))]
        exact WP.less (ih (m + 1) (by omega) (by omega)) (by simp)
  show WP 90 170 0 [(0, .ref 11), (1, .int a1), (2, .int a2), (3, .int a3)] [] σ _
  refine wp_lda rfl tm_m0 ?_
  refine wq_con (x := 0) rfl (by decide) ?_
  refine wq_puti rfl rfl (f := 0) rfl rfl ?_
  rw [hs0]
  refine wp_lda rfl tm_m0 ?_
  refine wp_ldi rfl tm_m1 ?_
  refine wq_calv [.int a1] rfl rfl rfl rfl rfl rfl rfl rfl rfl (th_mgp) ?_
  rintro r7 _ ⟨hr7, rfl⟩
  obtain ⟨z7, rfl, hz7, hn7⟩ : ∃ z : Int32, r7 = some (.int z) ∧ (¬ z = 0 → tg_gp a1) ∧ (z = 0 → ¬ tg_gp a1) := by
    rcases hr7 with ⟨rfl, g⟩ | ⟨rfl, g⟩
    · exact ⟨_, rfl, fun _ => g, fun e => absurd e (by decide)⟩
    · exact ⟨_, rfl, fun e => absurd rfl e, fun _ => g⟩
  refine wq_ifeq rfl (fun h10 => ?_) (fun h10 => ?_)
  · have g10 : (z7).toInt = 0 := congrArg Int32.toInt h10
    refine wq_con (x := (-1)) rfl (by decide) ?_
    refine wp_reti rfl (th_nI rfl) ⟨_, rfl, Or.inr ⟨fun hk => ?_, rfl⟩, hI⟩
    first | exact hn7 h10 hk.1 | exact hn15 h18 hk.2.1 | (obtain ⟨q, rfl, hq⟩ := hk.2.2; have eq : (nI q).toInt = q := nI_toInt (by omega); first | (change (nI q).toInt < (0 : Int) at g22; omega) | (change ¬ (nI q).toInt ≤ (2 : Int) at g27; omega))
  · refine wp_lda rfl tm_m0 ?_
    refine wp_ldi rfl tm_m2 ?_
    refine wq_calv [.int a2] rfl rfl rfl rfl rfl rfl rfl rfl rfl (tg_mset hN hn) ?_
    rintro r15 _ ⟨hr15, rfl⟩
    obtain ⟨z15, rfl, hz15, hn15⟩ : ∃ z : Int32, r15 = some (.int z) ∧ (¬ z = 0 → th_st n a2) ∧ (z = 0 → ¬ th_st n a2) := by
      rcases hr15 with ⟨rfl, g⟩ | ⟨rfl, g⟩
      · exact ⟨_, rfl, fun _ => g, fun e => absurd e (by decide)⟩
      · exact ⟨_, rfl, fun e => absurd rfl e, fun _ => g⟩
    refine wq_ifeq rfl (fun h18 => ?_) (fun h18 => ?_)
    · have g18 : (z15).toInt = 0 := congrArg Int32.toInt h18
      refine wq_con (x := (-1)) rfl (by decide) ?_
      refine wp_reti rfl (th_nI rfl) ⟨_, rfl, Or.inr ⟨fun hk => ?_, rfl⟩, hI⟩
      first | exact hn7 h10 hk.1 | exact hn15 h18 hk.2.1 | (obtain ⟨q, rfl, hq⟩ := hk.2.2; have eq : (nI q).toInt = q := nI_toInt (by omega); first | (change (nI q).toInt < (0 : Int) at g22; omega) | (change ¬ (nI q).toInt ≤ (2 : Int) at g27; omega))
    · refine wp_ldi rfl tm_m3 ?_
      refine wq_iflt rfl (fun h22 => ?_) (fun h22 => ?_)
      · have g22 : (a3).toInt < 0 := tn_ltI.mp h22
        refine wq_con (x := (-1)) rfl (by decide) ?_
        refine wp_reti rfl (th_nI rfl) ⟨_, rfl, Or.inr ⟨fun hk => ?_, rfl⟩, hI⟩
        first | exact hn7 h10 hk.1 | exact hn15 h18 hk.2.1 | (obtain ⟨q, rfl, hq⟩ := hk.2.2; have eq : (nI q).toInt = q := nI_toInt (by omega); first | (change (nI q).toInt < (0 : Int) at g22; omega) | (change ¬ (nI q).toInt ≤ (2 : Int) at g27; omega))
      · have g22 : ¬ (a3).toInt < 0 := fun g => h22 (tn_ltI.mpr g)
        refine wp_ldi rfl tm_m3 ?_
        refine wq_con (x := 2) rfl (by decide) ?_
        refine wq_icle rfl (fun h27 => ?_) (fun h27 => ?_)
        · have g27 : (a3).toInt ≤ 2 := tn_leI.mp h27
          refine wq_con (x := nI 0) rfl (by decide) ?_
          refine wq_sti [(4, .int (nI 0)), (0, .ref 11), (1, .int a1), (2, .int a2), (3, .int a3)] rfl rfl ?_
          refine wq_con (x := nI 0) rfl (by decide) ?_
          refine wq_sti [(5, .int (nI 0)), (4, .int (nI 0)), (0, .ref 11), (1, .int a1), (2, .int a2), (3, .int a3)] rfl rfl ?_
          refine wq_con (x := nI 1) rfl (by decide) ?_
          refine wq_sti [(6, .int (nI 1)), (5, .int (nI 0)), (4, .int (nI 0)), (0, .ref 11), (1, .int a1), (2, .int a2), (3, .int a3)] rfl rfl ?_
          change ¬ a3.toInt < (0 : Int) at g22
          change a3.toInt ≤ (2 : Int) at g27
          obtain ⟨G, e1, hG⟩ := hz7 h10
          obtain ⟨S, e2, hS⟩ := hz15 h18
          obtain ⟨W, w1, e3⟩ := nI_of (x := a3) (by rw [tn_ltI]; show ¬ a3.toInt < 0; omega)
          have ew : a3.toInt = W := by rw [e3]; exact nI_toInt w1
          have kk := k41 G S W e1 e2 e3 hG hS (by omega) (n - 1) 1 (by omega) (by omega)
          rw [e1, e2, e3] at kk ⊢
          exact WP.less kk (by simp [tg_I1])
        · have g27 : ¬ (a3).toInt ≤ 2 := fun g => h27 (tn_leI.mpr g)
          refine wq_con (x := (-1)) rfl (by decide) ?_
          refine wp_reti rfl (th_nI rfl) ⟨_, rfl, Or.inr ⟨fun hk => ?_, rfl⟩, hI⟩
          first | exact hn7 h10 hk.1 | exact hn15 h18 hk.2.1 | (obtain ⟨q, rfl, hq⟩ := hk.2.2; have eq : (nI q).toInt = q := nI_toInt (by omega); first | (change (nI q).toInt < (0 : Int) at g22; omega) | (change ¬ (nI q).toInt ≤ (2 : Int) at g27; omega))
