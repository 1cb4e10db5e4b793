/-! ===== leadings: goals, the reference ===== -/
/-- the first from q on that holds P -/
def tl_fs (P : Nat → Bool) : Nat → Nat → Nat
  | 0, q => q
  | f + 1, q => if P q = true then q else tl_fs P f (q + 1)
theorem tl_fsk {P : Nat → Bool} : ∀ {f q : Nat}, (∃ j : Nat, q ≤ j ∧ j < q + f ∧ P j = true) → q ≤ tl_fs P f q ∧ tl_fs P f q < q + f ∧ P (tl_fs P f q) = true ∧ ∀ j : Nat, q ≤ j → j < tl_fs P f q → P j = false
  | 0, q, ⟨j, h1, h2, _⟩ => absurd h2 (by omega)
  | f + 1, q, ⟨j, h1, h2, h3⟩ => by
    show q ≤ (if P q = true then q else tl_fs P f (q + 1)) ∧ (if P q = true then q else tl_fs P f (q + 1)) < q + (f + 1) ∧ P (if P q = true then q else tl_fs P f (q + 1)) = true ∧ ∀ j : Nat, q ≤ j → j < (if P q = true then q else tl_fs P f (q + 1)) → P j = false
    by_cases h : P q = true
    · rw [if_pos h]
      exact ⟨Nat.le_refl _, by omega, h, fun i i1 i2 => absurd i1 (by omega)⟩
    · rw [if_neg h]
      have hj : q + 1 ≤ j := by
        rcases Nat.lt_or_ge q j with e | e
        · exact e
        · obtain rfl : j = q := by omega
          exact absurd h3 h
      obtain ⟨a1, a2, a3, a4⟩ := tl_fsk (P := P) (f := f) (q := q + 1) ⟨j, hj, by omega, h3⟩
      refine ⟨by omega, by omega, a3, fun i i1 i2 => ?_⟩
      by_cases e : i = q
      · rw [e]
        exact Bool.eq_false_iff.mpr h
      · exact a4 i (by omega) i2
def tl_Lu (n a c u : Nat) : Nat := (tl_LW (th_po a n) (tl_d n a c) (th_po a n - th_po u (th_po a n)) u).1
def tl_P (n a c u i j : Nat) : Bool := !(u.testBit j) && decide (tl_d n a c i j + tl_Lu n a c (u ||| 2 ^ j) = tl_Lu n a c u)
def tl_fb (n a c u i : Nat) : Nat := tl_fs (tl_P n a c u i) (th_po a n) 0
def tl_tk (n a c : Nat) : Nat → Nat
  | 0 => 0
  | m + 1 => tl_tk n a c m ||| 2 ^ tl_fb n a c (tl_tk n a c m) m
theorem tl_fbo {n a c u i : Nat} (hn : n ≤ 12) (hac : th_po a n = th_po c n) (hu : u < 2 ^ th_po a n) (hi : th_po u (th_po a n) = i) (hik : i < th_po a n) : tl_fb n a c u i < th_po a n ∧ u.testBit (tl_fb n a c u i) = false ∧ tl_d n a c i (tl_fb n a c u i) + tl_Lu n a c (u ||| 2 ^ tl_fb n a c u i) = tl_Lu n a c u ∧ ∀ j : Nat, j < tl_fb n a c u i → tl_P n a c u i j = false := by
  obtain ⟨r, hr⟩ : ∃ r : Nat, i + (r + 1) = th_po a n := ⟨th_po a n - i - 1, by omega⟩
  obtain ⟨j, j1, j2, j3⟩ := tl_att hn hac hu (by rw [hi]; exact hr)
  obtain ⟨o1, o2, o3⟩ := tl_or hu j1 j2
  have hP : tl_P n a c u i j = true := by
    unfold tl_P tl_Lu
    rw [j2, o3, hi, show th_po a n - (i + 1) = r by omega, show th_po a n - i = r + 1 by omega]
    rw [show th_po a n - (r + 1) = i by omega] at j3
    rw [j3]
    simp
  obtain ⟨-, q2, q3, q4⟩ := tl_fsk (P := tl_P n a c u i) (f := th_po a n) (q := 0) ⟨j, Nat.zero_le _, by omega, hP⟩
  have q5 : tl_P n a c u i (tl_fb n a c u i) = true := q3
  unfold tl_P at q5
  rw [Bool.and_eq_true, decide_eq_true_eq] at q5
  refine ⟨by show tl_fs _ _ _ < _; omega, ?_, q5.2, fun j hj => q4 j (Nat.zero_le _) hj⟩
  have := q5.1
  cases hb : u.testBit (tl_fb n a c u i) with
  | false => rfl
  | true => rw [hb] at this; cases this
theorem tl_tko {n a c : Nat} (hn : n ≤ 12) (hac : th_po a n = th_po c n) : ∀ m : Nat, m ≤ th_po a n → tl_tk n a c m < 2 ^ th_po a n ∧ th_po (tl_tk n a c m) (th_po a n) = m
  | 0, _ => ⟨Nat.two_pow_pos _, th_sm0 (fun i _ => Nat.zero_testBit i)⟩
  | m + 1, h => by
    obtain ⟨h1, h2⟩ := tl_tko hn hac m (by omega)
    obtain ⟨f1, f2, -, -⟩ := tl_fbo hn hac h1 h2 (by omega)
    obtain ⟨o1, -, o3⟩ := tl_or h1 f1 f2
    exact ⟨o1, by show th_po (tl_tk n a c m ||| _) _ = _; rw [o3, h2]⟩
set_option maxRecDepth 100000 in
set_option maxHeartbeats 4000000 in
theorem tl_best {d n a c u i : Nat} {s : tm_S} (hn : n ≤ 12) (hac : th_po a n = th_po c n) (hu : u < 2 ^ th_po a n) (hi : th_po u (th_po a n) = i) (hik : i < th_po a n) (hC : tl_C n a c s) (hA : tl_A n a c 0 (s.1 18) (s.1 19)) : WM (d + 2) 46 [.ref 2, .int (nI u), .int (nI i)] s (th_is (.int (nI (tl_fb n a c u i))) s) := by
  have hk : th_po a n ≤ n := th_sm_le
  have hp : 2 ^ th_po a n ≤ 4096 := Nat.pow_le_pow_right (n := 2) (by decide) (show th_po a n ≤ 12 by omega)
  obtain ⟨f1, f2, f3, f4⟩ := tl_fbo hn hac hu hi hik
  have hLu : ∀ v : Nat, v < 2 ^ th_po a n → s.1 18 v = nI (tl_Lu n a c v) ∧ tl_Lu n a c v ≤ 72 := fun v hv => by
    have hpv : th_po v (th_po a n) ≤ th_po a n := th_sm_le
    have := tl_LWb hn hac (th_po a n - th_po v (th_po a n)) v hv (by omega)
    exact ⟨(hA v (Nat.zero_le _) hv).1, by unfold tl_Lu; omega⟩
  have x1 := (tl_nxo (S := a) (n := n) hik).1
  have k2 : ∀ f q : Nat, q + f = tl_fb n a c u i → WP (d + 2) 46 2 [(3, .int (nI q)), (0, .ref 2), (1, .int (nI u)), (2, .int (nI i))] [] s (th_is (.int (nI (tl_fb n a c u i))) s) := by
    intro f
    induction f with
    | zero =>
      intro q hq
      have eb := th_bt1 (S := u) (x := q) (by omega) (by omega)
      have y1 := (tl_nxo (S := c) (n := n) (show q < th_po c n by omega)).1
      obtain rfl : q = tl_fb n a c u i := by omega
      refine wp_ldi rfl tm_m0 ?_
      refine wp_lda rfl tm_m1 ?_
      refine wq_geti rfl rfl (f := 5) rfl rfl (Or.inl rfl) ?_
      rw [hC.2.1]
      refine wq_icge rfl (fun h7 => absurd h7 (nI_ge (by omega) (by omega))) (fun h7 => ?_)
      refine wp_ldi rfl tm_m2 ?_
      refine wp_ldi rfl tm_m0 ?_
      refine wq_ishr rfl ?_
      refine wq_con (x := 1) rfl (by decide) ?_
      refine wq_iand rfl ?_
      refine wq_ifne rfl (fun h15 => absurd (by rw [eb, f2]; rfl) h15) (fun h15 => ?_)
      have hb : u.testBit (tl_fb n a c u i) = false := f2
      obtain ⟨o1, o2, o3⟩ := tl_or hu (show tl_fb n a c u i < th_po a n by omega) hb
      obtain ⟨g1, g2⟩ := hLu _ o1
      obtain ⟨g3, g4⟩ := hLu _ hu
      have hd6 := tl_d6 (c := c) (i := i) (j := tl_fb n a c u i) hn hik (by omega)
      refine wp_lda rfl tm_m1 ?_
      refine wp_ldi rfl tm_m2 ?_
      refine wp_ldi rfl tm_m3 ?_
      refine wp_ldi rfl tm_m0 ?_
      refine wq_calv [.int (nI u), .int (nI i), .int (nI (tl_fb n a c u i))] rfl rfl rfl rfl rfl rfl rfl rfl rfl (tl_sum hn x1 y1 (by omega) (by omega) (by omega) hC.1 (tl_Nn hC.2.2.1 hik) (tl_Nn hC.2.2.2 (by omega)) g1) ?_
      rintro _ _ ⟨rfl, rfl⟩
      rw [show th_ap n (tl_nx a i n) (tl_nx c (tl_fb n a c u i) n) + tl_Lu n a c (u ||| 2 ^ (tl_fb n a c u i)) = tl_d n a c i (tl_fb n a c u i) + tl_Lu n a c (u ||| 2 ^ (tl_fb n a c u i)) from rfl]
      refine wp_lda rfl tm_m1 ?_
      refine wq_getr (p := 18) rfl rfl (f := 0) rfl rfl ?_
      refine wp_ldi rfl tm_m2 ?_
      refine wp_iald rfl rfl (nI_in (by omega) (by decide)) ?_
      rw [nI_clamp (n := u) (by omega), g3]
      refine wq_icne rfl (fun h31 => absurd (by rw [f3]) h31) (fun h31 => ?_)
      refine wp_ldi rfl tm_m0 ?_
      exact wp_reti rfl (th_nI rfl) ⟨rfl, rfl⟩
    | succ f ih =>
      intro q hq
      have eb := th_bt1 (S := u) (x := q) (by omega) (by omega)
      have y1 := (tl_nxo (S := c) (n := n) (show q < th_po c n by omega)).1
      refine wp_ldi rfl tm_m0 ?_
      refine wp_lda rfl tm_m1 ?_
      refine wq_geti rfl rfl (f := 5) rfl rfl (Or.inl rfl) ?_
      rw [hC.2.1]
      refine wq_icge rfl (fun h7 => absurd h7 (nI_ge (by omega) (by omega))) (fun h7 => ?_)
      refine wp_ldi rfl tm_m2 ?_
      refine wp_ldi rfl tm_m0 ?_
      refine wq_ishr rfl ?_
      refine wq_con (x := 1) rfl (by decide) ?_
      refine wq_iand rfl ?_
      refine wq_ifne rfl (fun h15 => ?_) (fun h15 => ?_)
      · refine wq_inc (c := 1) [(3, .int ((nI q) + 1)), (0, .ref 2), (1, .int (nI u)), (2, .int (nI i))] rfl tm_m0 rfl rfl ?_
        refine wp_go rfl ?_
        rw [nI_1]
        exact WP.less (ih (q + 1) (by omega)) (by simp)
      · have hb : u.testBit q = false := by
          cases hb : u.testBit q with
          | false => rfl
          | true => exact absurd (by rw [eb, hb]; decide) h15
        obtain ⟨o1, o2, o3⟩ := tl_or hu (show q < th_po a n by omega) hb
        obtain ⟨g1, g2⟩ := hLu _ o1
        obtain ⟨g3, g4⟩ := hLu _ hu
        have hd6 := tl_d6 (c := c) (i := i) (j := q) hn hik (by omega)
        refine wp_lda rfl tm_m1 ?_
        refine wp_ldi rfl tm_m2 ?_
        refine wp_ldi rfl tm_m3 ?_
        refine wp_ldi rfl tm_m0 ?_
        refine wq_calv [.int (nI u), .int (nI i), .int (nI q)] rfl rfl rfl rfl rfl rfl rfl rfl rfl (tl_sum hn x1 y1 (by omega) (by omega) (by omega) hC.1 (tl_Nn hC.2.2.1 hik) (tl_Nn hC.2.2.2 (by omega)) g1) ?_
        rintro _ _ ⟨rfl, rfl⟩
        rw [show th_ap n (tl_nx a i n) (tl_nx c q n) + tl_Lu n a c (u ||| 2 ^ q) = tl_d n a c i q + tl_Lu n a c (u ||| 2 ^ q) from rfl]
        refine wp_lda rfl tm_m1 ?_
        refine wq_getr (p := 18) rfl rfl (f := 0) rfl rfl ?_
        refine wp_ldi rfl tm_m2 ?_
        refine wp_iald rfl rfl (nI_in (by omega) (by decide)) ?_
        rw [nI_clamp (n := u) (by omega), g3]
        refine wq_icne rfl (fun h31 => ?_) (fun h31 => ?_)
        · refine wq_inc (c := 1) [(3, .int ((nI q) + 1)), (0, .ref 2), (1, .int (nI u)), (2, .int (nI i))] rfl tm_m0 rfl rfl ?_
          refine wp_go rfl ?_
          rw [nI_1]
          exact WP.less (ih (q + 1) (by omega)) (by simp)
        · refine wp_ldi rfl tm_m0 ?_
          have := f4 q (by omega)
          unfold tl_P at this
          rw [hb, (nI_eq (by omega) (by omega)).mp (Classical.not_not.mp h31)] at this
          simp at this
  show WP (d + 2) 46 0 [(0, .ref 2), (1, .int (nI u)), (2, .int (nI i))] [] s _
  refine wq_con (x := nI 0) rfl (by decide) ?_
  refine wq_sti [(3, .int (nI 0)), (0, .ref 2), (1, .int (nI u)), (2, .int (nI i))] rfl rfl ?_
  exact WP.less (k2 (tl_fb n a c u i) 0 (by omega)) (by simp)
theorem tl_n1 {q : Nat} (h : q < 2 ^ 31) : ¬ nI q = -1 := fun e => by
  have h1 := congrArg Int32.toInt e
  rw [nI_toInt h] at h1
  have h2 : (-1 : Int32).toInt = -1 := by decide
  omega
set_option maxRecDepth 100000 in
set_option maxHeartbeats 4000000 in
theorem tl_goal {d n a c w : Nat} {s : tm_S} (hn : n ≤ 12) (hac : th_po a n = th_po c n) (hw : w < th_po a n) (hC : tl_C n a c s) (hA : tl_A n a c 0 (s.1 18) (s.1 19)) : WM (d + 3) 45 [.ref 2, .int (nI w)] s (th_is (.int (nI (tl_nx c (tl_fb n a c (tl_tk n a c w) w) n))) s) := by
  have hk : th_po a n ≤ n := th_sm_le
  have hp : 2 ^ th_po a n ≤ 4096 := Nat.pow_le_pow_right (n := 2) (by decide) (show th_po a n ≤ 12 by omega)
  have k7 : ∀ (f m : Nat) (g : Int32), m + f = w + 1 → (f = 0 → g = nI (tl_nx c (tl_fb n a c (tl_tk n a c w) w) n)) → WP (d + 3) 45 7 [(4, .int (nI m)), (3, .int g), (2, .int (nI (tl_tk n a c m))), (0, .ref 2), (1, .int (nI w))] [] s (th_is (.int (nI (tl_nx c (tl_fb n a c (tl_tk n a c w) w) n))) s) := by
    intro f
    induction f with
    | zero =>
      intro m g hm hg
      obtain rfl : m = w + 1 := by omega
      refine wp_ldi rfl tm_m0 ?_
      refine wp_ldi rfl tm_m4 ?_
      refine wq_icgt rfl (fun h10 => ?_) (fun h10 => absurd (nI_lt (by omega) (by omega)) h10)
      refine wp_ldi rfl tm_m1 ?_
      exact wp_reti rfl (th_nI rfl) ⟨by rw [hg rfl], rfl⟩
    | succ f ih =>
      intro m g hm hg
      obtain ⟨t1, t2⟩ := tl_tko (c := c) hn hac m (by omega)
      obtain ⟨f1, f2, -, -⟩ := tl_fbo hn hac t1 t2 (by omega)
      have hx := (tl_nxo (S := c) (n := n) (i := tl_fb n a c (tl_tk n a c m) m) (by omega)).1
      refine wp_ldi rfl tm_m0 ?_
      refine wp_ldi rfl tm_m4 ?_
      refine wq_icgt rfl (fun h10 => absurd h10 (nI_nlt (by omega) (by omega))) (fun h10 => ?_)
      refine wp_ldi rfl tm_m0 ?_
      refine wp_lda rfl tm_m3 ?_
      refine wq_geti rfl rfl (f := 5) rfl rfl (Or.inl rfl) ?_
      rw [hC.2.1]
      refine wq_icge rfl (fun h19 => absurd h19 (nI_ge (by omega) (by omega))) (fun h19 => ?_)
      refine wp_lda rfl tm_m3 ?_
      refine wp_ldi rfl tm_m2 ?_
      refine wp_ldi rfl tm_m0 ?_
      refine wq_calv [.int (nI (tl_tk n a c m)), .int (nI m)] rfl rfl rfl rfl rfl rfl rfl rfl rfl (tl_best hn hac t1 t2 (by omega) hC hA) ?_
      rintro _ _ ⟨rfl, rfl⟩
      refine wq_sti [(5, .int (nI (tl_fb n a c (tl_tk n a c m) m))), (4, .int (nI m)), (3, .int g), (2, .int (nI (tl_tk n a c m))), (0, .ref 2), (1, .int (nI w))] rfl rfl ?_
      refine wp_ldi rfl tm_m0 ?_
      refine wq_con (x := (-1)) rfl (by decide) ?_
      refine wq_icne rfl (fun h34 => ?_) (fun h34 => absurd (Classical.not_not.mp h34) (tl_n1 (by omega)))
      refine wp_lda rfl tm_m4 ?_
      refine wq_getr (p := 21) rfl rfl (f := 3) rfl rfl ?_
      refine wp_ldi rfl tm_m0 ?_
      refine wp_iald rfl rfl (nI_in (by omega) (by decide)) ?_
      rw [nI_clamp (n := tl_fb n a c (tl_tk n a c m) m) (by omega), tl_Nn hC.2.2.2 (by omega)]
      refine wq_sti [(3, .int (nI (tl_nx c (tl_fb n a c (tl_tk n a c m) m) n))), (5, .int (nI (tl_fb n a c (tl_tk n a c m) m))), (4, .int (nI m)), (2, .int (nI (tl_tk n a c m))), (0, .ref 2), (1, .int (nI w))] rfl rfl ?_
      refine wp_ldi rfl tm_m3 ?_
      refine wq_con (x := 1) rfl (by decide) ?_
      refine wp_ldi rfl tm_m1 ?_
      refine wq_ishl rfl ?_
      refine wq_ior rfl ?_
      rw [th_nIor (by omega) (by omega)]
      refine wq_sti [(2, .int (nI (tl_tk n a c m ||| 2 ^ (tl_fb n a c (tl_tk n a c m) m)))), (3, .int (nI (tl_nx c (tl_fb n a c (tl_tk n a c m) m) n))), (5, .int (nI (tl_fb n a c (tl_tk n a c m) m))), (4, .int (nI m)), (0, .ref 2), (1, .int (nI w))] rfl rfl ?_
      refine wq_inc (c := 1) [(4, .int ((nI m) + 1)), (2, .int (nI (tl_tk n a c m ||| 2 ^ (tl_fb n a c (tl_tk n a c m) m)))), (3, .int (nI (tl_nx c (tl_fb n a c (tl_tk n a c m) m) n))), (5, .int (nI (tl_fb n a c (tl_tk n a c m) m))), (0, .ref 2), (1, .int (nI w))] rfl tm_m3 rfl rfl ?_
      refine wp_go rfl ?_
      rw [nI_1]
      refine WP.less (ih (m + 1) (nI (tl_nx c (tl_fb n a c (tl_tk n a c m) m) n)) (by omega) (fun e => ?_)) (by simp [tl_tk])
      obtain rfl : m = w := by omega
      rfl
  show WP (d + 3) 45 0 [(0, .ref 2), (1, .int (nI w))] [] s _
  refine wq_con (x := nI 0) rfl (by decide) ?_
  refine wq_sti [(2, .int (nI 0)), (0, .ref 2), (1, .int (nI w))] rfl rfl ?_
  refine wq_con (x := (-1)) rfl (by decide) ?_
  refine wq_sti [(3, .int ((-1))), (2, .int (nI 0)), (0, .ref 2), (1, .int (nI w))] rfl rfl ?_
  refine wq_con (x := nI 0) rfl (by decide) ?_
  refine wq_sti [(4, .int (nI 0)), (3, .int ((-1))), (2, .int (nI 0)), (0, .ref 2), (1, .int (nI w))] rfl rfl ?_
  exact WP.less (k7 (w + 1) 0 (-1) (by omega) (fun e => absurd e (by omega))) (by simp [tl_tk])
def th_oz (n : Nat) (x y : Int32) : Prop := ∃ a c : Nat, x = nI a ∧ y = nI c ∧ a < 2 ^ n ∧ c < 2 ^ n ∧ th_po a n = th_po c n
theorem th_ozn {n a c : Nat} (hn : n ≤ 12) (ha : a < 2 ^ n) (hc : c < 2 ^ n) (h : th_oz n (nI a) (nI c)) : th_po a n = th_po c n := by
  have hp : 2 ^ n ≤ 4096 := Nat.pow_le_pow_right (n := 2) (by decide) hn
  obtain ⟨a', c', e1, e2, h1, h2, h3⟩ := h
  rw [(nI_eq (by omega) (by omega)).mp e1, (nI_eq (by omega) (by omega)).mp e2]
  exact h3
set_option maxRecDepth 100000 in
set_option maxHeartbeats 4000000 in
theorem tl_oz {d n : Nat} {x y : Int32} {σ : tm_S} (hN : σ.1 1 0 = nI n) (hn : n ≤ 12) : WM (d + 1) 35 [.ref 1, .int x, .int y] σ (fun q σ' => ((q = some (.int 1) ∧ th_oz n x y) ∨ (q = some (.int 0) ∧ ¬ th_oz n x y)) ∧ σ = σ') := by
  have hp : 2 ^ n ≤ 4096 := Nat.pow_le_pow_right (n := 2) (by decide) hn
  have k16 : ∀ a c : Nat, a < 2 ^ n → c < 2 ^ n → WP (d + 1) 35 16 [(0, .ref 1), (1, .int (nI a)), (2, .int (nI c))] [] σ (fun q σ' => ((q = some (.int 1) ∧ th_oz n (nI a) (nI c)) ∨ (q = some (.int 0) ∧ ¬ th_oz n (nI a) (nI c))) ∧ σ = σ') := by
    intro a c ha hc
    have h1 : th_po a n ≤ n := th_sm_le
    have h2 : th_po c n ≤ n := th_sm_le
    refine wp_ldi rfl tm_m1 ?_
    refine wq_cals [.int (nI a)] rfl rfl rfl rfl rfl rfl (th_bitCount (nI a) (Q := th_is (.int (nI (th_po a n))) σ) ⟨by rw [th_bn (by omega), th_po12 hn ha], rfl⟩) ?_
    rintro _ _ ⟨rfl, rfl⟩
    refine wp_ldi rfl tm_m2 ?_
    refine wq_cals [.int (nI c)] rfl rfl rfl rfl rfl rfl (th_bitCount (nI c) (Q := th_is (.int (nI (th_po c n))) σ) ⟨by rw [th_bn (by omega), th_po12 hn hc], rfl⟩) ?_
    rintro _ _ ⟨rfl, rfl⟩
    refine wq_icne rfl (fun h24 => ?_) (fun h24 => ?_)
    · refine wq_con (x := 0) rfl (by decide) ?_
      exact wp_reti rfl (th_n0 rfl) ⟨Or.inr ⟨rfl, fun hk => h24 (by rw [th_ozn hn ha hc hk])⟩, rfl⟩
    · refine wq_con (x := 1) rfl (by decide) ?_
      refine wp_go rfl ?_
      exact wp_reti rfl (th_n1 rfl) ⟨Or.inl ⟨rfl, a, c, rfl, rfl, ha, hc, (nI_eq (by omega) (by omega)).mp (Classical.not_not.mp h24)⟩, rfl⟩
  show WP (d + 1) 35 0 [(0, .ref 1), (1, .int x), (2, .int y)] [] σ _
  refine wp_lda rfl tm_m0 ?_
  refine wp_ldi rfl tm_m1 ?_
  refine wq_calv [.int x] rfl rfl rfl rfl rfl rfl rfl rfl rfl (th_hset hN hn) ?_
  rintro r2 _ ⟨hr2, rfl⟩
  obtain ⟨z2, rfl, hz2, hn2⟩ : ∃ z : Int32, r2 = some (.int z) ∧ (¬ z = 0 → th_st n x) ∧ (z = 0 → ¬ th_st n x) := by
    rcases hr2 with ⟨rfl, g⟩ | ⟨rfl, g⟩
    · exact ⟨_, rfl, fun _ => g, fun e => absurd e (by decide)⟩
    · exact ⟨_, rfl, fun e => absurd rfl e, fun _ => g⟩
  refine wq_ifeq rfl (fun h5 => ?_) (fun h5 => ?_)
  · refine wq_con (x := 0) rfl (by decide) ?_
    refine wp_reti rfl (th_n0 rfl) ⟨Or.inr ⟨rfl, fun hk => ?_⟩, rfl⟩
    obtain ⟨a, c, e1, e2, g1, g2, -⟩ := hk
    first | exact hn2 h5 ⟨a, e1, g1⟩ | exact hn10 h13 ⟨c, e2, g2⟩
  · refine wp_lda rfl tm_m0 ?_
    refine wp_ldi rfl tm_m2 ?_
    refine wq_calv [.int y] rfl rfl rfl rfl rfl rfl rfl rfl rfl (th_hset hN hn) ?_
    rintro r10 _ ⟨hr10, rfl⟩
    obtain ⟨z10, rfl, hz10, hn10⟩ : ∃ z : Int32, r10 = some (.int z) ∧ (¬ z = 0 → th_st n y) ∧ (z = 0 → ¬ th_st n y) := by
      rcases hr10 with ⟨rfl, g⟩ | ⟨rfl, g⟩
      · exact ⟨_, rfl, fun _ => g, fun e => absurd e (by decide)⟩
      · exact ⟨_, rfl, fun e => absurd rfl e, fun _ => g⟩
    refine wq_ifeq rfl (fun h13 => ?_) (fun h13 => ?_)
    · refine wq_con (x := 0) rfl (by decide) ?_
      refine wp_reti rfl (th_n0 rfl) ⟨Or.inr ⟨rfl, fun hk => ?_⟩, rfl⟩
      obtain ⟨a, c, e1, e2, g1, g2, -⟩ := hk
      first | exact hn2 h5 ⟨a, e1, g1⟩ | exact hn10 h13 ⟨c, e2, g2⟩
    · obtain ⟨a, e1, ha⟩ := hz2 h5
      obtain ⟨c, e2, hc⟩ := hz10 h13
      rw [e1, e2]
      exact k16 a c ha hc
/-- what lead answers -/
def tl_v (n a c W : Nat) : Int32 := if W = 0 then nI (tl_Lu n a c 0) else if W = 1 then (tl_LW (th_po a n) (tl_d n a c) (th_po a n - th_po 0 (th_po a n)) 0).2 else nI (tl_nx c (tl_fb n a c (tl_tk n a c (W - 2)) (W - 2)) n)
def tp_lok (n : Nat) (x y w : Int32) : Prop := ∃ a c W : Nat, x = nI a ∧ y = nI c ∧ w = nI W ∧ a < 2 ^ n ∧ c < 2 ^ n ∧ th_po a n = th_po c n ∧ W < 2 + th_po a n
def tp_lead (n : Nat) (x y w z : Int32) : Prop := (∃ a c W : Nat, x = nI a ∧ y = nI c ∧ w = nI W ∧ a < 2 ^ 12 ∧ c < 2 ^ 12 ∧ W < 16 ∧ z = tl_v n a c W ∧ tp_lok n x y w) ∨ (¬ tp_lok n x y w ∧ z = -1)
theorem tp_lead_u {n : Nat} {g s c z w : Int32} (h : tp_lead n g s c z) (k : tp_lead n g s c w) : z = w := by
  rcases h with ⟨S, q, u, e1, e2, e3, e4, e5, e6, e7, e8⟩ | ⟨h1, h2⟩
  · rcases k with ⟨S', q', u', f1, f2, f3, f4, f5, f6, f7, f8⟩ | ⟨g1, g2⟩
    · rw [e7, f7, (nI_eq (by omega) (by omega)).mp (e1.symm.trans f1), (nI_eq (by omega) (by omega)).mp (e2.symm.trans f2), (nI_eq (by omega) (by omega)).mp (e3.symm.trans f3)]
    · exact absurd e8 g1
  · rcases k with ⟨S', q', u', f1, f2, f3, f4, f5, f6, f7, f8⟩ | ⟨g1, g2⟩
    · exact absurd f8 h1
    · rw [h2, g2]
set_option maxRecDepth 100000 in
set_option maxHeartbeats 4000000 in
theorem tl_ls {d n a c : Nat} {s : tm_S} (hA : tl_A n a c 0 (s.1 18) (s.1 19)) : WM d 43 [.ref 2] s (th_is (.int (nI (tl_Lu n a c 0))) s) := by
  show WP d 43 0 [(0, .ref 2)] [] s _
  refine wp_lda rfl tm_m0 ?_
  refine wq_getr (p := 18) rfl rfl (f := 0) rfl rfl ?_
  refine wq_con (x := 0) rfl (by decide) ?_
  refine wp_iald rfl rfl (tn_in (by decide) (by decide)) ?_
  exact wp_reti rfl (th_nI rfl) ⟨congrArg (fun x => some (Value.int x)) (hA 0 (Nat.le_refl _) (Nat.two_pow_pos _)).1, rfl⟩
set_option maxRecDepth 100000 in
set_option maxHeartbeats 4000000 in
theorem tl_lc {d n a c : Nat} {s : tm_S} (hA : tl_A n a c 0 (s.1 18) (s.1 19)) : WM d 44 [.ref 2] s (th_is (.int ((tl_LW (th_po a n) (tl_d n a c) (th_po a n - th_po 0 (th_po a n)) 0).2)) s) := by
  show WP d 44 0 [(0, .ref 2)] [] s _
  refine wp_lda rfl tm_m0 ?_
  refine wq_getr (p := 19) rfl rfl (f := 1) rfl rfl ?_
  refine wq_con (x := 0) rfl (by decide) ?_
  refine wp_iald rfl rfl (tn_in (by decide) (by decide)) ?_
  exact wp_reti rfl (th_nI rfl) ⟨congrArg (fun x => some (Value.int x)) (hA 0 (Nat.le_refl _) (Nat.two_pow_pos _)).2, rfl⟩
set_option maxRecDepth 100000 in
set_option maxHeartbeats 4000000 in
theorem tf_x_lead {n : Nat} {a1 a2 a3 : Int32} {σ : tm_S} (h : th_IV n σ) : WM 90 34 [.ref 0, .int a1, .int a2, .int a3] σ (fun r σ' => ∃ z : Int32, r = some (.int z) ∧ tp_lead n a1 a2 a3 z ∧ th_IV n σ') := by
  have ⟨h3, hn, hT, hSL⟩ := h
  have hN := th_N0 hT hn
  have hp : 2 ^ n ≤ 4096 := Nat.pow_le_pow_right (n := 2) (by decide) hn
  have k28 : ∀ a c W : Nat, a1 = nI a → a2 = nI c → a3 = nI W → a < 2 ^ n → c < 2 ^ n → th_po a n = th_po c n → W < 2 + th_po a n → WP 90 34 28 [(0, .ref 0), (1, .int (nI a)), (2, .int (nI c)), (3, .int (nI W))] [] σ (fun r σ' => ∃ z : Int32, r = some (.int z) ∧ tp_lead n a1 a2 a3 z ∧ th_IV n σ') := by
    intro a c W e1 e2 e3 ha hc hac hW
    have hk : th_po a n ≤ n := th_sm_le
    have eW : (nI W).toInt = W := nI_toInt (by omega)
    have ok : tp_lok n a1 a2 a3 := ⟨a, c, W, e1, e2, e3, ha, hc, hac, hW⟩
    refine wp_lda rfl tm_m0 ?_
    refine wq_getr (p := 2) rfl rfl (f := 1) rfl rfl ?_
    refine wp_lda rfl tm_m0 ?_
    refine wq_getr (p := 1) rfl rfl (f := 0) rfl rfl ?_
    refine wq_calv [] rfl rfl rfl rfl rfl rfl rfl rfl rfl (th_size) ?_
    rintro _ _ ⟨rfl, rfl⟩
    rw [hN]
    refine wp_ldi rfl tm_m1 ?_
    refine wp_ldi rfl tm_m2 ?_
    refine wq_calv [.int (nI n), .int (nI a), .int (nI c)] rfl rfl rfl rfl rfl rfl rfl rfl rfl (tl_solve (d := 86) hn ha hc hac ⟨hT, tv_un_rf⟩) ?_
    rintro _ t ⟨rfl, Ft, Ct, At⟩
    refine wp_ldi rfl tm_m3 ?_
    refine wp_sw rfl ?_
    by_cases h45_0 : (nI W).toInt = 0
    · rw [h45_0]
      show WP _ 34 72 _ _ _ _
      have w0 : W = 0 := by omega
      refine wp_lda rfl tm_m0 ?_
      refine wq_getr (p := 2) rfl rfl (f := 1) rfl rfl ?_
      refine wq_calv [] rfl rfl rfl rfl rfl rfl rfl rfl rfl (tl_ls At) ?_
      rintro _ _ ⟨rfl, rfl⟩
      exact wp_reti rfl (th_nI rfl) ⟨_, rfl, Or.inl ⟨a, c, W, e1, e2, e3, by omega, by omega, by omega, by rw [show W = 0 by omega]; rfl, ok⟩, h3, hn, Ft.1, th_SLu hT hSL Ft.2 (by decide)⟩
    by_cases h45_1 : (nI W).toInt = 1
    · rw [h45_1]
      show WP _ 34 80 _ _ _ _
      have w1 : W = 1 := by omega
      refine wp_lda rfl tm_m0 ?_
      refine wq_getr (p := 2) rfl rfl (f := 1) rfl rfl ?_
      refine wq_calv [] rfl rfl rfl rfl rfl rfl rfl rfl rfl (tl_lc At) ?_
      rintro _ _ ⟨rfl, rfl⟩
      exact wp_reti rfl (th_nI rfl) ⟨_, rfl, Or.inl ⟨a, c, W, e1, e2, e3, by omega, by omega, by omega, by rw [show W = 1 by omega]; rfl, ok⟩, h3, hn, Ft.1, th_SLu hT hSL Ft.2 (by decide)⟩
    rw [show tb_sw _ _ (nI W).toInt = 88 from tb_swd (by intro q hq; simp only [List.mem_cons, List.not_mem_nil, or_false] at hq; rcases hq with rfl | rfl <;> (intro e; dsimp only at e; omega))]
    have w2 : 2 ≤ W := by omega
    refine wp_lda rfl tm_m0 ?_
    refine wq_getr (p := 2) rfl rfl (f := 1) rfl rfl ?_
    refine wp_ldi rfl tm_m3 ?_
    refine wq_con (x := 2) rfl (by decide) ?_
    refine wq_isub rfl ?_
    rw [show (2 : Int32) = nI 2 from rfl, th_subN (by omega) (by omega)]
    refine wq_calv [.int (nI (W - 2))] rfl rfl rfl rfl rfl rfl rfl rfl rfl (tl_goal (d := 86) (w := W - 2) hn hac (by omega) Ct At) ?_
    rintro _ _ ⟨rfl, rfl⟩
    exact wp_reti rfl (th_nI rfl) ⟨_, rfl, Or.inl ⟨a, c, W, e1, e2, e3, by omega, by omega, by omega, by unfold tl_v; rw [if_neg (by omega), if_neg (by omega)], ok⟩, h3, hn, Ft.1, th_SLu hT hSL Ft.2 (by decide)⟩
  show WP 90 34 0 [(0, .ref 0), (1, .int a1), (2, .int a2), (3, .int a3)] [] σ _
  refine wp_lda rfl tm_m0 ?_
  refine wq_getr (p := 1) rfl rfl (f := 0) rfl rfl ?_
  refine wp_ldi rfl tm_m1 ?_
  refine wp_ldi rfl tm_m2 ?_
  refine wq_calv [.int a1, .int a2] rfl rfl rfl rfl rfl rfl rfl rfl rfl (tl_oz (d := 88) hN hn) ?_
  rintro r6 _ ⟨hr6, rfl⟩
  obtain ⟨z6, rfl, hz6, hn6⟩ : ∃ z : Int32, r6 = some (.int z) ∧ (¬ z = 0 → th_oz n a1 a2) ∧ (z = 0 → ¬ th_oz n a1 a2) := by
    rcases hr6 with ⟨rfl, g⟩ | ⟨rfl, g⟩
    · exact ⟨_, rfl, fun _ => g, fun e => absurd e (by decide)⟩
    · exact ⟨_, rfl, fun e => absurd rfl e, fun _ => g⟩
  refine wq_ifeq rfl (fun h9 => ?_) (fun h9 => ?_)
  · have g9 : (z6).toInt = 0 := congrArg Int32.toInt h9
    refine wq_con (x := (-1)) rfl (by decide) ?_
    refine wp_reti rfl (th_nI rfl) ⟨_, rfl, Or.inr ⟨fun hk => ?_, rfl⟩, h⟩
    obtain ⟨a, c, W, e1, e2, e3, x1, x2, x3, x4⟩ := hk
    have hka : th_po a n ≤ n := th_sm_le
    have eW : a3.toInt = W := by rw [e3]; exact nI_toInt (by omega)
    first | exact hn6 h9 ⟨a, c, e1, e2, x1, x2, x3⟩ | (change a3.toInt < (0 : Int) at g13; omega) | (have ea : a = a9 := (nI_eq (by omega) (by omega)).mp (e1.symm.trans q1); subst ea; rw [nI_toInt (by omega)] at g23; omega)
  · refine wp_ldi rfl tm_m3 ?_
    refine wq_iflt rfl (fun h13 => ?_) (fun h13 => ?_)
    · have g13 : (a3).toInt < 0 := tn_ltI.mp h13
      refine wq_con (x := (-1)) rfl (by decide) ?_
      refine wp_reti rfl (th_nI rfl) ⟨_, rfl, Or.inr ⟨fun hk => ?_, rfl⟩, h⟩
      obtain ⟨a, c, W, e1, e2, e3, x1, x2, x3, x4⟩ := hk
      have hka : th_po a n ≤ n := th_sm_le
      have eW : a3.toInt = W := by rw [e3]; exact nI_toInt (by omega)
      first | exact hn6 h9 ⟨a, c, e1, e2, x1, x2, x3⟩ | (change a3.toInt < (0 : Int) at g13; omega) | (have ea : a = a9 := (nI_eq (by omega) (by omega)).mp (e1.symm.trans q1); subst ea; rw [nI_toInt (by omega)] at g23; omega)
    · have g13 : ¬ (a3).toInt < 0 := fun g => h13 (tn_ltI.mpr g)
      obtain ⟨a9, c9, q1, q2, q3, q4, q5⟩ := hz6 h9
      have hk9 : th_po a9 n ≤ n := th_sm_le
      refine wp_ldi rfl tm_m3 ?_
      refine wq_con (x := 2) rfl (by decide) ?_
      refine wp_ldi rfl tm_m1 ?_
      refine wq_cals [.int a1] rfl rfl rfl rfl rfl rfl (by rw [q1]; exact th_bitCount (d := 89) (nI a9) (Q := th_is (.int (nI (th_po a9 n))) σ) ⟨by rw [th_bn (by omega), th_po12 hn q3], rfl⟩) ?_
      rintro _ _ ⟨rfl, rfl⟩
      refine wq_iadd rfl ?_
      rw [show (2 : Int32) + nI (th_po a9 n) = nI (2 + th_po a9 n) from nI_add 2 _]
      refine wq_iclt rfl (fun h23 => ?_) (fun h23 => ?_)
      · have g23 : (a3).toInt < (nI (2 + th_po a9 n)).toInt := tn_ltI.mp h23
        change ¬ a3.toInt < (0 : Int) at g13
        obtain ⟨W, w1, e3⟩ := nI_of (x := a3) (by rw [tn_ltI]; show ¬ a3.toInt < 0; omega)
        rw [e3, nI_toInt w1, nI_toInt (by omega)] at g23
        have kk := k28 a9 c9 W q1 q2 e3 q3 q4 q5 (by omega)
        rw [q1, q2, e3] at kk ⊢
        exact kk
      · have g23 : ¬ (a3).toInt < (nI (2 + th_po a9 n)).toInt := fun g => h23 (tn_ltI.mpr g)
        refine wq_con (x := (-1)) rfl (by decide) ?_
        refine wp_reti rfl (th_nI rfl) ⟨_, rfl, Or.inr ⟨fun hk => ?_, rfl⟩, h⟩
        obtain ⟨a, c, W, e1, e2, e3, x1, x2, x3, x4⟩ := hk
        have hka : th_po a n ≤ n := th_sm_le
        have eW : a3.toInt = W := by rw [e3]; exact nI_toInt (by omega)
        first | exact hn6 h9 ⟨a, c, e1, e2, x1, x2, x3⟩ | (change a3.toInt < (0 : Int) at g13; omega) | (have ea : a = a9 := (nI_eq (by omega) (by omega)).mp (e1.symm.trans q1); subst ea; rw [nI_toInt (by omega)] at g23; omega)
