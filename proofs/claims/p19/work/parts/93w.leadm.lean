/-! ===== leadings: the numbers ===== -/
/-- f lists the members of S below n as they rise -/
def tl_N (S n : Nat) (f : Nat → Int32) : Prop := ∀ i : Nat, i < th_po S n → ∃ x : Nat, x < n ∧ f i = nI x ∧ S.testBit x = true ∧ th_po S x = i
theorem tl_pos {S x y : Nat} (h : x < y) (hx : S.testBit x = true) : th_po S x < th_po S y := by
  have h1 : th_po S (x + 1) ≤ th_po S y := th_sm_mono h
  rw [th_po_s, hx] at h1
  change th_po S x + 1 ≤ _ at h1
  omega
theorem tl_uni {S x y : Nat} (hx : S.testBit x = true) (hy : S.testBit y = true) (h : th_po S x = th_po S y) : x = y := by
  rcases Nat.lt_trichotomy x y with e | e | e
  · have := tl_pos e hx
    omega
  · exact e
  · have := tl_pos e hy
    omega
theorem tl_ex {S i : Nat} : ∀ {n : Nat}, i < th_po S n → ∃ x : Nat, x < n ∧ S.testBit x = true ∧ th_po S x = i
  | 0, h => absurd h (Nat.not_lt_zero _)
  | n + 1, h => by
    rcases Nat.lt_or_ge i (th_po S n) with e | e
    · obtain ⟨x, h1, h2⟩ := tl_ex (n := n) e
      exact ⟨x, by omega, h2⟩
    · rw [th_po_s] at h
      cases hb : S.testBit n with
      | false =>
        rw [hb] at h
        change i < th_po S n + 0 at h
        omega
      | true =>
        rw [hb] at h
        change i < th_po S n + 1 at h
        exact ⟨n, by omega, hb, by omega⟩
theorem tl_Nu {S n : Nat} {f k : Nat → Int32} (hf : tl_N S n f) (hk : tl_N S n k) {i : Nat} (hi : i < th_po S n) : f i = k i := by
  obtain ⟨x, -, e1, b1, p1⟩ := hf i hi
  obtain ⟨y, -, e2, b2, p2⟩ := hk i hi
  rw [e1, e2, tl_uni b1 b2 (p1.trans p2.symm)]
/-- the least member of a set -/
def tl_low (r : Nat) : Nat → Nat
  | 0 => 12
  | k + 1 => if r.testBit (11 - k) = true then 11 - k else tl_low r k
theorem tl_lk : (List.range 4096).all (fun r => Nat.beq r 0 || (r.testBit (tl_low r 12) && (Nat.blt (tl_low r 12) 12 && (Nat.beq (r &&& (r - 1)) (r ^^^ 2 ^ tl_low r 12) && (List.range (tl_low r 12)).all (fun y => !(r.testBit y)))))) = true := by decide +kernel
theorem tl_lw {r : Nat} (h : r < 4096) (h0 : ¬ r = 0) : r.testBit (tl_low r 12) = true ∧ tl_low r 12 < 12 ∧ r &&& (r - 1) = r ^^^ 2 ^ tl_low r 12 ∧ ∀ y : Nat, y < tl_low r 12 → r.testBit y = false := by
  have h1 := List.all_eq_true.mp tl_lk r (List.mem_range.mpr h)
  rw [Bool.or_eq_true] at h1
  rcases h1 with h1 | h1
  · exact absurd (Nat.eq_of_beq_eq_true h1) h0
  · rw [Bool.and_eq_true, Bool.and_eq_true, Bool.and_eq_true] at h1
    refine ⟨h1.1, Nat.le_of_ble_eq_true h1.2.1, Nat.eq_of_beq_eq_true h1.2.2.1, fun y hy => ?_⟩
    have := List.all_eq_true.mp h1.2.2.2 y (List.mem_range.mpr hy)
    cases hb : r.testBit y with
    | false => rfl
    | true => rw [hb] at this; cases this
/-- what is left of S without its first i members -/
def tl_R (S i r : Nat) : Prop := ∀ x : Nat, r.testBit x = (S.testBit x && decide (i ≤ th_po S x))
theorem tl_R0 {S : Nat} : tl_R S 0 S := fun x => by simp
theorem tl_R1 {S n i r : Nat} (hn : n ≤ 12) (hS : S < 2 ^ n) (hr : tl_R S i r) (hi : i < th_po S n) : r < 4096 ∧ ¬ r = 0 ∧ tl_low r 12 < n ∧ S.testBit (tl_low r 12) = true ∧ th_po S (tl_low r 12) = i ∧ tl_R S (i + 1) (r &&& (r - 1)) := by
  obtain ⟨x, x1, x2, x3⟩ := tl_ex hi
  have hrx : r.testBit x = true := by rw [hr x, x2, x3]; simp
  have r0 : ¬ r = 0 := fun e => by rw [e, Nat.zero_testBit] at hrx; cases hrx
  have hp : 2 ^ n ≤ 4096 := Nat.pow_le_pow_right (n := 2) (by decide) hn
  have rl : r < 4096 := by
    refine Nat.lt_of_lt_of_le (Nat.lt_pow_two_of_testBit r (fun y hy => ?_)) hp
    rw [hr y, Nat.testBit_lt_two_pow (Nat.lt_of_lt_of_le hS (Nat.pow_le_pow_right (by decide) hy))]
    rfl
  obtain ⟨l1, l2, l3, l4⟩ := tl_lw rl r0
  have lS : S.testBit (tl_low r 12) = true ∧ i ≤ th_po S (tl_low r 12) := by
    have := hr (tl_low r 12)
    rw [l1] at this
    have h2 := this.symm
    rw [Bool.and_eq_true, decide_eq_true_eq] at h2
    exact h2
  have hlx : tl_low r 12 = x := by
    rcases Nat.lt_trichotomy (tl_low r 12) x with e | e | e
    · have := tl_pos e lS.1
      omega
    · exact e
    · rw [l4 x e] at hrx
      cases hrx
  refine ⟨rl, r0, by omega, lS.1, by rw [hlx]; exact x3, fun y => ?_⟩
  rw [l3, Nat.testBit_xor, Nat.testBit_two_pow, hr y, hlx]
  by_cases e : x = y
  · subst e
    rw [x2, x3]
    simp
  · cases hy : S.testBit y with
    | false => simp [e]
    | true =>
      have hne : ¬ th_po S y = i := fun q => e (tl_uni x2 hy (x3.trans q.symm))
      have : decide (i ≤ th_po S y) = decide (i + 1 ≤ th_po S y) := decide_eq_decide.mpr (by omega)
      simp [e, this]
/-- one note of b more: the least sum so far, and its ways -/
def tl_st (dist : Nat → Nat) (rec : Nat → Nat × Int32) (taken j : Nat) (p : Nat × Int32) : Nat × Int32 :=
  if taken.testBit j = true then p else
    if dist j + (rec (taken ||| 2 ^ j)).1 < p.1 then (dist j + (rec (taken ||| 2 ^ j)).1, 0 + (rec (taken ||| 2 ^ j)).2)
    else if dist j + (rec (taken ||| 2 ^ j)).1 = p.1 then (p.1, p.2 + (rec (taken ||| 2 ^ j)).2) else p
def tl_fo (st : Nat → Nat × Int32 → Nat × Int32) (p : Nat × Int32) : Nat → Nat × Int32
  | 0 => p
  | j + 1 => st j (tl_fo st p j)
/-- least sums and their ways, with r notes to go -/
def tl_LW (k : Nat) (dist : Nat → Nat → Nat) : Nat → Nat → Nat × Int32
  | 0, _ => (0, 1)
  | r + 1, taken => tl_fo (tl_st (dist (k - (r + 1))) (tl_LW k dist r) taken) (10000, 0) k
theorem tl_fo_le {dist : Nat → Nat} {rec : Nat → Nat × Int32} {taken B K : Nat} (hB : ∀ j : Nat, j < K → taken.testBit j = false → dist j + (rec (taken ||| 2 ^ j)).1 ≤ B) : ∀ (k : Nat) (p q : Nat × Int32), k ≤ K → B < p.1 → B < q.1 → p.2 = q.2 → (tl_fo (tl_st dist rec taken) p k = tl_fo (tl_st dist rec taken) q k ∧ (tl_fo (tl_st dist rec taken) p k).1 ≤ B) ∨ (tl_fo (tl_st dist rec taken) p k = p ∧ tl_fo (tl_st dist rec taken) q k = q ∧ ∀ j : Nat, j < k → taken.testBit j = true)
  | 0, p, q, _, _, _, _ => Or.inr ⟨rfl, rfl, fun j hj => absurd hj (by omega)⟩
  | k + 1, p, q, hK, hp, hq, he => by
    show (tl_st dist rec taken k (tl_fo (tl_st dist rec taken) p k) = tl_st dist rec taken k (tl_fo (tl_st dist rec taken) q k) ∧ (tl_st dist rec taken k (tl_fo (tl_st dist rec taken) p k)).1 ≤ B) ∨ (tl_st dist rec taken k (tl_fo (tl_st dist rec taken) p k) = p ∧ tl_st dist rec taken k (tl_fo (tl_st dist rec taken) q k) = q ∧ _)
    rcases tl_fo_le hB k p q (by omega) hp hq he with ⟨h1, h2⟩ | ⟨h1, h2, h3⟩
    · refine Or.inl ⟨by rw [h1], ?_⟩
      unfold tl_st
      split
      · exact h2
      · rename_i hb
        have := hB k (by omega) (Bool.eq_false_iff.mpr hb)
        split
        · exact this
        · split
          · exact h2
          · exact h2
    · rw [h1, h2]
      cases hb : taken.testBit k with
      | true =>
        refine Or.inr ⟨by unfold tl_st; rw [if_pos hb], by unfold tl_st; rw [if_pos hb], fun j hj => ?_⟩
        by_cases e : j = k
        · rw [e]; exact hb
        · exact h3 j (by omega)
      | false =>
        have := hB k (by omega) hb
        refine Or.inl ⟨?_, ?_⟩
        · unfold tl_st
          rw [if_neg (show ¬ taken.testBit k = true by rw [hb]; decide), if_pos (show dist k + (rec (taken ||| 2 ^ k)).1 < p.1 by omega), if_pos (show dist k + (rec (taken ||| 2 ^ k)).1 < q.1 by omega), if_neg (show ¬ taken.testBit k = true by rw [hb]; decide)]
        · unfold tl_st
          rw [if_neg (show ¬ taken.testBit k = true by rw [hb]; decide), if_pos (show dist k + (rec (taken ||| 2 ^ k)).1 < p.1 by omega)]
          exact this
/-- the i-th member of S below n -/
def tl_nx (S i : Nat) : Nat → Nat
  | 0 => 0
  | n + 1 => if S.testBit n = true ∧ th_po S n = i then n else tl_nx S i n
theorem tl_nxk {S i : Nat} : ∀ {n : Nat}, (∃ x : Nat, x < n ∧ S.testBit x = true ∧ th_po S x = i) → tl_nx S i n < n ∧ S.testBit (tl_nx S i n) = true ∧ th_po S (tl_nx S i n) = i
  | 0, ⟨x, h, _⟩ => absurd h (Nat.not_lt_zero _)
  | n + 1, ⟨x, h1, h2, h3⟩ => by
    show (if S.testBit n = true ∧ th_po S n = i then n else tl_nx S i n) < n + 1 ∧ S.testBit (if S.testBit n = true ∧ th_po S n = i then n else tl_nx S i n) = true ∧ th_po S (if S.testBit n = true ∧ th_po S n = i then n else tl_nx S i n) = i
    by_cases h : S.testBit n = true ∧ th_po S n = i
    · rw [if_pos h]
      exact ⟨by omega, h⟩
    · rw [if_neg h]
      have hx : x < n := by
        rcases Nat.lt_or_ge x n with e | e
        · exact e
        · obtain rfl : x = n := by omega
          exact absurd ⟨h2, h3⟩ h
      obtain ⟨a1, a2⟩ := tl_nxk (n := n) ⟨x, hx, h2, h3⟩
      exact ⟨by omega, a2⟩
theorem tl_nxo {S i n : Nat} (h : i < th_po S n) : tl_nx S i n < n ∧ S.testBit (tl_nx S i n) = true ∧ th_po S (tl_nx S i n) = i := tl_nxk (tl_ex h)
theorem tl_Nn {S i n : Nat} {f : Nat → Int32} (h : tl_N S n f) (hi : i < th_po S n) : f i = nI (tl_nx S i n) := by
  obtain ⟨x, -, e, b1, p1⟩ := h i hi
  obtain ⟨-, b2, p2⟩ := tl_nxo hi
  rw [e, tl_uni b1 b2 (p1.trans p2.symm)]
/-- so far apart are the i-th of a and the j-th of c -/
def tl_d (n a c i j : Nat) : Nat := th_ap n (tl_nx a i n) (tl_nx c j n)
theorem tl_d6 {n a c i j : Nat} (hn : n ≤ 12) (hi : i < th_po a n) (hj : j < th_po c n) : tl_d n a c i j ≤ 6 := by
  have h1 := (tl_nxo hi).1
  have h2 := (tl_nxo hj).1
  unfold tl_d th_ap
  split <;> split <;> omega
theorem tl_or {u k j : Nat} (hu : u < 2 ^ k) (hj : j < k) (hb : u.testBit j = false) : u ||| 2 ^ j < 2 ^ k ∧ u < u ||| 2 ^ j ∧ th_po (u ||| 2 ^ j) k = th_po u k + 1 := by
  have h1 : u &&& 2 ^ j = 0 := by
    apply Nat.eq_of_testBit_eq
    intro i
    rw [Nat.testBit_and, Nat.testBit_two_pow, Nat.zero_testBit]
    by_cases e : j = i
    · subst e
      rw [hb]
      rfl
    · simp [e]
  refine ⟨Nat.or_lt_two_pow hu (Nat.pow_lt_pow_right (by decide) hj), ?_, ?_⟩
  · have h2 := Nat.left_le_or (n := u) (m := 2 ^ j)
    rcases Nat.lt_or_ge u (u ||| 2 ^ j) with e | e
    · exact e
    · have h3 : u ||| 2 ^ j = u := by omega
      have h4 : (u ||| 2 ^ j).testBit j = true := by rw [Nat.testBit_or, Nat.testBit_two_pow_self, Bool.or_true]
      rw [h3, hb] at h4
      cases h4
  · rw [th_po_or h1]
    have h5 : th_po (2 ^ j) k = 1 := by
      unfold th_po
      have e : th_sm (2 ^ j).testBit k = th_sm (fun i => true && decide (i = j)) k := th_sm_eq (fun i hi => by
        rw [Nat.testBit_two_pow, Bool.true_and]
        exact decide_eq_decide.mpr ⟨fun q => q.symm, fun q => q.symm⟩)
      rw [e, th_sm_sp]
      simp [hj]
    rw [h5]
theorem tl_free {u k r : Nat} (hu : u < 2 ^ k) (hr : th_po u k + (r + 1) = k) : ¬ ∀ j : Nat, j < k → u.testBit j = true := fun h => by
  have e := th_fullb hu h
  rw [e, th_po_fu] at hr
  omega
theorem tl_LWb {n a c : Nat} (hn : n ≤ 12) (hac : th_po a n = th_po c n) : ∀ (r u : Nat), u < 2 ^ th_po a n → th_po u (th_po a n) + r = th_po a n → (tl_LW (th_po a n) (tl_d n a c) r u).1 ≤ 6 * r
  | 0, _, _, _ => Nat.zero_le _
  | r + 1, u, hu, hr => by
    have hk : th_po a n ≤ n := th_sm_le
    have hB : ∀ j : Nat, j < th_po a n → u.testBit j = false → tl_d n a c (th_po a n - (r + 1)) j + (tl_LW (th_po a n) (tl_d n a c) r (u ||| 2 ^ j)).1 ≤ 6 * (r + 1) := fun j hj hb => by
      obtain ⟨o1, -, o3⟩ := tl_or hu hj hb
      have h1 := tl_LWb hn hac r (u ||| 2 ^ j) o1 (by omega)
      have h2 := tl_d6 (c := c) (i := th_po a n - (r + 1)) hn (show th_po a n - (r + 1) < th_po a n by omega) (show j < th_po c n by omega)
      omega
    rcases tl_fo_le hB (th_po a n) (10000, 0) (10000, 0) (Nat.le_refl _) (by show 6 * (r + 1) < 10000; omega) (by show 6 * (r + 1) < 10000; omega) rfl with h | h
    · exact h.2
    · exact absurd h.2.2 (tl_free hu hr)
/-- a fold from any great number is the fold from 10000 -/
theorem tl_LWi {n a c r u I : Nat} (hn : n ≤ 12) (hac : th_po a n = th_po c n) (hu : u < 2 ^ th_po a n) (hr : th_po u (th_po a n) + (r + 1) = th_po a n) (hI : 72 < I) : tl_fo (tl_st (tl_d n a c (th_po a n - (r + 1))) (tl_LW (th_po a n) (tl_d n a c) r) u) (I, 0) (th_po a n) = tl_LW (th_po a n) (tl_d n a c) (r + 1) u := by
  have hk : th_po a n ≤ n := th_sm_le
  have hB : ∀ j : Nat, j < th_po a n → u.testBit j = false → tl_d n a c (th_po a n - (r + 1)) j + (tl_LW (th_po a n) (tl_d n a c) r (u ||| 2 ^ j)).1 ≤ 6 * (r + 1) := fun j hj hb => by
    obtain ⟨o1, -, o3⟩ := tl_or hu hj hb
    have h1 := tl_LWb hn hac r (u ||| 2 ^ j) o1 (by omega)
    have h2 := tl_d6 (c := c) (i := th_po a n - (r + 1)) hn (show th_po a n - (r + 1) < th_po a n by omega) (show j < th_po c n by omega)
    omega
  rcases tl_fo_le hB (th_po a n) (I, 0) (10000, 0) (Nat.le_refl _) (by show 6 * (r + 1) < I; omega) (by show 6 * (r + 1) < 10000; omega) rfl with h | h
  · exact h.1
  · exact absurd h.2.2 (tl_free hu hr)
theorem tl_foa {dist : Nat → Nat} {rec : Nat → Nat × Int32} {taken : Nat} {p : Nat × Int32} : ∀ k : Nat, (tl_fo (tl_st dist rec taken) p k).1 = p.1 ∨ ∃ j : Nat, j < k ∧ taken.testBit j = false ∧ dist j + (rec (taken ||| 2 ^ j)).1 = (tl_fo (tl_st dist rec taken) p k).1
  | 0 => Or.inl rfl
  | k + 1 => by
    have ih := tl_foa (dist := dist) (rec := rec) (taken := taken) (p := p) k
    show (tl_st dist rec taken k (tl_fo (tl_st dist rec taken) p k)).1 = p.1 ∨ ∃ j : Nat, j < k + 1 ∧ taken.testBit j = false ∧ dist j + (rec (taken ||| 2 ^ j)).1 = (tl_st dist rec taken k (tl_fo (tl_st dist rec taken) p k)).1
    have keep : ∀ q : Nat × Int32, q.1 = (tl_fo (tl_st dist rec taken) p k).1 → (q.1 = p.1 ∨ ∃ j : Nat, j < k + 1 ∧ taken.testBit j = false ∧ dist j + (rec (taken ||| 2 ^ j)).1 = q.1) := fun q hq => by
      rw [hq]
      rcases ih with h | ⟨j, h1, h2⟩
      · exact Or.inl h
      · exact Or.inr ⟨j, by omega, h2⟩
    unfold tl_st
    split
    · exact keep _ rfl
    · rename_i hb
      split
      · exact Or.inr ⟨k, by omega, Bool.eq_false_iff.mpr hb, rfl⟩
      · split
        · exact keep _ rfl
        · exact keep _ rfl
theorem tl_att {n a c r u : Nat} (hn : n ≤ 12) (hac : th_po a n = th_po c n) (hu : u < 2 ^ th_po a n) (hr : th_po u (th_po a n) + (r + 1) = th_po a n) : ∃ j : Nat, j < th_po a n ∧ u.testBit j = false ∧ tl_d n a c (th_po a n - (r + 1)) j + (tl_LW (th_po a n) (tl_d n a c) r (u ||| 2 ^ j)).1 = (tl_LW (th_po a n) (tl_d n a c) (r + 1) u).1 := by
  have hk : th_po a n ≤ n := th_sm_le
  have h1 := tl_LWb hn hac (r + 1) u hu hr
  rcases tl_foa (dist := tl_d n a c (th_po a n - (r + 1))) (rec := tl_LW (th_po a n) (tl_d n a c) r) (taken := u) (p := (10000, 0)) (th_po a n) with h | h
  · have h2 : (tl_LW (th_po a n) (tl_d n a c) (r + 1) u).1 = 10000 := h
    omega
  · exact h
