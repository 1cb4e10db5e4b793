/-! ===== full rows, of the reference ===== -/
noncomputable def th_f {α : Type} (n : Nat) (f : Nat → α) : α := Nat.rec (f 0) (fun m _ => f (Nat.succ m)) n
theorem th_f_eq {α : Type} (n : Nat) (f : Nat → α) : th_f n f = f n := by cases n <;> rfl
/-- rows behind a beginning: those that go on with x or more, n - x = m -/
noncomputable def th_r (n : Nat) (F : Nat → Nat → Nat → Nat) (p s g B : Nat) (m : Nat) : Nat :=
  Nat.rec 0 (fun m acc => cond (Nat.beq (Nat.land (Nat.shiftRight B (Nat.sub n (Nat.succ m))) 1) 0) (Nat.add (th_f (Nat.sub n (Nat.succ m)) fun x => th_f (Nat.lor s (Nat.pow 2 x)) fun s2 => th_f (Nat.lor g (Nat.pow 2 (Nat.mod (Nat.sub (Nat.add x n) p) n))) fun g2 => F x s2 g2) acc) acc) m
noncomputable def th_B (n p s g : Nat) : Nat := Nat.lor s (Nat.lor (Nat.shiftLeft g p) (Nat.shiftRight g (Nat.sub n p)))
noncomputable def th_ff (n k : Nat) : Nat → Nat → Nat → Nat := Nat.rec (fun _ _ _ => 1) (fun _ F p s g => th_f (th_B n p s g) fun B => th_r n F p s g B n) k
theorem th_ff_s (n k p s g : Nat) : th_ff n (k + 1) p s g = th_r n (th_ff n k) p s g (th_B n p s g) n := th_f_eq (th_B n p s g) (fun B => th_r n (th_ff n k) p s g B n)
theorem th_r_s (n : Nat) (F : Nat → Nat → Nat → Nat) (p s g B m : Nat) : th_r n F p s g B (m + 1) = if (B >>> (n - (m + 1))) &&& 1 = 0 then F (n - (m + 1)) (s ||| 2 ^ (n - (m + 1))) (g ||| 2 ^ ((n - (m + 1) + n - p) % n)) + th_r n F p s g B m else th_r n F p s g B m := by
  have h : th_r n F p s g B (m + 1) = cond (Nat.beq (Nat.land (Nat.shiftRight B (Nat.sub n (Nat.succ m))) 1) 0) (Nat.add (th_f (Nat.sub n (Nat.succ m)) fun x => th_f (Nat.lor s (Nat.pow 2 x)) fun s2 => th_f (Nat.lor g (Nat.pow 2 (Nat.mod (Nat.sub (Nat.add x n) p) n))) fun g2 => F x s2 g2) (th_r n F p s g B m)) (th_r n F p s g B m) := rfl
  rw [h, th_f_eq, th_f_eq, th_f_eq]
  show cond (Nat.beq ((B >>> (n - (m + 1))) &&& 1) 0) (F (n - (m + 1)) (s ||| 2 ^ (n - (m + 1))) (g ||| 2 ^ ((n - (m + 1) + n - p) % n)) + th_r n F p s g B m) (th_r n F p s g B m) = _
  by_cases hc : (B >>> (n - (m + 1))) &&& 1 = 0
  · rw [if_pos hc, hc]
    rfl
  · rw [if_neg hc, show Nat.beq ((B >>> (n - (m + 1))) &&& 1) 0 = false from Bool.eq_false_iff.mpr (fun e => hc (tv_beq e))]
    rfl
theorem th_bz (a x : Nat) : (a >>> x) &&& 1 = 0 ↔ a.testBit x = false := by
  unfold Nat.testBit
  rw [Nat.and_comm]
  cases hb : (1 &&& a >>> x != 0) with
  | false => simpa using hb
  | true => simpa using hb
theorem th_Bt {n p s g x : Nat} (hp : p < n) (hx : x < n) (hg : g < 2 ^ n) : (th_B n p s g >>> x) &&& 1 = 0 ↔ (s.testBit x = false ∧ g.testBit ((x + n - p) % n) = false) := by
  rw [th_bz]
  have h : (th_B n p s g).testBit x = (s.testBit x || g.testBit ((x + n - p) % n)) := by
    show (s ||| (g <<< p ||| g >>> (n - p))).testBit x = _
    rw [Nat.testBit_or, Nat.testBit_or, Nat.testBit_shiftLeft, Nat.testBit_shiftRight]
    congr 1
    by_cases hc : p ≤ x
    · have e1 : (x + n - p) % n = x - p := by rw [show x + n - p = (x - p) + n by omega, Nat.add_mod_right, Nat.mod_eq_of_lt (by omega)]
      have e2 : g.testBit (n - p + x) = false := Nat.testBit_lt_two_pow (Nat.lt_of_lt_of_le hg (Nat.pow_le_pow_right (by decide) (by omega)))
      rw [e1, e2]
      simp [hc]
    · have e1 : (x + n - p) % n = n - p + x := by rw [show x + n - p = n - p + x by omega, Nat.mod_eq_of_lt (by omega)]
      rw [e1]
      simp [hc]
  rw [h]
  simp
set_option maxRecDepth 100000 in
theorem th_fk : (List.range 4096).all (fun m => (List.range 12).all (fun w => decide (th_hs (nI m) (nI w) = cond (Nat.testBit m w) 1 0) && (Nat.testBit m w || (decide ((nI m ||| (1 <<< (nI w &&& 31))) = nI (m ||| 2 ^ w)) && decide ((nI (m ||| 2 ^ w)) ^^^ (1 <<< (nI w &&& 31)) = nI m))))) = true := by decide +kernel
theorem th_bk {m w : Nat} (hm : m < 4096) (hw : w < 12) : th_hs (nI m) (nI w) = (bif Nat.testBit m w then 1 else 0) ∧ (Nat.testBit m w = false → (nI m ||| (1 <<< (nI w &&& 31))) = nI (m ||| 2 ^ w) ∧ (nI (m ||| 2 ^ w)) ^^^ (1 <<< (nI w &&& 31)) = nI m) := by
  have h1 := List.all_eq_true.mp (List.all_eq_true.mp th_fk m (List.mem_range.mpr hm)) w (List.mem_range.mpr hw)
  simp only [Bool.or_eq_true, Bool.and_eq_true, decide_eq_true_eq] at h1
  refine ⟨h1.1, fun h2 => ?_⟩
  rcases h1.2 with h3 | h3
  · rw [h2] at h3; cases h3
  · exact h3
set_option maxRecDepth 100000 in
theorem th_gk : (List.range 13).all (fun n => (List.range n).all (fun x => (List.range n).all (fun p => decide ((nI x - nI p + nI n) - (nI x - nI p + nI n) / nI n * nI n = nI ((x + n - p) % n))))) = true := by decide +kernel
theorem th_gap {n x p : Nat} (hn : n ≤ 12) (hx : x < n) (hp : p < n) : (nI x - nI p + nI n) - (nI x - nI p + nI n) / nI n * nI n = nI ((x + n - p) % n) := by
  have h1 := List.all_eq_true.mp (List.all_eq_true.mp (List.all_eq_true.mp th_gk n (List.mem_range.mpr (by omega))) x (List.mem_range.mpr hx)) p (List.mem_range.mpr hp)
  exact of_decide_eq_true h1
theorem th_l12 {n : Nat} (hn : n ≤ 12) {g : Nat} (hg : g < 2 ^ n) : g < 4096 := Nat.lt_of_lt_of_le hg (Nat.le_trans (Nat.pow_le_pow_right (by decide) hn) (by decide))
theorem th_orlt {n g d : Nat} (hg : g < 2 ^ n) (hd : d < n) : g ||| 2 ^ d < 2 ^ n := Nat.or_lt_two_pow hg (Nat.pow_lt_pow_right (by decide) hd)
theorem th_m1 : ¬ (-1 : Int32) = nI 0 := by decide
def th_FI (n : Nat) (σ0 s : tm_S) : Prop := tv_TY (tc_T (n : Int)) s ∧ tv_un σ0 s [(11, 11), (11, 12), (52, 64), (53, 64)]
theorem th_FN {n : Nat} {σ0 s : tm_S} (h : th_FI n σ0 s) (hn : n ≤ 12) : s.1 11 1 = nI n := by
  have h1 : (n : Int) ≤ (s.1 11 1).toInt ∧ (s.1 11 1).toInt ≤ n := h.1.1 11 1
  exact Int32.toInt_inj.mp (by rw [nI_toInt (by omega)]; omega)
theorem th_FC {n : Nat} {σ0 s : tm_S} (h : th_FI n σ0 s) : 0 ≤ (s.1 11 12).toInt ∧ (s.1 11 12).toInt ≤ 4000 := h.1.1 11 12
theorem th_FI_w {n k : Nat} {σ0 s : tm_S} {x : Int32} (h : th_FI n σ0 s) (h1 : -1 ≤ x.toInt) (h2 : x.toInt ≤ 12) : th_FI n σ0 (tm_sI s 53 k x) := ⟨tv_TY_sI h.1 h1 h2, tv_un_tr h.2 (tv_un_ar rfl rfl)⟩
theorem th_FI_r {n k : Nat} {σ0 s : tm_S} {x : Int64} (h : th_FI n σ0 s) : th_FI n σ0 (tm_sJ s 52 k x) := ⟨h.1, tv_un_tr h.2 (tv_un_aJ rfl rfl)⟩
theorem th_FI_c {n : Nat} {σ0 s : tm_S} {x : Int32} (h : th_FI n σ0 s) (h1 : 0 ≤ x.toInt) (h2 : x.toInt ≤ 4000) : th_FI n σ0 (tm_sI s 11 12 x) := ⟨tv_TY_sI h.1 h1 h2, tv_un_tr h.2 (tv_un_fI rfl)⟩
set_option maxRecDepth 100000 in
set_option maxHeartbeats 4000000 in
theorem th_back {n L x p s g : Nat} {σ0 σ : tm_S} {Q : Option Value → tm_S → Prop} (h3 : 3 ≤ n) (hn : n ≤ 12) (hL : 1 ≤ L) (hLn : L < n) (hx : x < n) (hp : p < n) (hs : s < 4096) (hg : g < 2 ^ n) (bs : s.testBit x = false) (bg : g.testBit ((x + n - p) % n) = false) (F : th_FI n σ0 σ) (wx : σ.1 53 L = nI x) (wp : σ.1 53 (L - 1) = nI p) (K : WP 40 198 110 [(4, .int (nI (x + 1))), (1, .int (nI L)), (2, .int (nI s)), (3, .int (nI g)), (0, .ref 11)] [] σ Q) : WP 40 198 45 [(1, .int (nI L)), (2, .int (nI (s ||| 2 ^ x))), (3, .int (nI (g ||| 2 ^ ((x + n - p) % n)))), (0, .ref 11)] [] σ Q := by
  have hN := th_FN F hn
  have hd : (x + n - p) % n < n := Nat.mod_lt _ (by omega)
  have cL : (nI L).toNatClampNeg = L := nI_clamp (by omega)
  have eL : nI L - 1 = nI (L - 1) := by rw [show L = (L - 1) + 1 by omega]; exact nI_pred _
  have cL1 : (nI (L - 1)).toNatClampNeg = L - 1 := nI_clamp (by omega)
  refine wp_ldi rfl tm_m0 ?_
  refine wq_ifle rfl (fun h46 => absurd h46 (nI_nle (by omega) (by omega))) (fun h46 => ?_)
  refine wp_lda rfl tm_m3 ?_
  refine wq_getr (p := 53) rfl rfl (f := 14) rfl rfl ?_
  refine wp_ldi rfl tm_m0 ?_
  refine wp_iald rfl rfl (nI_in (by omega) (by decide)) ?_
  rw [cL, wx]
  refine wq_con (x := (-1)) rfl (by decide) ?_
  refine wq_iceq rfl (fun h56 => absurd (congrArg Int32.toInt h56) (by rw [nI_toInt (by omega)]; show ¬ (x : Int) = -1; omega)) (fun h56 => ?_)
  refine wp_ldi rfl tm_m1 ?_
  refine wq_con (x := 1) rfl (by decide) ?_
  refine wp_lda rfl tm_m3 ?_
  refine wq_getr (p := 53) rfl rfl (f := 14) rfl rfl ?_
  refine wp_ldi rfl tm_m0 ?_
  refine wp_iald rfl rfl (nI_in (by omega) (by decide)) ?_
  rw [cL, wx]
  refine wq_ishl rfl ?_
  refine wq_ixor rfl ?_
  rw [((th_bk hs (by omega)).2 bs).2]
  refine wq_sti [(2, .int (nI s)), (1, .int (nI L)), (3, .int (nI (g ||| 2 ^ ((x + n - p) % n)))), (0, .ref 11)] rfl rfl ?_
  refine wp_ldi rfl tm_m2 ?_
  refine wq_con (x := 1) rfl (by decide) ?_
  refine wp_lda rfl tm_m3 ?_
  refine wq_getr (p := 53) rfl rfl (f := 14) rfl rfl ?_
  refine wp_ldi rfl tm_m1 ?_
  refine wp_iald rfl rfl (nI_in (by omega) (by decide)) ?_
  rw [cL, wx]
  refine wp_lda rfl tm_m3 ?_
  refine wq_getr (p := 53) rfl rfl (f := 14) rfl rfl ?_
  refine wp_ldi rfl tm_m1 ?_
  refine wq_con (x := 1) rfl (by decide) ?_
  refine wq_isub rfl ?_
  rw [eL]
  refine wp_iald rfl rfl (nI_in (by omega) (by decide)) ?_
  rw [cL1, wp]
  refine wq_isub rfl ?_
  refine wp_lda rfl tm_m3 ?_
  refine wq_geti rfl rfl (f := 1) rfl rfl (Or.inl rfl) ?_
  rw [hN]
  refine wq_iadd rfl ?_
  refine wp_lda rfl tm_m3 ?_
  refine wq_geti rfl rfl (f := 1) rfl rfl (Or.inl rfl) ?_
  rw [hN]
  refine wp_rem rfl (nI_ne0 (by omega) (by omega)) ?_
  rw [th_gap hn hx hp]
  refine wq_ishl rfl ?_
  refine wq_ixor rfl ?_
  rw [((th_bk (th_l12 hn hg) (by omega)).2 bg).2]
  refine wq_sti [(3, .int (nI g)), (2, .int (nI s)), (1, .int (nI L)), (0, .ref 11)] rfl rfl ?_
  refine wp_lda rfl tm_m3 ?_
  refine wq_getr (p := 53) rfl rfl (f := 14) rfl rfl ?_
  refine wp_ldi rfl tm_m2 ?_
  refine wp_iald rfl rfl (nI_in (by omega) (by decide)) ?_
  rw [cL, wx]
  refine wq_con (x := 1) rfl (by decide) ?_
  refine wq_iadd rfl ?_
  rw [nI_1]
  refine wq_sti [(4, .int (nI (x + 1))), (3, .int (nI g)), (2, .int (nI s)), (1, .int (nI L)), (0, .ref 11)] rfl rfl ?_
  exact WP.less K (by simp)
set_option maxRecDepth 100000 in
set_option maxHeartbeats 4000000 in
theorem th_down {n L x p s g : Nat} {σ0 σ : tm_S} {Q : Option Value → tm_S → Prop} (h3 : 3 ≤ n) (hn : n ≤ 12) (hL : 1 ≤ L) (hLn : L < n) (F : th_FI n σ0 σ) (wx : σ.1 53 L = -1) (K : WP 40 198 110 [(4, .int (nI 0)), (1, .int (nI L)), (2, .int (nI s)), (3, .int (nI g)), (0, .ref 11)] [] σ Q) : WP 40 198 45 [(1, .int (nI L)), (2, .int (nI s)), (3, .int (nI g)), (0, .ref 11)] [] σ Q := by
  have cL : (nI L).toNatClampNeg = L := nI_clamp (by omega)
  refine wp_ldi rfl tm_m0 ?_
  refine wq_ifle rfl (fun h46 => absurd h46 (nI_nle (by omega) (by omega))) (fun h46 => ?_)
  refine wp_lda rfl tm_m3 ?_
  refine wq_getr (p := 53) rfl rfl (f := 14) rfl rfl ?_
  refine wp_ldi rfl tm_m0 ?_
  refine wp_iald rfl rfl (nI_in (by omega) (by decide)) ?_
  rw [cL, wx]
  refine wq_con (x := (-1)) rfl (by decide) ?_
  refine wq_iceq rfl (fun h56 => ?_) (fun h56 => absurd rfl h56)
  refine wp_lda rfl tm_m3 ?_
  refine wq_getr (p := 53) rfl rfl (f := 14) rfl rfl ?_
  refine wp_ldi rfl tm_m0 ?_
  refine wp_iald rfl rfl (nI_in (by omega) (by decide)) ?_
  rw [cL, wx]
  refine wq_con (x := 1) rfl (by decide) ?_
  refine wq_iadd rfl ?_
  rw [show (-1 : Int32) + 1 = nI 0 by decide]
  refine wq_sti [(4, .int (nI 0)), (1, .int (nI L)), (2, .int (nI s)), (3, .int (nI g)), (0, .ref 11)] rfl rfl ?_
  exact WP.less K (by simp)
set_option maxRecDepth 100000 in
set_option maxHeartbeats 4000000 in
theorem th_rowl {n : Nat} {L s g x : Int32} {σ0 σ : tm_S} {Q : Option Value → tm_S → Prop} (hn : n ≤ 12) (F : th_FI n σ0 σ) (K : ∀ r : Int64, WP 40 198 273 [(5, .long r), (4, .int x), (1, .int L), (2, .int s), (3, .int g), (0, .ref 11)] [] σ Q) : ∀ (m i : Nat) (r : Int64), i + m = n → WP 40 198 240 [(7, .int (nI i)), (5, .long r), (4, .int x), (1, .int L), (2, .int s), (3, .int g), (0, .ref 11)] [] σ Q := by
  have hN := th_FN F hn
  intro m
  induction m with
  | zero =>
    intro i r hi
    refine wp_ldi rfl tm_m0 ?_
    refine wp_lda rfl tm_m6 ?_
    refine wq_geti rfl rfl (f := 1) rfl rfl (Or.inl rfl) ?_
    rw [hN]
    refine wq_icge rfl (fun h246 => ?_) (fun h246 => absurd (nI_le (by omega) (by omega)) h246)
    exact WP.less (K r) (by simp)
  | succ m ih =>
    intro i r hi
    refine wp_ldi rfl tm_m0 ?_
    refine wp_lda rfl tm_m6 ?_
    refine wq_geti rfl rfl (f := 1) rfl rfl (Or.inl rfl) ?_
    rw [hN]
    refine wq_icge rfl (fun h246 => absurd h246 (nI_ge (by omega) (by omega))) (fun h246 => ?_)
    refine wp_ldl rfl tm_m1 ?_
    refine wp_lda rfl tm_m6 ?_
    refine wq_getr (p := 53) rfl rfl (f := 14) rfl rfl ?_
    refine wp_ldi rfl tm_m0 ?_
    refine wp_iald rfl rfl (nI_in (by omega) (by decide)) ?_
    refine wp_i2l rfl ?_
    refine wq_con (x := 4) rfl (by decide) ?_
    refine wp_ldi rfl tm_m0 ?_
    refine wq_imul rfl ?_
    refine wq_lshl rfl ?_
    refine wq_lor rfl ?_
    refine wq_stl [(5, .long (r ||| (((σ.1 53 (nI i).toNatClampNeg).toInt64) <<< (((4 * (nI i)) : Int32).toInt64 &&& 63)))), (7, .int (nI i)), (4, .int x), (1, .int L), (2, .int s), (3, .int g), (0, .ref 11)] rfl rfl ?_
    refine wq_inc (c := 1) [(7, .int ((nI i) + 1)), (5, .long (r ||| (((σ.1 53 (nI i).toNatClampNeg).toInt64) <<< (((4 * (nI i)) : Int32).toInt64 &&& 63)))), (4, .int x), (1, .int L), (2, .int s), (3, .int g), (0, .ref 11)] rfl tm_m1 rfl rfl ?_
    refine wp_go rfl ?_
    rw [nI_1]
    exact WP.less (ih (i + 1) (r ||| (((σ.1 53 (nI i).toNatClampNeg).toInt64) <<< (((4 * (nI i)) : Int32).toInt64 &&& 63))) (by omega)) (by simp)
set_option maxRecDepth 100000 in
set_option maxHeartbeats 4000000 in
theorem th_ffE {n : Nat} {σ0 : tm_S} {Q : Option Value → tm_S → Prop} (h3 : 3 ≤ n) (hn : n ≤ 12) : ∀ (k m L x p s g : Nat) (σ : tm_S), L + (k + 1) = n → 1 ≤ L → x + m = n → p < n → s < 2 ^ n → g < 2 ^ n → th_FI n σ0 σ → σ.1 53 (L - 1) = nI p → (σ.1 11 12).toInt + (th_r n (th_ff n k) p s g (th_B n p s g) m : Nat) ≤ 4000 → (∀ σ' : tm_S, th_FI n σ0 σ' → (∀ i : Nat, i < L → σ'.1 53 i = σ.1 53 i) → (σ'.1 11 12).toInt = (σ.1 11 12).toInt + (th_r n (th_ff n k) p s g (th_B n p s g) m : Nat) → WP 40 198 45 [(1, .int (nI (L - 1))), (2, .int (nI s)), (3, .int (nI g)), (0, .ref 11)] [] σ' Q) → WP 40 198 110 [(4, .int (nI x)), (1, .int (nI L)), (2, .int (nI s)), (3, .int (nI g)), (0, .ref 11)] [] σ Q := by
  intro k
  induction k with
  | zero =>
    intro m
    induction m with
    | zero =>
      intro L x p s g σ hLk hL hx hp hs hg F wp hC K
      have hN := th_FN F hn
      have fc := th_FC F
      have cL : (nI L).toNatClampNeg = L := nI_clamp (by omega)
      have eL : nI L - 1 = nI (L - 1) := by rw [show L = (L - 1) + 1 by omega]; exact nI_pred _
      have cL1 : (nI (L - 1)).toNatClampNeg = L - 1 := nI_clamp (by omega)
      obtain rfl : n = x := by omega
      refine wp_ldi rfl tm_m0 ?_
      refine wp_lda rfl tm_m4 ?_
      refine wq_geti rfl rfl (f := 1) rfl rfl (Or.inl rfl) ?_
      rw [hN]
      refine wq_icge rfl (fun h116 => ?_) (fun h116 => absurd (nI_le (Nat.le_refl _) (by omega)) h116)
      refine wp_lda rfl tm_m4 ?_
      refine wq_getr (p := 53) rfl rfl (f := 14) rfl rfl ?_
      refine wp_ldi rfl tm_m1 ?_
      refine wp_ldi rfl tm_m0 ?_
      refine wp_iast rfl rfl (nI_in (by omega) (by decide)) ?_
      rw [cL]
      generalize e1 : tm_sI σ 53 L (nI n) = σ1
      have F1 : th_FI n σ0 σ1 := by rw [← e1]; exact th_FI_w F (by rw [nI_toInt (by omega)]; omega) (by rw [nI_toInt (by omega)]; omega)
      have p1 : ∀ i : Nat, i < L → σ1.1 53 i = σ.1 53 i := by intro i hi; rw [← e1, tm_gI, if_neg (fun e => by omega)]
      have w1 : σ1.1 53 L = nI n := by rw [← e1, tm_gI, if_pos ⟨rfl, rfl⟩]
      have c1 : σ1.1 11 12 = σ.1 11 12 := by rw [← e1, tm_gI, if_neg (fun e => absurd e.1 (by decide))]
      have hN1 := th_FN F1 hn
      refine wp_ldi rfl tm_m0 ?_
      refine wp_lda rfl tm_m4 ?_
      refine wq_geti rfl rfl (f := 1) rfl rfl (Or.inl rfl) ?_
      rw [hN1]
      refine wq_icne rfl (fun h181 => absurd rfl h181) (fun h181 => ?_)
      refine wp_ldi rfl tm_m1 ?_
      refine wq_con (x := 1) rfl (by decide) ?_
      refine wq_isub rfl ?_
      rw [eL]
      refine wq_sti [(1, .int (nI (L - 1))), (4, .int (nI n)), (2, .int (nI s)), (3, .int (nI g)), (0, .ref 11)] rfl rfl ?_
      refine wp_go rfl ?_
      exact WP.less (K σ1 F1 p1 (by rw [c1]; show _ = _ + ((0 : Nat) : Int); omega)) (by simp)
    | succ m ih =>
      intro L x p s g σ hLk hL hx hp hs hg F wp hC K
      have hN := th_FN F hn
      have fc := th_FC F
      have cL : (nI L).toNatClampNeg = L := nI_clamp (by omega)
      have eL : nI L - 1 = nI (L - 1) := by rw [show L = (L - 1) + 1 by omega]; exact nI_pred _
      have cL1 : (nI (L - 1)).toNatClampNeg = L - 1 := nI_clamp (by omega)
      have hxn : x < n := by omega
      have hs2 := th_l12 hn hs
      have hg2 := th_l12 hn hg
      have hd : (x + n - p) % n < n := Nat.mod_lt _ (by omega)
      have ex : n - (m + 1) = x := by omega
      have er := th_r_s n (th_ff n 0) p s g (th_B n p s g) m
      rw [ex] at er
      have hB := th_Bt (s := s) hp hxn hg
      have b1 := (th_bk hs2 (w := x) (by omega)).1
      have b2 := (th_bk hg2 (w := (x + n - p) % n) (by omega)).1
      have next : ∀ τ : tm_S, th_FI n σ0 τ → (∀ i : Nat, i < L → τ.1 53 i = σ.1 53 i) → (τ.1 11 12).toInt + (th_r n (th_ff n 0) p s g (th_B n p s g) m : Nat) = (σ.1 11 12).toInt + (th_r n (th_ff n 0) p s g (th_B n p s g) (m + 1) : Nat) → WP 40 198 110 [(4, .int (nI (x + 1))), (1, .int (nI L)), (2, .int (nI s)), (3, .int (nI g)), (0, .ref 11)] [] τ Q := by
        intro τ Fτ pτ cτ
        refine ih L (x + 1) p s g τ hLk hL (by omega) hp hs hg Fτ (by rw [pτ _ (by omega)]; exact wp) (by omega) (fun σ' F' p' c' => K σ' F' (fun i hi => (p' i hi).trans (pτ i hi)) (by omega))
      have skip : ¬ (s.testBit x = false ∧ g.testBit ((x + n - p) % n) = false) → WP 40 198 110 [(4, .int (nI (x + 1))), (1, .int (nI L)), (2, .int (nI s)), (3, .int (nI g)), (0, .ref 11)] [] σ Q := fun hb => next σ F (fun _ _ => rfl) (by rw [er, if_neg (fun e => hb (hB.mp e))])
      have take : s.testBit x = false → g.testBit ((x + n - p) % n) = false → WP 40 198 167 [(4, .int (nI x)), (1, .int (nI L)), (2, .int (nI s)), (3, .int (nI g)), (0, .ref 11)] [] σ Q := by
        intro bs bg
        rw [if_pos (hB.mpr ⟨bs, bg⟩)] at er
        have er2 : th_r n (th_ff n 0) p s g (th_B n p s g) (m + 1) = 1 + th_r n (th_ff n 0) p s g (th_B n p s g) m := er
        refine wp_lda rfl tm_m4 ?_
        refine wq_getr (p := 53) rfl rfl (f := 14) rfl rfl ?_
        refine wp_ldi rfl tm_m1 ?_
        refine wp_ldi rfl tm_m0 ?_
        refine wp_iast rfl rfl (nI_in (by omega) (by decide)) ?_
        rw [cL]
        generalize e1 : tm_sI σ 53 L (nI x) = σ1
        have F1 : th_FI n σ0 σ1 := by rw [← e1]; exact th_FI_w F (by rw [nI_toInt (by omega)]; omega) (by rw [nI_toInt (by omega)]; omega)
        have p1 : ∀ i : Nat, i < L → σ1.1 53 i = σ.1 53 i := by intro i hi; rw [← e1, tm_gI, if_neg (fun e => by omega)]
        have w1 : σ1.1 53 L = nI x := by rw [← e1, tm_gI, if_pos ⟨rfl, rfl⟩]
        have c1 : σ1.1 11 12 = σ.1 11 12 := by rw [← e1, tm_gI, if_neg (fun e => absurd e.1 (by decide))]
        have hN1 := th_FN F1 hn
        refine wp_ldi rfl tm_m0 ?_
        refine wp_lda rfl tm_m4 ?_
        refine wq_geti rfl rfl (f := 1) rfl rfl (Or.inl rfl) ?_
        rw [hN1]
        refine wq_icne rfl (fun h181 => ?_) (fun h181 => absurd (fun e => absurd ((nI_eq (by omega) (by omega)).mp e) (by omega)) h181)
        refine wp_ldi rfl tm_m2 ?_
        refine wq_con (x := 1) rfl (by decide) ?_
        refine wp_ldi rfl tm_m0 ?_
        refine wq_ishl rfl ?_
        refine wq_ior rfl ?_
        rw [((th_bk hs2 (by omega)).2 bs).1]
        refine wq_sti [(2, .int (nI (s ||| 2 ^ x))), (4, .int (nI x)), (1, .int (nI L)), (3, .int (nI g)), (0, .ref 11)] rfl rfl ?_
        refine wp_ldi rfl tm_m3 ?_
        refine wq_con (x := 1) rfl (by decide) ?_
        refine wp_ldi rfl tm_m1 ?_
        refine wp_lda rfl tm_m4 ?_
        refine wq_getr (p := 53) rfl rfl (f := 14) rfl rfl ?_
        refine wp_ldi rfl tm_m2 ?_
        refine wq_con (x := 1) rfl (by decide) ?_
        refine wq_isub rfl ?_
        rw [eL]
        refine wp_iald rfl rfl (nI_in (by omega) (by decide)) ?_
        rw [cL1, p1 _ (by omega), wp]
        refine wq_isub rfl ?_
        refine wp_lda rfl tm_m4 ?_
        refine wq_geti rfl rfl (f := 1) rfl rfl (Or.inl rfl) ?_
        rw [hN1]
        refine wq_iadd rfl ?_
        refine wp_lda rfl tm_m4 ?_
        refine wq_geti rfl rfl (f := 1) rfl rfl (Or.inl rfl) ?_
        rw [hN1]
        refine wp_rem rfl (nI_ne0 (by omega) (by omega)) ?_
        rw [th_gap hn hxn hp]
        refine wq_ishl rfl ?_
        refine wq_ior rfl ?_
        rw [((th_bk hg2 (by omega)).2 bg).1]
        refine wq_sti [(3, .int (nI (g ||| 2 ^ ((x + n - p) % n)))), (2, .int (nI (s ||| 2 ^ x))), (4, .int (nI x)), (1, .int (nI L)), (0, .ref 11)] rfl rfl ?_
        refine wp_ldi rfl tm_m3 ?_
        refine wp_lda rfl tm_m4 ?_
        refine wq_geti rfl rfl (f := 1) rfl rfl (Or.inl rfl) ?_
        rw [hN1]
        refine wq_con (x := 1) rfl (by decide) ?_
        refine wq_isub rfl ?_
        rw [show nI n - 1 = nI (n - 1) by rw [show n = (n - 1) + 1 by omega]; exact nI_pred _]
        refine wq_icne rfl (fun h231 => absurd (by rw [show L = n - 1 by omega]) h231) (fun h231 => ?_)
        refine wq_lco (x := 0) rfl (by decide) ?_
        refine wq_stl [(5, .long 0), (3, .int (nI (g ||| 2 ^ ((x + n - p) % n)))), (2, .int (nI (s ||| 2 ^ x))), (4, .int (nI x)), (1, .int (nI L)), (0, .ref 11)] rfl rfl ?_
        refine wq_con (x := 0) rfl (by decide) ?_
        refine wq_sti [(7, .int 0), (5, .long 0), (3, .int (nI (g ||| 2 ^ ((x + n - p) % n)))), (2, .int (nI (s ||| 2 ^ x))), (4, .int (nI x)), (1, .int (nI L)), (0, .ref 11)] rfl rfl ?_
        refine WP.less (th_rowl hn F1 (L := nI L) (s := nI (s ||| 2 ^ x)) (g := nI (g ||| 2 ^ ((x + n - p) % n))) (x := nI x) (fun r => ?_) n 0 0 (by omega)) (by simp [nI_0])
        refine wp_lda rfl tm_m5 ?_
        refine wq_getr (p := 52) rfl rfl (f := 13) rfl rfl ?_
        refine wp_lda rfl tm_m5 ?_
        refine wq_geti rfl rfl (f := 12) rfl rfl (Or.inl rfl) ?_
        refine wp_ldl rfl tm_m0 ?_
        refine wp_last rfl rfl (tn_in (by rw [c1]; exact fc.1) (by rw [c1]; show _ < (4000 : Int); omega)) ?_
        refine wp_lda rfl tm_m5 ?_
        refine wp_lda rfl tm_m5 ?_
        refine wq_geti rfl rfl (f := 12) rfl rfl (Or.inl rfl) ?_
        rw [tm_gIJ]
        refine wq_con (x := 1) rfl (by decide) ?_
        refine wq_iadd rfl ?_
        refine wq_puti rfl rfl (f := 12) rfl rfl ?_
        refine wp_go rfl ?_
        refine wp_go rfl ?_
        have fe : (tm_sI (tm_sJ σ1 52 (σ1.1 11 12).toNatClampNeg r) 11 12 (σ1.1 11 12 + 1)).1 11 12 = σ1.1 11 12 + 1 := by rw [tm_gI, if_pos ⟨rfl, rfl⟩]
        have fi : (σ1.1 11 12 + 1).toInt = (σ.1 11 12).toInt + 1 := by rw [tn_add1 (by rw [c1]; omega), c1]
        refine WP.less (th_back h3 hn hL (by omega) hxn hp hs2 hg bs bg (th_FI_c (th_FI_r F1) (by rw [fi]; omega) (by rw [fi]; omega)) (by rw [tm_gI, if_neg (fun e => absurd e.1 (by decide))]; exact w1) (by rw [tm_gI, if_neg (fun e => absurd e.1 (by decide))]; show σ1.1 53 (L - 1) = nI p; rw [p1 _ (by omega)]; exact wp) (next _ (th_FI_c (th_FI_r F1) (by rw [fi]; omega) (by rw [fi]; omega)) (fun i hi => ?_) ?_)) (by simp)
        · rw [tm_gI, if_neg (fun e => absurd e.1 (by decide))]
          exact p1 i hi
        · rw [fe, fi, er2]
          omega
      refine wp_ldi rfl tm_m0 ?_
      refine wp_lda rfl tm_m4 ?_
      refine wq_geti rfl rfl (f := 1) rfl rfl (Or.inl rfl) ?_
      rw [hN]
      refine wq_icge rfl (fun h116 => absurd h116 (nI_ge (by omega) (by omega))) (fun h116 => ?_)
      refine wp_lda rfl tm_m4 ?_
      refine wp_ldi rfl tm_m2 ?_
      refine wp_ldi rfl tm_m0 ?_
      refine wq_calv [.int (nI s), .int (nI x)] rfl rfl rfl rfl rfl rfl rfl rfl rfl (th_has) ?_
      rintro _ _ ⟨rfl, rfl⟩
      refine wq_ifne rfl (fun h126 => ?_) (fun h126 => ?_)
      · refine wp_ldi rfl tm_m0 ?_
        refine wq_con (x := 1) rfl (by decide) ?_
        refine wq_iadd rfl ?_
        refine wq_sti [(4, .int ((nI x) + 1)), (1, .int (nI L)), (2, .int (nI s)), (3, .int (nI g)), (0, .ref 11)] rfl rfl ?_
        refine wp_go rfl ?_
        rw [nI_1]
        exact WP.less (skip (fun e => h126 (by rw [b1, e.1]; rfl))) (by simp)
      · refine wp_lda rfl tm_m4 ?_
        refine wp_ldi rfl tm_m3 ?_
        refine wp_ldi rfl tm_m0 ?_
        refine wp_lda rfl tm_m4 ?_
        refine wq_getr (p := 53) rfl rfl (f := 14) rfl rfl ?_
        refine wp_ldi rfl tm_m1 ?_
        refine wq_con (x := 1) rfl (by decide) ?_
        refine wq_isub rfl ?_
        rw [eL]
        refine wp_iald rfl rfl (nI_in (by omega) (by decide)) ?_
        rw [cL1, wp]
        refine wq_isub rfl ?_
        refine wp_lda rfl tm_m4 ?_
        refine wq_geti rfl rfl (f := 1) rfl rfl (Or.inl rfl) ?_
        rw [hN]
        refine wq_iadd rfl ?_
        refine wp_lda rfl tm_m4 ?_
        refine wq_geti rfl rfl (f := 1) rfl rfl (Or.inl rfl) ?_
        rw [hN]
        refine wp_rem rfl (nI_ne0 (by omega) (by omega)) ?_
        rw [th_gap hn hxn hp]
        refine wq_calv [.int (nI g), .int (nI ((x + n - p) % n))] rfl rfl rfl rfl rfl rfl rfl rfl rfl (th_has) ?_
        rintro _ _ ⟨rfl, rfl⟩
        refine wq_ifeq rfl (fun h155 => ?_) (fun h155 => ?_)
        · exact WP.less (take (by
            cases hb : s.testBit x with
            | false => rfl
            | true => exact absurd (by rw [b1, hb]; decide) h126) (by
            cases hb : g.testBit ((x + n - p) % n) with
            | false => rfl
            | true => rw [b2, hb] at h155; exact absurd h155 (by decide))) (by simp)
        · refine wp_ldi rfl tm_m0 ?_
          refine wq_con (x := 1) rfl (by decide) ?_
          refine wq_iadd rfl ?_
          refine wq_sti [(4, .int ((nI x) + 1)), (1, .int (nI L)), (2, .int (nI s)), (3, .int (nI g)), (0, .ref 11)] rfl rfl ?_
          refine wp_go rfl ?_
          rw [nI_1]
          exact WP.less (skip (fun e => h155 (by rw [b2, e.2]; rfl))) (by simp)
  | succ k ihk =>
    intro m
    induction m with
    | zero =>
      intro L x p s g σ hLk hL hx hp hs hg F wp hC K
      have hN := th_FN F hn
      have fc := th_FC F
      have cL : (nI L).toNatClampNeg = L := nI_clamp (by omega)
      have eL : nI L - 1 = nI (L - 1) := by rw [show L = (L - 1) + 1 by omega]; exact nI_pred _
      have cL1 : (nI (L - 1)).toNatClampNeg = L - 1 := nI_clamp (by omega)
      obtain rfl : n = x := by omega
      refine wp_ldi rfl tm_m0 ?_
      refine wp_lda rfl tm_m4 ?_
      refine wq_geti rfl rfl (f := 1) rfl rfl (Or.inl rfl) ?_
      rw [hN]
      refine wq_icge rfl (fun h116 => ?_) (fun h116 => absurd (nI_le (Nat.le_refl _) (by omega)) h116)
      refine wp_lda rfl tm_m4 ?_
      refine wq_getr (p := 53) rfl rfl (f := 14) rfl rfl ?_
      refine wp_ldi rfl tm_m1 ?_
      refine wp_ldi rfl tm_m0 ?_
      refine wp_iast rfl rfl (nI_in (by omega) (by decide)) ?_
      rw [cL]
      generalize e1 : tm_sI σ 53 L (nI n) = σ1
      have F1 : th_FI n σ0 σ1 := by rw [← e1]; exact th_FI_w F (by rw [nI_toInt (by omega)]; omega) (by rw [nI_toInt (by omega)]; omega)
      have p1 : ∀ i : Nat, i < L → σ1.1 53 i = σ.1 53 i := by intro i hi; rw [← e1, tm_gI, if_neg (fun e => by omega)]
      have w1 : σ1.1 53 L = nI n := by rw [← e1, tm_gI, if_pos ⟨rfl, rfl⟩]
      have c1 : σ1.1 11 12 = σ.1 11 12 := by rw [← e1, tm_gI, if_neg (fun e => absurd e.1 (by decide))]
      have hN1 := th_FN F1 hn
      refine wp_ldi rfl tm_m0 ?_
      refine wp_lda rfl tm_m4 ?_
      refine wq_geti rfl rfl (f := 1) rfl rfl (Or.inl rfl) ?_
      rw [hN1]
      refine wq_icne rfl (fun h181 => absurd rfl h181) (fun h181 => ?_)
      refine wp_ldi rfl tm_m1 ?_
      refine wq_con (x := 1) rfl (by decide) ?_
      refine wq_isub rfl ?_
      rw [eL]
      refine wq_sti [(1, .int (nI (L - 1))), (4, .int (nI n)), (2, .int (nI s)), (3, .int (nI g)), (0, .ref 11)] rfl rfl ?_
      refine wp_go rfl ?_
      exact WP.less (K σ1 F1 p1 (by rw [c1]; show _ = _ + ((0 : Nat) : Int); omega)) (by simp)
    | succ m ih =>
      intro L x p s g σ hLk hL hx hp hs hg F wp hC K
      have hN := th_FN F hn
      have fc := th_FC F
      have cL : (nI L).toNatClampNeg = L := nI_clamp (by omega)
      have eL : nI L - 1 = nI (L - 1) := by rw [show L = (L - 1) + 1 by omega]; exact nI_pred _
      have cL1 : (nI (L - 1)).toNatClampNeg = L - 1 := nI_clamp (by omega)
      have hxn : x < n := by omega
      have hs2 := th_l12 hn hs
      have hg2 := th_l12 hn hg
      have hd : (x + n - p) % n < n := Nat.mod_lt _ (by omega)
      have ex : n - (m + 1) = x := by omega
      have er := th_r_s n (th_ff n (k + 1)) p s g (th_B n p s g) m
      rw [ex] at er
      have hB := th_Bt (s := s) hp hxn hg
      have b1 := (th_bk hs2 (w := x) (by omega)).1
      have b2 := (th_bk hg2 (w := (x + n - p) % n) (by omega)).1
      have next : ∀ τ : tm_S, th_FI n σ0 τ → (∀ i : Nat, i < L → τ.1 53 i = σ.1 53 i) → (τ.1 11 12).toInt + (th_r n (th_ff n (k + 1)) p s g (th_B n p s g) m : Nat) = (σ.1 11 12).toInt + (th_r n (th_ff n (k + 1)) p s g (th_B n p s g) (m + 1) : Nat) → WP 40 198 110 [(4, .int (nI (x + 1))), (1, .int (nI L)), (2, .int (nI s)), (3, .int (nI g)), (0, .ref 11)] [] τ Q := by
        intro τ Fτ pτ cτ
        refine ih L (x + 1) p s g τ hLk hL (by omega) hp hs hg Fτ (by rw [pτ _ (by omega)]; exact wp) (by omega) (fun σ' F' p' c' => K σ' F' (fun i hi => (p' i hi).trans (pτ i hi)) (by omega))
      have skip : ¬ (s.testBit x = false ∧ g.testBit ((x + n - p) % n) = false) → WP 40 198 110 [(4, .int (nI (x + 1))), (1, .int (nI L)), (2, .int (nI s)), (3, .int (nI g)), (0, .ref 11)] [] σ Q := fun hb => next σ F (fun _ _ => rfl) (by rw [er, if_neg (fun e => hb (hB.mp e))])
      have take : s.testBit x = false → g.testBit ((x + n - p) % n) = false → WP 40 198 167 [(4, .int (nI x)), (1, .int (nI L)), (2, .int (nI s)), (3, .int (nI g)), (0, .ref 11)] [] σ Q := by
        intro bs bg
        rw [if_pos (hB.mpr ⟨bs, bg⟩)] at er
        have er2 : th_r n (th_ff n (k + 1)) p s g (th_B n p s g) (m + 1) = th_r n (th_ff n k) x (s ||| 2 ^ x) (g ||| 2 ^ ((x + n - p) % n)) (th_B n x (s ||| 2 ^ x) (g ||| 2 ^ ((x + n - p) % n))) n + th_r n (th_ff n (k + 1)) p s g (th_B n p s g) m := by rw [er, th_ff_s]
        refine wp_lda rfl tm_m4 ?_
        refine wq_getr (p := 53) rfl rfl (f := 14) rfl rfl ?_
        refine wp_ldi rfl tm_m1 ?_
        refine wp_ldi rfl tm_m0 ?_
        refine wp_iast rfl rfl (nI_in (by omega) (by decide)) ?_
        rw [cL]
        generalize e1 : tm_sI σ 53 L (nI x) = σ1
        have F1 : th_FI n σ0 σ1 := by rw [← e1]; exact th_FI_w F (by rw [nI_toInt (by omega)]; omega) (by rw [nI_toInt (by omega)]; omega)
        have p1 : ∀ i : Nat, i < L → σ1.1 53 i = σ.1 53 i := by intro i hi; rw [← e1, tm_gI, if_neg (fun e => by omega)]
        have w1 : σ1.1 53 L = nI x := by rw [← e1, tm_gI, if_pos ⟨rfl, rfl⟩]
        have c1 : σ1.1 11 12 = σ.1 11 12 := by rw [← e1, tm_gI, if_neg (fun e => absurd e.1 (by decide))]
        have hN1 := th_FN F1 hn
        refine wp_ldi rfl tm_m0 ?_
        refine wp_lda rfl tm_m4 ?_
        refine wq_geti rfl rfl (f := 1) rfl rfl (Or.inl rfl) ?_
        rw [hN1]
        refine wq_icne rfl (fun h181 => ?_) (fun h181 => absurd (fun e => absurd ((nI_eq (by omega) (by omega)).mp e) (by omega)) h181)
        refine wp_ldi rfl tm_m2 ?_
        refine wq_con (x := 1) rfl (by decide) ?_
        refine wp_ldi rfl tm_m0 ?_
        refine wq_ishl rfl ?_
        refine wq_ior rfl ?_
        rw [((th_bk hs2 (by omega)).2 bs).1]
        refine wq_sti [(2, .int (nI (s ||| 2 ^ x))), (4, .int (nI x)), (1, .int (nI L)), (3, .int (nI g)), (0, .ref 11)] rfl rfl ?_
        refine wp_ldi rfl tm_m3 ?_
        refine wq_con (x := 1) rfl (by decide) ?_
        refine wp_ldi rfl tm_m1 ?_
        refine wp_lda rfl tm_m4 ?_
        refine wq_getr (p := 53) rfl rfl (f := 14) rfl rfl ?_
        refine wp_ldi rfl tm_m2 ?_
        refine wq_con (x := 1) rfl (by decide) ?_
        refine wq_isub rfl ?_
        rw [eL]
        refine wp_iald rfl rfl (nI_in (by omega) (by decide)) ?_
        rw [cL1, p1 _ (by omega), wp]
        refine wq_isub rfl ?_
        refine wp_lda rfl tm_m4 ?_
        refine wq_geti rfl rfl (f := 1) rfl rfl (Or.inl rfl) ?_
        rw [hN1]
        refine wq_iadd rfl ?_
        refine wp_lda rfl tm_m4 ?_
        refine wq_geti rfl rfl (f := 1) rfl rfl (Or.inl rfl) ?_
        rw [hN1]
        refine wp_rem rfl (nI_ne0 (by omega) (by omega)) ?_
        rw [th_gap hn hxn hp]
        refine wq_ishl rfl ?_
        refine wq_ior rfl ?_
        rw [((th_bk hg2 (by omega)).2 bg).1]
        refine wq_sti [(3, .int (nI (g ||| 2 ^ ((x + n - p) % n)))), (2, .int (nI (s ||| 2 ^ x))), (4, .int (nI x)), (1, .int (nI L)), (0, .ref 11)] rfl rfl ?_
        refine wp_ldi rfl tm_m3 ?_
        refine wp_lda rfl tm_m4 ?_
        refine wq_geti rfl rfl (f := 1) rfl rfl (Or.inl rfl) ?_
        rw [hN1]
        refine wq_con (x := 1) rfl (by decide) ?_
        refine wq_isub rfl ?_
        rw [show nI n - 1 = nI (n - 1) by rw [show n = (n - 1) + 1 by omega]; exact nI_pred _]
        refine wq_icne rfl (fun h231 => ?_) (fun h231 => absurd (fun e => absurd ((nI_eq (by omega) (by omega)).mp e) (by omega)) h231)
        refine wp_ldi rfl tm_m3 ?_
        refine wq_con (x := 1) rfl (by decide) ?_
        refine wq_iadd rfl ?_
        refine wq_sti [(1, .int ((nI L) + 1)), (3, .int (nI (g ||| 2 ^ ((x + n - p) % n)))), (2, .int (nI (s ||| 2 ^ x))), (4, .int (nI x)), (0, .ref 11)] rfl rfl ?_
        refine wp_lda rfl tm_m4 ?_
        refine wq_getr (p := 53) rfl rfl (f := 14) rfl rfl ?_
        refine wp_ldi rfl tm_m0 ?_
        refine wq_con (x := (-1)) rfl (by decide) ?_
        refine wp_iast rfl rfl (by rw [nI_1]; exact nI_in (by omega) (by decide)) ?_
        refine wp_go rfl ?_
        rw [nI_1, nI_clamp (n := L + 1) (by omega)]
        generalize e2 : tm_sI σ1 53 (L + 1) (-1) = σ2
        have F2 : th_FI n σ0 σ2 := by rw [← e2]; exact th_FI_w F1 (by decide) (by decide)
        have p2 : ∀ i : Nat, i < L + 1 → σ2.1 53 i = σ1.1 53 i := by intro i hi; rw [← e2, tm_gI, if_neg (fun e => by omega)]
        have w2 : σ2.1 53 (L + 1) = -1 := by rw [← e2, tm_gI, if_pos ⟨rfl, rfl⟩]
        have c2 : σ2.1 11 12 = σ.1 11 12 := by rw [← e2, tm_gI, if_neg (fun e => absurd e.1 (by decide)), c1]
        refine WP.less (th_down (L := L + 1) (s := s ||| 2 ^ x) (g := g ||| 2 ^ ((x + n - p) % n)) (x := 0) (p := 0) h3 hn (by omega) (by omega) F2 w2 ?_) (by simp)
        refine ihk n (L + 1) 0 x (s ||| 2 ^ x) (g ||| 2 ^ ((x + n - p) % n)) σ2 (by omega) (by omega) (by omega) hxn (th_orlt hs hxn) (th_orlt hg hd) F2 (by rw [Nat.add_sub_cancel, p2 L (by omega)]; exact w1) (by rw [c2]; omega) (fun σ' F' p' c' => ?_)
        rw [Nat.add_sub_cancel]
        refine WP.less (th_back h3 hn hL (by omega) hxn hp hs2 hg bs bg F' (by rw [p' L (by omega), p2 L (by omega)]; exact w1) (by rw [p' _ (by omega), p2 _ (by omega), p1 _ (by omega)]; exact wp) (next σ' F' (fun i hi => by rw [p' i (by omega), p2 i (by omega)]; exact p1 i hi) ?_)) (by simp)
        rw [c', c2, er2]
        omega
      refine wp_ldi rfl tm_m0 ?_
      refine wp_lda rfl tm_m4 ?_
      refine wq_geti rfl rfl (f := 1) rfl rfl (Or.inl rfl) ?_
      rw [hN]
      refine wq_icge rfl (fun h116 => absurd h116 (nI_ge (by omega) (by omega))) (fun h116 => ?_)
      refine wp_lda rfl tm_m4 ?_
      refine wp_ldi rfl tm_m2 ?_
      refine wp_ldi rfl tm_m0 ?_
      refine wq_calv [.int (nI s), .int (nI x)] rfl rfl rfl rfl rfl rfl rfl rfl rfl (th_has) ?_
      rintro _ _ ⟨rfl, rfl⟩
      refine wq_ifne rfl (fun h126 => ?_) (fun h126 => ?_)
      · refine wp_ldi rfl tm_m0 ?_
        refine wq_con (x := 1) rfl (by decide) ?_
        refine wq_iadd rfl ?_
        refine wq_sti [(4, .int ((nI x) + 1)), (1, .int (nI L)), (2, .int (nI s)), (3, .int (nI g)), (0, .ref 11)] rfl rfl ?_
        refine wp_go rfl ?_
        rw [nI_1]
        exact WP.less (skip (fun e => h126 (by rw [b1, e.1]; rfl))) (by simp)
      · refine wp_lda rfl tm_m4 ?_
        refine wp_ldi rfl tm_m3 ?_
        refine wp_ldi rfl tm_m0 ?_
        refine wp_lda rfl tm_m4 ?_
        refine wq_getr (p := 53) rfl rfl (f := 14) rfl rfl ?_
        refine wp_ldi rfl tm_m1 ?_
        refine wq_con (x := 1) rfl (by decide) ?_
        refine wq_isub rfl ?_
        rw [eL]
        refine wp_iald rfl rfl (nI_in (by omega) (by decide)) ?_
        rw [cL1, wp]
        refine wq_isub rfl ?_
        refine wp_lda rfl tm_m4 ?_
        refine wq_geti rfl rfl (f := 1) rfl rfl (Or.inl rfl) ?_
        rw [hN]
        refine wq_iadd rfl ?_
        refine wp_lda rfl tm_m4 ?_
        refine wq_geti rfl rfl (f := 1) rfl rfl (Or.inl rfl) ?_
        rw [hN]
        refine wp_rem rfl (nI_ne0 (by omega) (by omega)) ?_
        rw [th_gap hn hxn hp]
        refine wq_calv [.int (nI g), .int (nI ((x + n - p) % n))] rfl rfl rfl rfl rfl rfl rfl rfl rfl (th_has) ?_
        rintro _ _ ⟨rfl, rfl⟩
        refine wq_ifeq rfl (fun h155 => ?_) (fun h155 => ?_)
        · exact WP.less (take (by
            cases hb : s.testBit x with
            | false => rfl
            | true => exact absurd (by rw [b1, hb]; decide) h126) (by
            cases hb : g.testBit ((x + n - p) % n) with
            | false => rfl
            | true => rw [b2, hb] at h155; exact absurd h155 (by decide))) (by simp)
        · refine wp_ldi rfl tm_m0 ?_
          refine wq_con (x := 1) rfl (by decide) ?_
          refine wq_iadd rfl ?_
          refine wq_sti [(4, .int ((nI x) + 1)), (1, .int (nI L)), (2, .int (nI s)), (3, .int (nI g)), (0, .ref 11)] rfl rfl ?_
          refine wp_go rfl ?_
          rw [nI_1]
          exact WP.less (skip (fun e => h155 (by rw [b2, e.2]; rfl))) (by simp)
set_option maxRecDepth 100000 in
set_option maxHeartbeats 4000000 in
theorem th_fulls {n : Nat} {σ : tm_S} (h3 : 3 ≤ n) (hn : n ≤ 12) (hk : th_ff n (n - 1) 0 1 0 ≤ 4000) (hT : tv_TY (tc_T (n : Int)) σ) : WM 40 198 [.ref 11] σ (fun r s' => r = none ∧ th_FI n σ s') := by
  have F0 : th_FI n σ σ := ⟨hT, tv_un_rf⟩
  have hN := th_FN F0 hn
  show WP 40 198 0 [(0, .ref 11)] [] σ _
  refine wp_lda rfl tm_m0 ?_
  refine wq_geti rfl rfl (f := 11) rfl rfl (Or.inl rfl) ?_
  refine wp_lda rfl tm_m0 ?_
  refine wq_geti rfl rfl (f := 1) rfl rfl (Or.inl rfl) ?_
  rw [hN]
  refine wq_icne rfl (fun h8 => ?_) (fun h8 => ?_)
  · refine wp_lda rfl tm_m0 ?_
    refine wp_lda rfl tm_m0 ?_
    refine wq_geti rfl rfl (f := 1) rfl rfl (Or.inl rfl) ?_
    rw [hN]
    refine wq_puti rfl rfl (f := 11) rfl rfl ?_
    refine wp_lda rfl tm_m0 ?_
    refine wq_con (x := 0) rfl (by decide) ?_
    refine wq_puti rfl rfl (f := 12) rfl rfl ?_
    refine wq_con (x := 1) rfl (by decide) ?_
    refine wq_sti [(1, .int 1), (0, .ref 11)] rfl rfl ?_
    refine wq_con (x := 1) rfl (by decide) ?_
    refine wq_sti [(2, .int 1), (1, .int 1), (0, .ref 11)] rfl rfl ?_
    refine wq_con (x := 0) rfl (by decide) ?_
    refine wq_sti [(3, .int 0), (2, .int 1), (1, .int 1), (0, .ref 11)] rfl rfl ?_
    refine wp_lda rfl tm_m3 ?_
    refine wq_getr (p := 53) rfl rfl (f := 14) rfl rfl ?_
    refine wq_con (x := 0) rfl (by decide) ?_
    refine wq_con (x := 0) rfl (by decide) ?_
    refine wp_iast rfl rfl (tn_in (by decide) (by decide)) ?_
    refine wp_lda rfl tm_m3 ?_
    refine wq_getr (p := 53) rfl rfl (f := 14) rfl rfl ?_
    refine wq_con (x := 1) rfl (by decide) ?_
    refine wq_con (x := (-1)) rfl (by decide) ?_
    refine wp_iast rfl rfl (tn_in (by decide) (by decide)) ?_
    have F1 : th_FI n σ (tm_sI (tm_sI (tm_sI (tm_sI σ 11 11 (nI n)) 11 12 0) 53 (0 : Int32).toNatClampNeg 0) 53 (1 : Int32).toNatClampNeg (-1)) := th_FI_w (th_FI_w (th_FI_c ⟨tv_TY_sI hT (tn_rng _).1 (tn_rng _).2, tv_un_fI rfl⟩ (by decide) (by decide)) (by decide) (by decide)) (by decide) (by decide)
    have f1 : (tm_sI (tm_sI (tm_sI (tm_sI σ 11 11 (nI n)) 11 12 0) 53 (0 : Int32).toNatClampNeg 0) 53 (1 : Int32).toNatClampNeg (-1)).1 11 12 = 0 := by rw [tm_gI, if_neg (fun e => absurd e.1 (by decide)), tm_gI, if_neg (fun e => absurd e.1 (by decide)), tm_gI, if_pos ⟨rfl, rfl⟩]
    have w1 : (tm_sI (tm_sI (tm_sI (tm_sI σ 11 11 (nI n)) 11 12 0) 53 (0 : Int32).toNatClampNeg 0) 53 (1 : Int32).toNatClampNeg (-1)).1 53 1 = -1 := by rw [tm_gI]; exact if_pos ⟨rfl, by decide⟩
    have w0 : (tm_sI (tm_sI (tm_sI (tm_sI σ 11 11 (nI n)) 11 12 0) 53 (0 : Int32).toNatClampNeg 0) 53 (1 : Int32).toNatClampNeg (-1)).1 53 0 = 0 := by rw [tm_gI, if_neg (fun e => absurd e.2 (by decide)), tm_gI]; exact if_pos ⟨rfl, by decide⟩
    generalize tm_sI (tm_sI (tm_sI (tm_sI σ 11 11 (nI n)) 11 12 0) 53 (0 : Int32).toNatClampNeg 0) 53 (1 : Int32).toNatClampNeg (-1) = σ1 at F1 f1 w1 w0 ⊢
    refine WP.less (th_down (L := 1) (s := 1) (g := 0) (x := 0) (p := 0) h3 hn (by decide) (by omega) F1 w1 ?_) (by simp [nI])
    have h0 : th_r n (th_ff n (n - 2)) 0 1 0 (th_B n 0 1 0) n ≤ 4000 := by rw [← th_ff_s, show n - 2 + 1 = n - 1 by omega]; exact hk
    refine th_ffE h3 hn (n - 2) n 1 0 0 1 0 σ1 (by omega) (by decide) (by omega) (by omega) (Nat.one_lt_two_pow (by omega)) (Nat.two_pow_pos n) F1 w0 (by rw [f1]; show (0 : Int) + _ ≤ _; omega) (fun σ' F' p' c' => ?_)
    refine wp_ldi rfl tm_m0 ?_
    refine wq_ifle rfl (fun h46 => ?_) (fun h46 => absurd (by decide) h46)
    exact wp_retv rfl ⟨rfl, F'⟩
  · exact wp_retv rfl ⟨rfl, F0⟩
set_option maxRecDepth 100000 in
set_option maxHeartbeats 4000000 in
theorem ts_ffs {n : Nat} (h3 : 3 ≤ n) (hn : n ≤ 12) (hk : th_ff n (n - 1) 0 1 0 ≤ 4000) : tv_Snd (tc_T (n : Int)) (198, [(3, 11, 11)], [], [((0, 0, 0), [])], [(11, 11), (11, 12), (52, 64), (53, 64)], 40) := by
  intro As σ hva hT
  obtain ⟨x0, rfl, h0⟩ := tv_va1 hva
  obtain ⟨k0, rfl, l0, u0⟩ := h0
  obtain rfl : k0 = 11 := by omega
  refine WM.mono (th_fulls h3 hn hk hT) ?_
  rintro r s1 ⟨rfl, F1⟩
  exact tv_Qc1 F1.1 F1.2 tv_rvn
