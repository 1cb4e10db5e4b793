/-! ===== rounds: the class ===== -/
theorem tv_un_z {a b : tm_S} {w : List (Nat × Nat)} {k j : Nat} (h : tv_un a b w) (hk : tv_kd k j = some 1) (hm : tv_mem w k j = false) : b.1 k j = a.1 k j := Value.int.inj (h.1 k j 1 hk hm)
def tw_F (n : Nat) (σ s : tm_S) : Prop := tv_TY (tc_T (n : Int)) s ∧ tv_un σ s [(5, 1), (28, 64)]
/-- a row holds a list -/
def tw_R (f : Nat → Int32) (l : List Nat) : Prop := ∀ i : Nat, i < l.length → f i = nI (l.getD i 0)
def tw_H (s : tm_S) (l : List Nat) : Prop := s.1 5 1 = nI l.length ∧ tw_R (s.1 28) l
theorem tw_Ra {f g : Nat → Int32} {l : List Nat} {x : Nat} (h : tw_R f l) (h1 : g l.length = nI x) (h2 : ∀ i : Nat, ¬ i = l.length → g i = f i) : tw_R g (l ++ [x]) := by
  intro i hi
  rw [List.length_append, List.length_singleton] at hi
  by_cases e : i = l.length
  · rw [e, h1, List.getD_eq_getElem?_getD, List.getElem?_append_right (Nat.le_refl _), Nat.sub_self]
    rfl
  · rw [h2 i e, h i (by omega), List.getD_eq_getElem?_getD, List.getD_eq_getElem?_getD, List.getElem?_append_left (by omega)]
set_option maxRecDepth 100000 in
set_option maxHeartbeats 4000000 in
theorem tw_add {d n x : Nat} {l : List Nat} {σ s : tm_S} (F : tw_F n σ s) (hH : tw_H s l) (hl : l.length < 6561) : WM d 81 [.ref 5, .int (nI x)] s (fun q t => q = none ∧ tw_F n σ t ∧ tw_H t (l ++ [x])) := by
  have eL : (nI (l.length + 1)).toInt = (l.length + 1 : Nat) := nI_toInt (by omega)
  show WP d 81 0 [(0, .ref 5), (1, .int (nI x))] [] s _
  refine wp_lda rfl tm_m0 ?_
  refine wq_geti rfl rfl (f := 1) rfl rfl (Or.inl rfl) ?_
  rw [hH.1]
  refine wp_lda rfl tm_m0 ?_
  refine wq_getr (p := 28) rfl rfl (f := 0) rfl rfl ?_
  refine wq_len (x := 6561) rfl rfl (by decide) ?_
  refine wq_icge rfl (fun h9 => absurd h9 (nI_ge (a := l.length) (b := 6561) (by omega) (by decide))) (fun h9 => ?_)
  refine wp_lda rfl tm_m0 ?_
  refine wq_getr (p := 28) rfl rfl (f := 0) rfl rfl ?_
  refine wp_lda rfl tm_m0 ?_
  refine wq_geti rfl rfl (f := 1) rfl rfl (Or.inl rfl) ?_
  rw [hH.1]
  refine wp_ldi rfl tm_m1 ?_
  refine wp_iast rfl rfl (nI_in (by omega) (by decide)) ?_
  refine wp_lda rfl tm_m0 ?_
  refine wp_dup rfl rfl ?_
  refine wq_geti rfl rfl (f := 1) rfl rfl (Or.inl rfl) ?_
  rw [tm_gI, if_neg (fun z => absurd z.1 (by decide)), hH.1]
  refine wq_con (x := 1) rfl (by decide) ?_
  refine wq_iadd rfl ?_
  rw [nI_1]
  refine wq_puti rfl rfl (f := 1) rfl rfl ?_
  rw [nI_clamp (n := l.length) (by omega)]
  refine wp_retv rfl ⟨rfl, ⟨tv_TY_sI (tv_TY_row F.1 (ty := ((-2147483648), 2147483647)) (fun _ => rfl) (tn_rng _).1 (tn_rng _).2) (by rw [eL]; show (0 : Int) ≤ _; omega) (by rw [eL]; show _ ≤ (6561 : Int); omega), tv_un_tr (tv_un_tr F.2 (tv_un_ar rfl rfl)) (tv_un_fI rfl)⟩, by rw [tm_gI, if_pos ⟨rfl, rfl⟩, List.length_append, List.length_singleton], tw_Ra hH.2 ?_ (fun i hi => ?_)⟩
  · rw [tm_gI, if_neg (fun z => absurd z.1 (by decide)), tm_gI, if_pos ⟨rfl, rfl⟩]
  · rw [tm_gI, if_neg (fun z => absurd z.1 (by decide)), tm_gI, if_neg (fun z => hi z.2)]
theorem tw_cb {v i : Nat} (hv : v < 2 ^ 32) (hi : i < 32) : (2 ^ 32 - 1 - v).testBit i = !(v.testBit i) := by
  have h := Nat.testBit_two_pow_sub_succ (n := 32) hv i
  rw [show 2 ^ 32 - 1 - v = 2 ^ 32 - (v + 1) by omega, h]
  simp [hi]
theorem tw_cm {v : Nat} (hv : v < 2 ^ 32) : v ^^^ (2 ^ 32 - 1) = 2 ^ 32 - 1 - v := by
  apply Nat.eq_of_testBit_eq
  intro i
  rw [Nat.testBit_xor, Nat.testBit_two_pow_sub_one]
  by_cases hi : i < 32
  · rw [tw_cb hv hi]
    simp [hi]
  · rw [Nat.testBit_lt_two_pow (Nat.lt_of_lt_of_le hv (Nat.pow_le_pow_right (by decide) (by omega))), Nat.testBit_lt_two_pow (show 2 ^ 32 - 1 - v < 2 ^ i from Nat.lt_of_lt_of_le (show 2 ^ 32 - 1 - v < 2 ^ 32 by omega) (Nat.pow_le_pow_right (by decide) (by omega)))]
    simp [hi]
set_option maxRecDepth 100000 in
set_option maxHeartbeats 4000000 in
theorem tw_cov {n c S : Nat} {σ : tm_S} (hc2 : 2 ≤ c) (hc : c ≤ 24) (hS0 : 0 < S) (hS : S < 2 ^ c) (eB : σ.1 5 3 = nI c) (eS : σ.1 5 4 = nI S) : ∀ (w cv ch : Nat) (l M : List Nat) (s : tm_S), w ≤ 24 → cv < 2 ^ c → ch < 2 ^ 24 → tw_F n σ s → tw_H s l → l ++ tw_T c S w cv ch = M → M.length ≤ 6561 → WM (w + 3) 80 [.ref 5, .int (nI cv), .int (nI ch), .int (nI (24 - w))] s (fun q t => q = none ∧ tw_F n σ t ∧ tw_H t M) := by
  have hp : 2 ^ c ≤ 2 ^ 24 := Nat.pow_le_pow_right (by decide) hc
  have hB : ∀ t : tm_S, tw_F n σ t → t.1 5 3 = nI c := fun t F => by rw [tv_un_i F.2 (k := 5) (j := 3) rfl rfl]; exact eB
  have hQ : ∀ t : tm_S, tw_F n σ t → t.1 5 4 = nI S := fun t F => by rw [tv_un_i F.2 (k := 5) (j := 4) rfl rfl]; exact eS
  intro w
  induction w with
  | zero =>
    intro cv ch l M s hw hcv hch F hH hM hb
    have e3 := hB s F
    have hM2 : l ++ (if cv = 2 ^ c - 1 then [ch] else []) = M := hM
    show WP 3 80 0 [(0, .ref 5), (1, .int (nI cv)), (2, .int (nI ch)), (3, .int (nI (24 - 0)))] [] s _
    refine wp_ldi rfl tm_m1 ?_
    refine wq_con (x := 1) rfl (by decide) ?_
    refine wp_lda rfl tm_m0 ?_
    refine wq_geti rfl rfl (f := 3) rfl rfl (Or.inl rfl) ?_
    rw [e3]
    refine wq_ishl rfl ?_
    refine wq_con (x := 1) rfl (by decide) ?_
    refine wq_isub rfl ?_
    rw [th_m24 c hc]
    refine wq_icne rfl (fun h9 => ?_) (fun h9 => ?_)
    · have hf : ¬ cv = 2 ^ c - 1 := fun e => h9 (by rw [e])
      rw [if_neg hf] at hM2
      refine wp_ldi rfl tm_m3 ?_
      refine wq_con (x := 24) rfl (by decide) ?_
      refine wq_iclt rfl (fun h21 => absurd h21 (by decide)) (fun h21 => ?_)
      rw [List.append_nil] at hM2
      exact wp_retv rfl ⟨rfl, F, by rw [← hM2]; exact hH⟩
    · have hf : cv = 2 ^ c - 1 := (nI_eq (by omega) (by omega)).mp (Classical.not_not.mp h9)
      rw [if_pos hf] at hM2
      refine wp_lda rfl tm_m0 ?_
      refine wp_ldi rfl tm_m2 ?_
      refine wq_calv [.int (nI ch)] rfl rfl rfl rfl rfl rfl rfl rfl rfl (tw_add F hH (by rw [← hM2, List.length_append] at hb; change _ + 1 ≤ _ at hb; omega)) ?_
      rintro _ t ⟨rfl, Ft, Ht⟩
      exact wp_retv rfl ⟨rfl, Ft, by rw [← hM2]; exact Ht⟩
  | succ w ih =>
    intro cv ch l M s hw hcv hch F hH hM hb
    have e3 := hB s F
    have e4 := hQ s F
    have hM2 : l ++ (if cv = 2 ^ c - 1 then [ch] else tw_G c S cv ch (tw_op c cv) (tw_T c S w) S c) = M := hM
    have k48 : ¬ cv = 2 ^ c - 1 → ∀ (k rest : Nat) (l : List Nat) (t : tm_S), th_po rest 24 = k → rest < 2 ^ c → tw_F n σ t → tw_H t l → l ++ tw_G c S cv ch (tw_op c cv) (tw_T c S w) rest c = M → WP (w + 1 + 3) 80 48 [(6, .int (nI (th_po rest 24))), (5, .int (nI rest)), (4, .int (nI (tw_op c cv))), (0, .ref 5), (1, .int (nI cv)), (2, .int (nI ch)), (3, .int (nI (24 - (w + 1))))] [] t (fun q t => q = none ∧ tw_F n σ t ∧ tw_H t M) := by
      intro hf k
      obtain ⟨ho, -, -⟩ := tw_opk hcv hf
      induction k with
      | zero =>
        intro rest l t hk hr Ft Ht hM
        have r0 : rest = 0 := by
          rcases Nat.eq_zero_or_pos rest with e | e
          · exact e
          · have := th_po1 (show rest < 2 ^ 24 by omega) e
            omega
        rw [r0, tw_G0, List.append_nil] at hM
        refine wp_ldi rfl tm_m0 ?_
        refine wq_ifle rfl (fun h50 => ?_) (fun h50 => absurd (by rw [hk]; decide) h50)
        exact wp_retv rfl ⟨rfl, Ft, by rw [← hM]; exact Ht⟩
      | succ k ihk =>
        intro rest l t hk hr Ft Ht hM
        have p24 : th_po rest 24 ≤ 24 := th_sm_le
        have r0 : 0 < rest := by
          rcases Nat.eq_zero_or_pos rest with e | e
          · rw [e, show th_po 0 24 = 0 by decide] at hk
            omega
          · exact e
        have f3 := hB t Ft
        have f4 := hQ t Ft
        obtain ⟨y1, y2, y3⟩ := tw_lok hr r0
        have hdec := th_po_dec (m := 24) (x := rest) (by omega) r0
        have el := tw_el (c := c) (b := tw_op c cv) (m := tw_lo c rest) ho
        have eg := tw_eg (b := tw_op c cv) ho y1
        have lR : th_R c S (tw_e c (tw_op c cv) (tw_lo c rest)) < 2 ^ c := th_R_lt hS
        rw [tw_Gl y1 y2 y3 c (Nat.le_refl _) (by omega), ← tw_rx y2 y3, ← List.append_assoc] at hM
        have la : th_R c S (tw_e c (tw_op c cv) (tw_lo c rest)) &&& cv ≤ cv := Nat.and_le_right
        have lr : rest &&& (rest - 1) ≤ rest := Nat.and_le_left
        refine wp_ldi rfl tm_m0 ?_
        refine wq_ifle rfl (fun h50 => absurd h50 (nI_nle (by omega) (by omega))) (fun h50 => ?_)
        refine wp_ldi rfl tm_m1 ?_
        refine wq_cals [.int (nI rest)] rfl rfl rfl rfl rfl rfl (tw_lm (X := rest) (th_nn (by omega)) y2 y3 (by omega)) ?_
        rintro _ _ ⟨rfl, rfl⟩
        refine wp_ldi rfl tm_m2 ?_
        refine wp_lda rfl tm_m3 ?_
        refine wq_geti rfl rfl (f := 3) rfl rfl (Or.inl rfl) ?_
        rw [f3]
        refine wq_cals [.int (nI (tw_lo c rest)), .int (nI (tw_op c cv)), .int (nI c)] rfl rfl rfl rfl rfl rfl (tu_gap (by omega) y1 ho) ?_
        rintro _ _ ⟨rfl, rfl⟩
        rw [eg]
        refine wq_sti [(7, .int (nI (tw_e c (tw_op c cv) (tw_lo c rest)))), (6, .int (nI (th_po rest 24))), (5, .int (nI rest)), (4, .int (nI (tw_op c cv))), (0, .ref 5), (1, .int (nI cv)), (2, .int (nI ch)), (3, .int (nI (24 - (w + 1))))] rfl rfl ?_
        refine wp_ldi rfl tm_m2 ?_
        refine wq_cals [.int (nI rest)] rfl rfl rfl rfl rfl rfl (tw_wl (by omega) r0) ?_
        rintro _ _ ⟨rfl, rfl⟩
        refine wq_sti [(5, .int (nI (rest &&& (rest - 1)))), (7, .int (nI (tw_e c (tw_op c cv) (tw_lo c rest)))), (6, .int (nI (th_po rest 24))), (4, .int (nI (tw_op c cv))), (0, .ref 5), (1, .int (nI cv)), (2, .int (nI ch)), (3, .int (nI (24 - (w + 1))))] rfl rfl ?_
        refine wp_lda rfl tm_m4 ?_
        refine wq_geti rfl rfl (f := 4) rfl rfl (Or.inl rfl) ?_
        rw [f4]
        refine wp_ldi rfl tm_m1 ?_
        refine wp_lda rfl tm_m4 ?_
        refine wq_geti rfl rfl (f := 3) rfl rfl (Or.inl rfl) ?_
        rw [f3]
        refine wq_cals [.int (nI S), .int (nI (tw_e c (tw_op c cv) (tw_lo c rest))), .int (nI c)] rfl rfl rfl rfl rfl rfl (th_trnd (by omega) hS el) ?_
        rintro _ _ ⟨rfl, rfl⟩
        refine wq_sti [(8, .int (nI (th_R c S (tw_e c (tw_op c cv) (tw_lo c rest))))), (5, .int (nI (rest &&& (rest - 1)))), (7, .int (nI (tw_e c (tw_op c cv) (tw_lo c rest)))), (6, .int (nI (th_po rest 24))), (4, .int (nI (tw_op c cv))), (0, .ref 5), (1, .int (nI cv)), (2, .int (nI ch)), (3, .int (nI (24 - (w + 1))))] rfl rfl ?_
        refine wp_ldi rfl tm_m0 ?_
        refine wp_ldi rfl tm_m6 ?_
        refine wq_iand rfl ?_
        rw [th_and24 (by omega) (by omega)]
        refine wq_ifne rfl (fun h95 => ?_) (fun h95 => ?_)
        · refine wq_inc (c := (-1)) [(6, .int ((nI (th_po rest 24)) + (-1))), (8, .int (nI (th_R c S (tw_e c (tw_op c cv) (tw_lo c rest))))), (5, .int (nI (rest &&& (rest - 1)))), (7, .int (nI (tw_e c (tw_op c cv) (tw_lo c rest)))), (4, .int (nI (tw_op c cv))), (0, .ref 5), (1, .int (nI cv)), (2, .int (nI ch)), (3, .int (nI (24 - (w + 1))))] rfl tm_m3 rfl rfl ?_
          refine wp_go rfl ?_
          have e9 : nI (th_po rest 24) + (-1) = nI (th_po (rest &&& (rest - 1)) 24) := by
            rw [show nI (th_po rest 24) + (-1) = nI (th_po rest 24) - 1 from (Int32.sub_eq_add_neg _ _).symm, ← hdec]
            exact nI_pred _
          rw [e9]
          have hq : tw_p c S cv ch (tw_op c cv) (tw_T c S w) (tw_lo c rest) = [] := by unfold tw_p; rw [if_neg (fun e => h95 (by rw [e]; rfl))]
          rw [hq, List.append_nil] at hM
          exact WP.less (ihk (rest &&& (rest - 1)) l t (by omega) (by omega) Ft Ht hM) (by simp)
        · have hd : th_R c S (tw_e c (tw_op c cv) (tw_lo c rest)) &&& cv = 0 := (nI_eq (a := th_R c S (tw_e c (tw_op c cv) (tw_lo c rest)) &&& cv) (b := 0) (by omega) (by decide)).mp (Classical.not_not.mp h95)
          have hq : tw_p c S cv ch (tw_op c cv) (tw_T c S w) (tw_lo c rest) = tw_T c S w (cv ||| th_R c S (tw_e c (tw_op c cv) (tw_lo c rest))) (ch ||| 2 ^ (tw_e c (tw_op c cv) (tw_lo c rest))) := by unfold tw_p; rw [if_pos hd]
          have hlen : (l ++ tw_T c S w (cv ||| th_R c S (tw_e c (tw_op c cv) (tw_lo c rest))) (ch ||| 2 ^ (tw_e c (tw_op c cv) (tw_lo c rest)))).length ≤ 6561 := by
            rw [← hM, hq, List.length_append] at hb
            omega
          have hse : ch ||| 2 ^ (tw_e c (tw_op c cv) (tw_lo c rest)) < 2 ^ 24 := Nat.or_lt_two_pow hch (Nat.pow_lt_pow_right (by decide) (by omega))
          have hall : cv ||| th_R c S (tw_e c (tw_op c cv) (tw_lo c rest)) < 2 ^ c := Nat.or_lt_two_pow hcv lR
          refine wp_lda rfl tm_m5 ?_
          refine wp_ldi rfl tm_m6 ?_
          refine wp_ldi rfl tm_m0 ?_
          refine wq_ior rfl ?_
          rw [th_or24 (by omega) (by omega)]
          refine wp_ldi rfl tm_m7 ?_
          refine wq_con (x := 1) rfl (by decide) ?_
          refine wp_ldi rfl tm_m2 ?_
          refine wq_ishl rfl ?_
          rw [th_p24 _ (by omega)]
          refine wq_ior rfl ?_
          rw [th_or24 hch (Nat.pow_lt_pow_right (by decide) (by omega))]
          refine wp_ldi rfl tm_m8 ?_
          refine wq_con (x := 1) rfl (by decide) ?_
          refine wq_iadd rfl ?_
          rw [nI_1, show 24 - (w + 1) + 1 = 24 - w by omega]
          refine wq_calv [.int (nI (cv ||| th_R c S (tw_e c (tw_op c cv) (tw_lo c rest)))), .int (nI (ch ||| 2 ^ (tw_e c (tw_op c cv) (tw_lo c rest)))), .int (nI (24 - w))] rfl rfl rfl rfl rfl rfl rfl rfl rfl (ih (cv ||| th_R c S (tw_e c (tw_op c cv) (tw_lo c rest))) (ch ||| 2 ^ (tw_e c (tw_op c cv) (tw_lo c rest))) l _ t (by omega) hall hse Ft Ht rfl hlen) ?_
          rintro _ t2 ⟨rfl, F2, H2⟩
          refine wq_inc (c := (-1)) [(6, .int ((nI (th_po rest 24)) + (-1))), (8, .int (nI (th_R c S (tw_e c (tw_op c cv) (tw_lo c rest))))), (5, .int (nI (rest &&& (rest - 1)))), (7, .int (nI (tw_e c (tw_op c cv) (tw_lo c rest)))), (4, .int (nI (tw_op c cv))), (0, .ref 5), (1, .int (nI cv)), (2, .int (nI ch)), (3, .int (nI (24 - (w + 1))))] rfl tm_m3 rfl rfl ?_
          refine wp_go rfl ?_
          have e9 : nI (th_po rest 24) + (-1) = nI (th_po (rest &&& (rest - 1)) 24) := by
            rw [show nI (th_po rest 24) + (-1) = nI (th_po rest 24) - 1 from (Int32.sub_eq_add_neg _ _).symm, ← hdec]
            exact nI_pred _
          rw [e9]
          exact WP.less (ihk (rest &&& (rest - 1)) (l ++ tw_T c S w (cv ||| th_R c S (tw_e c (tw_op c cv) (tw_lo c rest))) (ch ||| 2 ^ (tw_e c (tw_op c cv) (tw_lo c rest)))) t2 (by omega) (by omega) F2 H2 (by rw [hq] at hM; exact hM)) (by simp)
    show WP (w + 1 + 3) 80 0 [(0, .ref 5), (1, .int (nI cv)), (2, .int (nI ch)), (3, .int (nI (24 - (w + 1))))] [] s _
    refine wp_ldi rfl tm_m1 ?_
    refine wq_con (x := 1) rfl (by decide) ?_
    refine wp_lda rfl tm_m0 ?_
    refine wq_geti rfl rfl (f := 3) rfl rfl (Or.inl rfl) ?_
    rw [e3]
    refine wq_ishl rfl ?_
    refine wq_con (x := 1) rfl (by decide) ?_
    refine wq_isub rfl ?_
    rw [th_m24 c hc]
    refine wq_icne rfl (fun h9 => ?_) (fun h9 => ?_)
    · have hf : ¬ cv = 2 ^ c - 1 := fun e => h9 (by rw [e])
      rw [if_neg hf] at hM2
      refine wp_ldi rfl tm_m3 ?_
      refine wq_con (x := 24) rfl (by decide) ?_
      refine wq_iclt rfl (fun h21 => ?_) (fun h21 => absurd (nI_lt (a := 24 - (w + 1)) (b := 24) (by omega) (by decide)) h21)
      obtain ⟨ho, o2, o3⟩ := tw_opk hcv hf
      have hnot : (nI cv ^^^ (-1)).toBitVec.toNat = 2 ^ 32 - 1 - cv := by
        rw [tn_xor, th_nn (by omega), show (-1 : Int32).toBitVec.toNat = 2 ^ 32 - 1 from rfl]
        exact tw_cm (by omega)
      have hbit : ∀ i : Nat, i < 24 → (2 ^ 32 - 1 - cv).testBit i = !(cv.testBit i) := fun i hi => tw_cb (by omega) (by omega)
      refine wp_ldi rfl tm_m1 ?_
      refine wq_con (x := (-1)) rfl (by decide) ?_
      refine wq_ixor rfl ?_
      refine wq_cals [.int ((nI cv) ^^^ (-1))] rfl rfl rfl rfl rfl rfl (tw_lm (L := tw_op c cv) hnot (by rw [hbit (tw_op c cv) (by omega), o2]; rfl) (fun i hi => by rw [hbit i (by omega), o3 i hi]; rfl) (by omega)) ?_
      rintro _ _ ⟨rfl, rfl⟩
      refine wq_sti [(4, .int (nI (tw_op c cv))), (0, .ref 5), (1, .int (nI cv)), (2, .int (nI ch)), (3, .int (nI (24 - (w + 1))))] rfl rfl ?_
      refine wp_lda rfl tm_m1 ?_
      refine wq_geti rfl rfl (f := 4) rfl rfl (Or.inl rfl) ?_
      rw [e4]
      refine wq_sti [(5, .int (nI S)), (4, .int (nI (tw_op c cv))), (0, .ref 5), (1, .int (nI cv)), (2, .int (nI ch)), (3, .int (nI (24 - (w + 1))))] rfl rfl ?_
      refine wp_lda rfl tm_m2 ?_
      refine wq_geti rfl rfl (f := 4) rfl rfl (Or.inl rfl) ?_
      rw [e4]
      refine wq_cals [.int (nI S)] rfl rfl rfl rfl rfl rfl (th_bitCount (nI S) (Q := th_is (.int (nI (th_po S 24))) s) ⟨by rw [tw_bc (by omega)], rfl⟩) ?_
      rintro _ _ ⟨rfl, rfl⟩
      refine wq_sti [(6, .int (nI (th_po S 24))), (5, .int (nI S)), (4, .int (nI (tw_op c cv))), (0, .ref 5), (1, .int (nI cv)), (2, .int (nI ch)), (3, .int (nI (24 - (w + 1))))] rfl rfl ?_
      exact WP.less (k48 hf _ S l s rfl hS F hH hM2) (by simp)
    · have hf : cv = 2 ^ c - 1 := (nI_eq (by omega) (by omega)).mp (Classical.not_not.mp h9)
      rw [if_pos hf] at hM2
      refine wp_lda rfl tm_m0 ?_
      refine wp_ldi rfl tm_m2 ?_
      refine wq_calv [.int (nI ch)] rfl rfl rfl rfl rfl rfl rfl rfl rfl (tw_add F hH (by rw [← hM2, List.length_append] at hb; change _ + 1 ≤ _ at hb; omega)) ?_
      rintro _ t ⟨rfl, Ft, Ht⟩
      exact wp_retv rfl ⟨rfl, Ft, by rw [← hM2]; exact Ht⟩
/-- what the class keeps of the round asked for last -/
def tw_RC (s : tm_S) : Prop := ∀ c S : Nat, s.1 5 3 = nI c → s.1 5 4 = nI S → 2 ≤ c → c ≤ 24 → 0 < S → S < 2 ^ c → ∃ l : List Nat, l.Perm (tw_A c S) ∧ tw_H s l ∧ (¬ s.1 5 2 = 0 → l.Pairwise (· ≤ ·))
def tw_W4 : List (Nat × Nat) := [(5, 1), (5, 2), (5, 3), (5, 4), (28, 64)]
theorem tw_RCu {σ s : tm_S} (h : tw_RC σ) (e1 : s.1 5 1 = σ.1 5 1) (e2 : s.1 5 2 = σ.1 5 2) (e3 : s.1 5 3 = σ.1 5 3) (e4 : s.1 5 4 = σ.1 5 4) (e5 : s.1 28 = σ.1 28) : tw_RC s := by
  intro c S a1 a2 a3 a4 a5 a6
  rw [e3] at a1
  rw [e4] at a2
  obtain ⟨l, l1, l2, l3⟩ := h c S a1 a2 a3 a4 a5 a6
  exact ⟨l, l1, ⟨by rw [e1]; exact l2.1, by rw [e5]; exact l2.2⟩, by rw [e2]; exact l3⟩
set_option maxRecDepth 100000 in
set_option maxHeartbeats 4000000 in
theorem tw_count {n c S : Nat} {σ : tm_S} (hc2 : 2 ≤ c) (hc : c ≤ 24) (hS0 : 0 < S) (hS : S < 2 ^ c) (hT : tv_TY (tc_T (n : Int)) σ) (hR : tw_RC σ) : WM 28 79 [.ref 5, .int (nI c), .int (nI S)] σ (fun q t => ∃ l : List Nat, q = some (.int (nI (tw_A c S).length)) ∧ (tv_TY (tc_T (n : Int)) t ∧ tv_un σ t [(5, 1), (5, 2), (5, 3), (5, 4), (28, 64)]) ∧ tw_RC t ∧ t.1 5 3 = nI c ∧ t.1 5 4 = nI S ∧ l.Perm (tw_A c S) ∧ tw_H t l ∧ (¬ t.1 5 2 = 0 → l.Pairwise (· ≤ ·))) := by
  have hp : 2 ^ c ≤ 2 ^ 24 := Nat.pow_le_pow_right (by decide) hc
  have k1 : 1 ≤ th_po S c := th_po1 hS hS0
  have hal := tw_Al hc hS k1
  have ec : (nI c).toInt = c := nI_toInt (by omega)
  have es : (nI S).toInt = S := nI_toInt (by omega)
  have k43 : ∀ (t : tm_S) (l : List Nat), (tv_TY (tc_T (n : Int)) t ∧ tv_un σ t [(5, 1), (5, 2), (5, 3), (5, 4), (28, 64)]) → t.1 5 3 = nI c → t.1 5 4 = nI S → l.Perm (tw_A c S) → tw_H t l → (¬ t.1 5 2 = 0 → l.Pairwise (· ≤ ·)) → WP 28 79 43 [(0, .ref 5), (1, .int (nI c)), (2, .int (nI S))] [] t (fun q t => ∃ l : List Nat, q = some (.int (nI (tw_A c S).length)) ∧ (tv_TY (tc_T (n : Int)) t ∧ tv_un σ t [(5, 1), (5, 2), (5, 3), (5, 4), (28, 64)]) ∧ tw_RC t ∧ t.1 5 3 = nI c ∧ t.1 5 4 = nI S ∧ l.Perm (tw_A c S) ∧ tw_H t l ∧ (¬ t.1 5 2 = 0 → l.Pairwise (· ≤ ·))) := by
    intro t l Ft e3 e4 l1 l2 l3
    have hRC : tw_RC t := fun c9 S9 a1 a2 a3 a4 a5 a6 => by
      obtain rfl : c9 = c := (nI_eq (by omega) (by omega)).mp (a1.symm.trans e3)
      have hp9 : 2 ^ c9 ≤ 2 ^ 24 := Nat.pow_le_pow_right (by decide) a4
      obtain rfl : S9 = S := (nI_eq (by omega) (by omega)).mp (a2.symm.trans e4)
      exact ⟨l, l1, l2, l3⟩
    refine wp_lda rfl tm_m0 ?_
    refine wq_geti rfl rfl (f := 1) rfl rfl (Or.inl rfl) ?_
    rw [l2.1, l1.length_eq]
    exact wp_reti rfl (th_nI rfl) ⟨l, rfl, Ft, hRC, e3, e4, l1, l2, l3⟩
  have k16 : WP 28 79 16 [(0, .ref 5), (1, .int (nI c)), (2, .int (nI S))] [] σ (fun q t => ∃ l : List Nat, q = some (.int (nI (tw_A c S).length)) ∧ (tv_TY (tc_T (n : Int)) t ∧ tv_un σ t [(5, 1), (5, 2), (5, 3), (5, 4), (28, 64)]) ∧ tw_RC t ∧ t.1 5 3 = nI c ∧ t.1 5 4 = nI S ∧ l.Perm (tw_A c S) ∧ tw_H t l ∧ (¬ t.1 5 2 = 0 → l.Pairwise (· ≤ ·))) := by
    have F1 : tv_TY (tc_T (n : Int)) (tm_sI (tm_sI (tm_sI (tm_sI σ 5 3 (nI c)) 5 4 (nI S)) 5 1 0) 5 2 0) ∧ tv_un σ (tm_sI (tm_sI (tm_sI (tm_sI σ 5 3 (nI c)) 5 4 (nI S)) 5 1 0) 5 2 0) [(5, 1), (5, 2), (5, 3), (5, 4), (28, 64)] := ⟨tv_TY_sI (tv_TY_sI (tv_TY_sI (tv_TY_sI hT (by rw [ec]; show (0 : Int) ≤ _; omega) (by rw [ec]; show _ ≤ (24 : Int); omega)) (by rw [es]; show (0 : Int) ≤ _; omega) (by rw [es]; show _ ≤ (16777215 : Int); omega)) (by show (0 : Int) ≤ (0 : Int32).toInt; decide) (by show (0 : Int32).toInt ≤ (6561 : Int); decide)) (by show (0 : Int) ≤ (0 : Int32).toInt; decide) (by show (0 : Int32).toInt ≤ (1 : Int); decide), tv_un_tr (tv_un_tr (tv_un_tr (tv_un_fI rfl) (tv_un_fI rfl)) (tv_un_fI rfl)) (tv_un_fI rfl)⟩
    have x3 : (tm_sI (tm_sI (tm_sI (tm_sI σ 5 3 (nI c)) 5 4 (nI S)) 5 1 0) 5 2 0).1 5 3 = nI c := by rw [tm_gI, if_neg (fun z => absurd z.2 (by decide)), tm_gI, if_neg (fun z => absurd z.2 (by decide)), tm_gI, if_neg (fun z => absurd z.2 (by decide)), tm_gI, if_pos ⟨rfl, rfl⟩]
    have x4 : (tm_sI (tm_sI (tm_sI (tm_sI σ 5 3 (nI c)) 5 4 (nI S)) 5 1 0) 5 2 0).1 5 4 = nI S := by rw [tm_gI, if_neg (fun z => absurd z.2 (by decide)), tm_gI, if_neg (fun z => absurd z.2 (by decide)), tm_gI, if_pos ⟨rfl, rfl⟩]
    have x1 : tw_H (tm_sI (tm_sI (tm_sI (tm_sI σ 5 3 (nI c)) 5 4 (nI S)) 5 1 0) 5 2 0) [] := ⟨by rw [tm_gI, if_neg (fun z => absurd z.2 (by decide)), tm_gI, if_pos ⟨rfl, rfl⟩]; rfl, fun i hi => absurd hi (Nat.not_lt_zero _)⟩
    have x2 : (tm_sI (tm_sI (tm_sI (tm_sI σ 5 3 (nI c)) 5 4 (nI S)) 5 1 0) 5 2 0).1 5 2 = 0 := by rw [tm_gI, if_pos ⟨rfl, rfl⟩]
    refine wp_lda rfl tm_m0 ?_
    refine wp_ldi rfl tm_m1 ?_
    refine wq_puti rfl rfl (f := 3) rfl rfl ?_
    refine wp_lda rfl tm_m0 ?_
    refine wp_ldi rfl tm_m2 ?_
    refine wq_puti rfl rfl (f := 4) rfl rfl ?_
    refine wp_lda rfl tm_m0 ?_
    refine wq_con (x := 0) rfl (by decide) ?_
    refine wq_puti rfl rfl (f := 1) rfl rfl ?_
    refine wp_lda rfl tm_m0 ?_
    refine wq_con (x := 0) rfl (by decide) ?_
    refine wq_putz rfl rfl (f := 2) rfl rfl (Or.inl rfl) ?_
    generalize tm_sI (tm_sI (tm_sI (tm_sI σ 5 3 (nI c)) 5 4 (nI S)) 5 1 0) 5 2 0 = t at F1 x3 x4 x1 x2 ⊢
    refine wp_lda rfl tm_m0 ?_
    refine wq_con (x := nI 0) rfl (by decide) ?_
    refine wq_con (x := nI 0) rfl (by decide) ?_
    refine wq_con (x := nI (24 - 24)) rfl (by decide) ?_
    refine wq_calv [.int (nI 0), .int (nI 0), .int (nI (24 - 24))] rfl rfl rfl rfl rfl rfl rfl rfl rfl (tw_cov hc2 hc hS0 hS x3 x4 24 0 0 [] (tw_A c S) t (by decide) (Nat.two_pow_pos c) (by decide) ⟨F1.1, tv_un_rf⟩ x1 rfl hal) ?_
    rintro _ t2 ⟨rfl, F2, H2⟩
    exact WP.less (k43 t2 (tw_A c S) ⟨F2.1, tv_un_tr F1.2 (tv_un_mo F2.2 (by decide))⟩ (by rw [tv_un_i F2.2 (k := 5) (j := 3) rfl rfl]; exact x3) (by rw [tv_un_i F2.2 (k := 5) (j := 4) rfl rfl]; exact x4) (List.Perm.refl _) H2 (fun q => absurd (by rw [tv_un_z F2.2 (k := 5) (j := 2) rfl rfl]; exact x2) q)) (by simp)
  show WP 28 79 0 [(0, .ref 5), (1, .int (nI c)), (2, .int (nI S))] [] σ _
  refine wp_lda rfl tm_m0 ?_
  refine wq_geti rfl rfl (f := 3) rfl rfl (Or.inl rfl) ?_
  refine wp_ldi rfl tm_m1 ?_
  refine wq_icne rfl (fun h5 => ?_) (fun h5 => ?_)
  · exact k16
  · refine wp_lda rfl tm_m0 ?_
    refine wq_geti rfl rfl (f := 4) rfl rfl (Or.inl rfl) ?_
    refine wp_ldi rfl tm_m2 ?_
    refine wq_iceq rfl (fun h13 => ?_) (fun h13 => ?_)
    · have e3 : σ.1 5 3 = nI c := Classical.not_not.mp h5
      have e4 : σ.1 5 4 = nI S := h13
      obtain ⟨l, l1, l2, l3⟩ := hR c S e3 e4 hc2 hc hS0 hS
      exact k43 σ l ⟨hT, tv_un_rf⟩ e3 e4 l1 l2 l3
    · exact k16
