/-! ===== rounds: the reference ===== -/
def tw_FG (n : Nat) (σ s : tm_S) : Prop := tv_TY (tc_T (n : Int)) s ∧ tv_un σ s [(11, 17), (54, 64), (56, 64), (57, 64), (58, 64)]
/-- entries as they are kept: sorted -/
def tw_E (s : tm_S) (m : List Nat) : Prop := ∃ l : List Nat, l.Perm m ∧ l.Pairwise (· ≤ ·) ∧ s.1 11 17 = nI l.length ∧ tw_R (s.1 54) l
theorem tw_Eu {s t : tm_S} {m : List Nat} (h : tw_E s m) (e1 : t.1 11 17 = s.1 11 17) (e2 : t.1 54 = s.1 54) : tw_E t m := by
  obtain ⟨l, l1, l2, l3, l4⟩ := h
  exact ⟨l, l1, l2, by rw [e1]; exact l3, by rw [e2]; exact l4⟩
theorem tw_gd {l : List Nat} {i : Nat} (h : i < l.length) : l.getD i 0 = l[i] := by
  rw [List.getD_eq_getElem?_getD, List.getElem?_eq_getElem h]
  rfl
/-- one more, in its place -/
theorem tw_pt {l : List Nat} {x k : Nat} (hk : k ≤ l.length) (hl : l.Pairwise (· ≤ ·)) (h1 : ∀ i : Nat, i < k → l.getD i 0 ≤ x) (h2 : ∀ i : Nat, k ≤ i → i < l.length → x ≤ l.getD i 0) : (l.take k ++ x :: l.drop k).Perm (x :: l) ∧ (l.take k ++ x :: l.drop k).Pairwise (· ≤ ·) ∧ (l.take k ++ x :: l.drop k).length = l.length + 1 ∧ (∀ i : Nat, i < k → (l.take k ++ x :: l.drop k).getD i 0 = l.getD i 0) ∧ (l.take k ++ x :: l.drop k).getD k 0 = x ∧ ∀ i : Nat, k ≤ i → (l.take k ++ x :: l.drop k).getD (i + 1) 0 = l.getD i 0 := by
  have ht : (l.take k).length = k := by rw [List.length_take]; omega
  have hp := hl
  rw [← List.take_append_drop k l, List.pairwise_append] at hp
  refine ⟨?_, ?_, ?_, fun i hi => ?_, ?_, fun i hi => ?_⟩
  · have := List.perm_middle (a := x) (l₁ := l.take k) (l₂ := l.drop k)
    rw [List.take_append_drop] at this
    exact this
  · rw [List.pairwise_append, List.pairwise_cons]
    refine ⟨hp.1, ⟨fun a ha => ?_, hp.2.1⟩, fun a ha c hc => ?_⟩
    · obtain ⟨i, i1, rfl⟩ := List.mem_iff_getElem.mp ha
      rw [List.length_drop] at i1
      rw [List.getElem_drop, ← tw_gd]
      exact h2 _ (by omega) (by omega)
    · rcases List.mem_cons.mp hc with rfl | hc
      · obtain ⟨i, i1, rfl⟩ := List.mem_iff_getElem.mp ha
        rw [ht] at i1
        rw [List.getElem_take, ← tw_gd]
        exact h1 _ i1
      · exact hp.2.2 a ha c hc
  · rw [List.length_append, ht, List.length_cons, List.length_drop]
    omega
  · rw [List.getD_eq_getElem?_getD, List.getElem?_append_left (by omega), List.getElem?_take, if_pos hi, List.getD_eq_getElem?_getD]
  · rw [List.getD_eq_getElem?_getD, List.getElem?_append_right (by omega), ht, Nat.sub_self]
    rfl
  · rw [List.getD_eq_getElem?_getD, List.getElem?_append_right (by omega), ht, show i + 1 - k = (i - k) + 1 by omega, List.getElem?_cons_succ, List.getElem?_drop, show k + (i - k) = i by omega, List.getD_eq_getElem?_getD]
set_option maxRecDepth 100000 in
set_option maxHeartbeats 4000000 in
theorem tw_put {d n x : Nat} {m : List Nat} {σ s : tm_S} (F : tw_FG n σ s) (hx : x < 2 ^ 24) (hm : ∀ v ∈ m, v < 2 ^ 24) (hE : tw_E s m) (he : m.length < 8192) : WM d 206 [.ref 11, .int (nI x)] s (fun q t => q = none ∧ tw_FG n σ t ∧ tw_E t (m ++ [x]) ∧ th_L3 s t) := by
  obtain ⟨l, l1, l2, l3, l4⟩ := hE
  have hlen := l1.length_eq
  have eX : (nI x).toInt = x := nI_toInt (by omega)
  have hv : ∀ i : Nat, i < l.length → l.getD i 0 < 2 ^ 24 := fun i hi => by
    rw [tw_gd hi]
    exact hm _ (l1.mem_iff.mp (List.getElem_mem hi))
  have k42 : ∀ (k : Nat) (t : tm_S), k ≤ l.length → tw_FG n σ t → t.1 11 17 = nI l.length → (∀ i : Nat, i < k → t.1 54 i = nI (l.getD i 0)) → (∀ i : Nat, k ≤ i → i < l.length → t.1 54 (i + 1) = nI (l.getD i 0)) → (∀ i : Nat, k ≤ i → i < l.length → x ≤ l.getD i 0) → (∀ i : Nat, i < k → l.getD i 0 ≤ x) → th_L3 s t → WP d 206 42 [(2, .int (nI k)), (0, .ref 11), (1, .int (nI x))] [] t (fun q t => q = none ∧ tw_FG n σ t ∧ tw_E t (m ++ [x]) ∧ th_L3 s t) := by
    intro k t hk Ft e17 a1 a2 a3 a4 L3
    obtain ⟨p1, p2, p3, p4, p5, p6⟩ := tw_pt hk l2 a4 a3
    have e1 : (nI (l.length + 1)).toInt = (l.length + 1 : Nat) := nI_toInt (by omega)
    refine wp_lda rfl tm_m1 ?_
    refine wq_getr (p := 54) rfl rfl (f := 18) rfl rfl ?_
    refine wp_ldi rfl tm_m0 ?_
    refine wp_ldi rfl tm_m2 ?_
    refine wp_iast rfl rfl (nI_in (by omega) (by decide)) ?_
    refine wp_lda rfl tm_m1 ?_
    refine wp_lda rfl tm_m1 ?_
    refine wq_geti rfl rfl (f := 17) rfl rfl (Or.inl rfl) ?_
    rw [tm_gI, if_neg (fun e => absurd e.1 (by decide)), e17]
    refine wq_con (x := 1) rfl (by decide) ?_
    refine wq_iadd rfl ?_
    rw [nI_1]
    refine wq_puti rfl rfl (f := 17) rfl rfl ?_
    rw [nI_clamp (n := k) (by omega)]
    refine wp_retv rfl ⟨rfl, ⟨tv_TY_sI (tv_TY_row Ft.1 (ty := (0, 16777215)) (fun _ => rfl) (by rw [eX]; show (0 : Int) ≤ _; omega) (by rw [eX]; show _ ≤ (16777215 : Int); omega)) (by rw [e1]; show (0 : Int) ≤ _; omega) (by rw [e1]; show _ ≤ (8192 : Int); omega), tv_un_tr (tv_un_tr Ft.2 (tv_un_ar rfl rfl)) (tv_un_fI rfl)⟩, ⟨l.take k ++ x :: l.drop k, ?_, p2, by rw [tm_gI, if_pos ⟨rfl, rfl⟩, p3], fun i hi => ?_⟩, ((tm_sI_ar (by decide)).1.trans (tm_sI_ar (by decide)).1).trans L3.1, ((tm_sI_ar (by decide)).1.trans (tm_sI_ar (by decide)).1).trans L3.2.1, ((tm_sI_ar (by decide)).1.trans (tm_sI_ar (by decide)).1).trans L3.2.2⟩
    · exact p1.trans ((List.Perm.cons x l1).trans (List.perm_append_comm (l₁ := [x]) (l₂ := m)))
    · rw [p3] at hi
      rw [tm_gI, if_neg (fun e => absurd e.1 (by decide)), tm_gI]
      by_cases c : i = k
      · rw [if_pos ⟨rfl, c⟩, c, p5]
      · rw [if_neg (fun z => c z.2)]
        by_cases c2 : i < k
        · rw [a1 i c2, p4 i c2]
        · obtain ⟨i, rfl⟩ : ∃ q : Nat, i = q + 1 := ⟨i - 1, by omega⟩
          rw [a2 i (by omega) (by omega), p6 i (by omega)]
  have k5 : ∀ (k : Nat) (t : tm_S), k ≤ l.length → tw_FG n σ t → t.1 11 17 = nI l.length → (∀ i : Nat, i < k → t.1 54 i = nI (l.getD i 0)) → (∀ i : Nat, k ≤ i → i < l.length → t.1 54 (i + 1) = nI (l.getD i 0)) → (∀ i : Nat, k ≤ i → i < l.length → x ≤ l.getD i 0) → th_L3 s t → WP d 206 5 [(2, .int (nI k)), (0, .ref 11), (1, .int (nI x))] [] t (fun q t => q = none ∧ tw_FG n σ t ∧ tw_E t (m ++ [x]) ∧ th_L3 s t) := by
    intro k
    induction k with
    | zero =>
      intro t hk Ft e17 a1 a2 a3 L3
      refine wp_ldi rfl tm_m0 ?_
      refine wq_ifle rfl (fun h6 => ?_) (fun h6 => absurd (by decide) h6)
      exact k42 0 t hk Ft e17 a1 a2 a3 (fun i hi => absurd hi (by omega)) L3
    | succ k ih =>
      intro t hk Ft e17 a1 a2 a3 L3
      have v1 := hv k (by omega)
      have ek := a1 k (by omega)
      have ep : nI (k + 1) - 1 = nI k := nI_pred k
      refine wp_ldi rfl tm_m0 ?_
      refine wq_ifle rfl (fun h6 => absurd h6 (nI_nle (by omega) (by omega))) (fun h6 => ?_)
      refine wp_lda rfl tm_m1 ?_
      refine wq_getr (p := 54) rfl rfl (f := 18) rfl rfl ?_
      refine wp_ldi rfl tm_m0 ?_
      refine wq_con (x := 1) rfl (by decide) ?_
      refine wq_isub rfl ?_
      rw [ep]
      refine wp_iald rfl rfl (nI_in (by omega) (by decide)) ?_
      rw [nI_clamp (n := k) (by omega), ek]
      refine wp_ldi rfl tm_m2 ?_
      refine wq_icle rfl (fun h18 => ?_) (fun h18 => ?_)
      · refine k42 (k + 1) t hk Ft e17 a1 a2 a3 (fun i hi => ?_) L3
        have hx2 : l.getD k 0 ≤ x := Classical.byContradiction (fun q => absurd h18 (nI_ge (by omega) (by omega)))
        refine Nat.le_trans ?_ hx2
        by_cases c : i = k
        · rw [c]
          exact Nat.le_refl _
        · rw [tw_gd (show i < l.length by omega), tw_gd (show k < l.length by omega)]
          exact (List.pairwise_iff_getElem.mp l2) i k (by omega) (by omega) (by omega)
      · refine wp_lda rfl tm_m1 ?_
        refine wq_getr (p := 54) rfl rfl (f := 18) rfl rfl ?_
        refine wp_ldi rfl tm_m0 ?_
        refine wp_lda rfl tm_m1 ?_
        refine wq_getr (p := 54) rfl rfl (f := 18) rfl rfl ?_
        refine wp_ldi rfl tm_m0 ?_
        refine wq_con (x := 1) rfl (by decide) ?_
        refine wq_isub rfl ?_
        rw [ep]
        refine wp_iald rfl rfl (nI_in (by omega) (by decide)) ?_
        rw [nI_clamp (n := k) (by omega), ek]
        refine wp_iast rfl rfl (nI_in (by omega) (by decide)) ?_
        refine wp_ldi rfl tm_m0 ?_
        refine wq_con (x := 1) rfl (by decide) ?_
        refine wq_isub rfl ?_
        rw [ep]
        refine wq_sti [(2, .int (nI k)), (0, .ref 11), (1, .int (nI x))] rfl rfl ?_
        refine wp_go rfl ?_
        have hx2 : x < l.getD k 0 := Classical.byContradiction (fun q => h18 (nI_le (by omega) (by omega)))
        rw [nI_clamp (n := k + 1) (by omega)]
        have ev : (nI (l.getD k 0)).toInt = (l.getD k 0 : Nat) := nI_toInt (by omega)
        refine WP.less (ih _ (by omega) ⟨tv_TY_row Ft.1 (ty := (0, 16777215)) (fun _ => rfl) (by rw [ev]; show (0 : Int) ≤ _; omega) (by rw [ev]; show _ ≤ (16777215 : Int); omega), tv_un_tr Ft.2 (tv_un_ar rfl rfl)⟩ (by rw [tm_gI, if_neg (fun e => absurd e.1 (by decide))]; exact e17) (fun i hi => ?_) (fun i hi1 hi2 => ?_) (fun i hi1 hi2 => ?_) ⟨(tm_sI_ar (by decide)).1.trans L3.1, (tm_sI_ar (by decide)).1.trans L3.2.1, (tm_sI_ar (by decide)).1.trans L3.2.2⟩) (by simp)
        · rw [tm_gI, if_neg (fun z => absurd z.2 (by omega))]
          exact a1 i (by omega)
        · rw [tm_gI]
          by_cases c : i = k
          · rw [if_pos ⟨rfl, by omega⟩, c]
          · rw [if_neg (fun z => c (by omega))]
            exact a2 i (by omega) hi2
        · by_cases c : i = k
          · rw [c]
            exact Nat.le_of_lt hx2
          · exact a3 i (by omega) hi2
  show WP d 206 0 [(0, .ref 11), (1, .int (nI x))] [] s _
  refine wp_lda rfl tm_m0 ?_
  refine wq_geti rfl rfl (f := 17) rfl rfl (Or.inl rfl) ?_
  rw [l3]
  refine wq_sti [(2, .int (nI l.length)), (0, .ref 11), (1, .int (nI x))] rfl rfl ?_
  exact WP.less (k5 l.length s (Nat.le_refl _) F l3 l4 (fun i h1 h2 => absurd h2 (by omega)) (fun i h1 h2 => absurd h2 (by omega)) ⟨rfl, rfl, rfl⟩) (by simp)
set_option maxRecDepth 100000 in
set_option maxHeartbeats 4000000 in
theorem tw_e66 {c mo L cv m : Nat} {s : tm_S} {Q : Option Value → tm_S → Prop} (hc : c ≤ 24) (hL : L < 25) (hcv : cv < 2 ^ c) (hf : ¬ cv = 2 ^ c - 1) (e57 : s.1 57 L = nI cv) (e56 : s.1 56 L = nI m) (K : WP 40 203 105 [(5, .int (nI m)), (4, .int (nI (tw_op c cv))), (3, .int (nI L)), (0, .ref 11), (1, .int (nI c)), (2, .int (nI mo))] [] s Q) : WP 40 203 66 [(3, .int (nI L)), (0, .ref 11), (1, .int (nI c)), (2, .int (nI mo))] [] s Q := by
  have hp : 2 ^ c ≤ 2 ^ 24 := Nat.pow_le_pow_right (by decide) hc
  have cL : (nI L).toNatClampNeg = L := nI_clamp (by omega)
  obtain ⟨b1, b2, b3⟩ := tw_opk hcv hf
  have k73 : ∀ (r q : Nat), q + r = tw_op c cv → WP 40 203 73 [(4, .int (nI q)), (3, .int (nI L)), (0, .ref 11), (1, .int (nI c)), (2, .int (nI mo))] [] s Q := by
    intro r
    induction r with
    | zero =>
      intro q hq
      obtain rfl : q = tw_op c cv := by omega
      refine wp_lda rfl tm_m2 ?_
      refine wp_lda rfl tm_m2 ?_
      refine wq_getr (p := 57) rfl rfl (f := 21) rfl rfl ?_
      refine wp_ldi rfl tm_m1 ?_
      refine wp_iald rfl rfl (nI_in hL (by decide)) ?_
      rw [cL, e57]
      refine wp_ldi rfl tm_m0 ?_
      refine wq_calv [.int (nI cv), .int (nI (tw_op c cv))] rfl rfl rfl rfl rfl rfl rfl rfl rfl (th_has) ?_
      rintro _ _ ⟨rfl, rfl⟩
      refine wq_ifeq rfl (fun h85 => ?_) (fun h85 => absurd (by rw [th_hs24 (by omega) (by omega), b2]; rfl) h85)
      refine wp_lda rfl tm_m2 ?_
      refine wq_getr (p := 56) rfl rfl (f := 20) rfl rfl ?_
      refine wp_ldi rfl tm_m1 ?_
      refine wp_iald rfl rfl (nI_in hL (by decide)) ?_
      rw [cL, e56]
      refine wq_sti [(5, .int (nI m)), (4, .int (nI (tw_op c cv))), (3, .int (nI L)), (0, .ref 11), (1, .int (nI c)), (2, .int (nI mo))] rfl rfl ?_
      exact WP.less K (by simp)
    | succ r ih =>
      intro q hq
      refine wp_lda rfl tm_m2 ?_
      refine wp_lda rfl tm_m2 ?_
      refine wq_getr (p := 57) rfl rfl (f := 21) rfl rfl ?_
      refine wp_ldi rfl tm_m1 ?_
      refine wp_iald rfl rfl (nI_in hL (by decide)) ?_
      rw [cL, e57]
      refine wp_ldi rfl tm_m0 ?_
      refine wq_calv [.int (nI cv), .int (nI q)] rfl rfl rfl rfl rfl rfl rfl rfl rfl (th_has) ?_
      rintro _ _ ⟨rfl, rfl⟩
      refine wq_ifeq rfl (fun h85 => absurd h85 (by rw [th_hs24 (by omega) (by omega), b3 q (by omega)]; decide)) (fun h85 => ?_)
      refine wp_ldi rfl tm_m0 ?_
      refine wq_con (x := 1) rfl (by decide) ?_
      refine wq_iadd rfl ?_
      refine wq_sti [(4, .int ((nI q) + 1)), (3, .int (nI L)), (0, .ref 11), (1, .int (nI c)), (2, .int (nI mo))] rfl rfl ?_
      refine wp_go rfl ?_
      rw [nI_1]
      exact WP.less (ih (q + 1) (by omega)) (by simp)
  refine wp_ldi rfl tm_m0 ?_
  refine wq_iflt rfl (fun h67 => absurd h67 (nI_pos (by omega))) (fun h67 => ?_)
  refine wq_con (x := nI 0) rfl (by decide) ?_
  refine wq_sti [(4, .int (nI 0)), (3, .int (nI L)), (0, .ref 11), (1, .int (nI c)), (2, .int (nI mo))] rfl rfl ?_
  exact WP.less (k73 (tw_op c cv) 0 (by omega)) (by simp)
set_option maxRecDepth 100000 in
set_option maxHeartbeats 4000000 in
theorem tw_feE {n c mo D : Nat} {σ : tm_S} {Q : Option Value → tm_S → Prop} (hc : c ≤ 24) (hm : mo < 2 ^ c) (h0 : 0 < mo) (hD : D * th_po mo c = c) : ∀ (w r m L cv ch : Nat) (acc : List Nat) (s : tm_S), L + w + 1 = D → m + r = c → cv < 2 ^ c → ¬ cv = 2 ^ c - 1 → th_po cv c = L * th_po mo c → ch < 2 ^ c → (∀ v ∈ acc, v < 2 ^ 24) → tw_FG n σ s → s.1 57 L = nI cv → s.1 58 L = nI ch → tw_E s acc → (acc ++ tw_G c mo cv ch (tw_op c cv) (tw_T c mo w) mo r).length ≤ 8192 → (∀ s' : tm_S, tw_FG n σ s' → (∀ i : Nat, i < L → s'.1 57 i = s.1 57 i ∧ s'.1 58 i = s.1 58 i ∧ s'.1 56 i = s.1 56 i) → tw_E s' (acc ++ tw_G c mo cv ch (tw_op c cv) (tw_T c mo w) mo r) → WP 40 203 66 [(3, .int (nI L - 1)), (0, .ref 11), (1, .int (nI c)), (2, .int (nI mo))] [] s' Q) → WP 40 203 105 [(5, .int (nI m)), (4, .int (nI (tw_op c cv))), (3, .int (nI L)), (0, .ref 11), (1, .int (nI c)), (2, .int (nI mo))] [] s Q := by
  have hp : 2 ^ c ≤ 2 ^ 24 := Nat.pow_le_pow_right (by decide) hc
  have k1 := th_po1 hm h0
  have D24 : D ≤ 24 := by
    have : D * 1 ≤ D * th_po mo c := Nat.mul_le_mul_left D k1
    omega
  intro w
  induction w with
  | zero =>
    intro r
    induction r with
    | zero =>
      intro m L cv ch acc s hw hmr hcv hf hpo hch hac F e57 e58 hE hb K
      have cL : (nI L).toNatClampNeg = L := nI_clamp (by omega)
      obtain ⟨ho, -, -⟩ := tw_opk hcv hf
      obtain rfl : c = m := by omega
      refine wp_ldi rfl tm_m0 ?_
      refine wp_ldi rfl tm_m4 ?_
      refine wq_icge rfl (fun h108 => ?_) (fun h108 => absurd (nI_le (Nat.le_refl _) (by omega)) h108)
      refine wp_lda rfl tm_m3 ?_
      refine wq_getr (p := 56) rfl rfl (f := 20) rfl rfl ?_
      refine wp_ldi rfl tm_m2 ?_
      refine wp_ldi rfl tm_m0 ?_
      refine wq_con (x := 1) rfl (by decide) ?_
      refine wq_iadd rfl ?_
      rw [nI_1]
      refine wp_iast rfl rfl (nI_in (by omega) (by decide)) ?_
      rw [cL]
      generalize e1 : tm_sI s 56 L (nI (c + 1)) = s1
      have F1 : tw_FG n σ s1 := by rw [← e1]; exact ⟨tv_TY_row F.1 (ty := (0, 25)) (fun _ => rfl) (by rw [nI_toInt (by omega)]; show (0 : Int) ≤ _; omega) (by rw [nI_toInt (by omega)]; show _ ≤ (25 : Int); omega), tv_un_tr F.2 (tv_un_ar rfl rfl)⟩
      have v57 : s1.1 57 = s.1 57 := by rw [← e1]; exact (tm_sI_ar (by decide)).1
      have v58 : s1.1 58 = s.1 58 := by rw [← e1]; exact (tm_sI_ar (by decide)).1
      have E1 : tw_E s1 acc := tw_Eu hE (by rw [← e1, tm_gI, if_neg (fun e => absurd e.1 (by decide))]) (by rw [← e1]; exact (tm_sI_ar (by decide)).1)
      have v56 : s1.1 56 L = nI (c + 1) := by rw [← e1, tm_gI, if_pos ⟨rfl, rfl⟩]
      have u56 : ∀ i : Nat, ¬ i = L → s1.1 56 i = s.1 56 i := fun i hi => by rw [← e1, tm_gI, if_neg (fun e => hi e.2)]
      refine wp_ldi rfl tm_m0 ?_
      refine wp_ldi rfl tm_m4 ?_
      refine wq_iclt rfl (fun h168 => absurd h168 (nI_nlt (Nat.le_refl _) (by omega))) (fun h168 => ?_)
      refine wp_ldi rfl tm_m2 ?_
      refine wq_con (x := 1) rfl (by decide) ?_
      refine wq_isub rfl ?_
      refine wq_sti [(3, .int ((nI L) - 1)), (5, .int (nI c)), (4, .int (nI (tw_op c cv))), (0, .ref 11), (1, .int (nI c)), (2, .int (nI mo))] rfl rfl ?_
      refine wp_go rfl ?_
      exact WP.less (K s1 F1 (fun i hi => ⟨by rw [v57], by rw [v58], u56 i (by omega)⟩) (by show tw_E s1 (acc ++ []); rw [List.append_nil]; exact E1)) (by simp)
    | succ r ih =>
      intro m L cv ch acc s hw hmr hcv hf hpo hch hac F e57 e58 hE hb K
      have cL : (nI L).toNatClampNeg = L := nI_clamp (by omega)
      obtain ⟨ho, -, -⟩ := tw_opk hcv hf
      have hmc : m < c := by omega
      have em := (th_hs24 (a := mo) (m := m) (by omega) (by omega))
      have he : tw_e c (tw_op c cv) m < c := tw_el ho
      have hR := th_R_lt (c := c) (mo := mo) (e := tw_e c (tw_op c cv) m) hm
      have eG : tw_G c mo cv ch (tw_op c cv) (tw_T c mo 0) mo (r + 1) = (if mo.testBit m = true then tw_p c mo cv ch (tw_op c cv) (tw_T c mo 0) m else []) ++ tw_G c mo cv ch (tw_op c cv) (tw_T c mo 0) mo r := by
        rw [show m = c - (r + 1) by omega]
        rfl
      have nxt : ∀ (t : tm_S) (acc2 : List Nat), tw_FG n σ t → (∀ i : Nat, i < L → t.1 57 i = s.1 57 i ∧ t.1 58 i = s.1 58 i ∧ t.1 56 i = s.1 56 i) → t.1 57 L = nI cv → t.1 58 L = nI ch → tw_E t acc2 → (∀ v ∈ acc2, v < 2 ^ 24) → acc2 ++ tw_G c mo cv ch (tw_op c cv) (tw_T c mo 0) mo r = acc ++ tw_G c mo cv ch (tw_op c cv) (tw_T c mo 0) mo (r + 1) → WP 40 203 105 [(5, .int (nI (m + 1))), (4, .int (nI (tw_op c cv))), (3, .int (nI L)), (0, .ref 11), (1, .int (nI c)), (2, .int (nI mo))] [] t Q := by
        intro t acc2 Ft At t57 t58 Et va ht
        refine ih (m + 1) L cv ch acc2 t hw (by omega) hcv hf hpo hch va Ft t57 t58 Et (by rw [ht]; exact hb) (fun s' F' A' E' => K s' F' (fun i hi => ?_) (by rw [← ht]; exact E'))
        obtain ⟨q1, q2, q3⟩ := A' i hi
        obtain ⟨p1, p2, p3⟩ := At i hi
        exact ⟨q1.trans p1, q2.trans p2, q3.trans p3⟩
      have take : mo.testBit m = true → th_R c mo (tw_e c (tw_op c cv) m) &&& cv = 0 → WP 40 203 155 [(5, .int (nI m)), (4, .int (nI (tw_op c cv))), (3, .int (nI L)), (0, .ref 11), (1, .int (nI c)), (2, .int (nI mo))] [] s Q := by
        intro hbit hdis
        obtain ⟨hall, pall⟩ := tw_up hc hm hcv he hdis hpo
        have hset : ch ||| 2 ^ (tw_e c (tw_op c cv) m) < 2 ^ c := Nat.or_lt_two_pow hch (Nat.pow_lt_pow_right (by decide) he)
        have eT : tw_G c mo cv ch (tw_op c cv) (tw_T c mo 0) mo (r + 1) = tw_T c mo 0 (cv ||| th_R c mo (tw_e c (tw_op c cv) m)) (ch ||| 2 ^ (tw_e c (tw_op c cv) m)) ++ tw_G c mo cv ch (tw_op c cv) (tw_T c mo 0) mo r := by
          rw [eG, if_pos hbit]
          unfold tw_p
          rw [if_pos hdis]
        refine wp_lda rfl tm_m3 ?_
        refine wq_getr (p := 56) rfl rfl (f := 20) rfl rfl ?_
        refine wp_ldi rfl tm_m2 ?_
        refine wp_ldi rfl tm_m0 ?_
        refine wq_con (x := 1) rfl (by decide) ?_
        refine wq_iadd rfl ?_
        rw [nI_1]
        refine wp_iast rfl rfl (nI_in (by omega) (by decide)) ?_
        rw [cL]
        generalize e1 : tm_sI s 56 L (nI (m + 1)) = s1
        have F1 : tw_FG n σ s1 := by rw [← e1]; exact ⟨tv_TY_row F.1 (ty := (0, 25)) (fun _ => rfl) (by rw [nI_toInt (by omega)]; show (0 : Int) ≤ _; omega) (by rw [nI_toInt (by omega)]; show _ ≤ (25 : Int); omega), tv_un_tr F.2 (tv_un_ar rfl rfl)⟩
        have v57 : s1.1 57 = s.1 57 := by rw [← e1]; exact (tm_sI_ar (by decide)).1
        have v58 : s1.1 58 = s.1 58 := by rw [← e1]; exact (tm_sI_ar (by decide)).1
        have E1 : tw_E s1 acc := tw_Eu hE (by rw [← e1, tm_gI, if_neg (fun e => absurd e.1 (by decide))]) (by rw [← e1]; exact (tm_sI_ar (by decide)).1)
        have v56 : s1.1 56 L = nI (m + 1) := by rw [← e1, tm_gI, if_pos ⟨rfl, rfl⟩]
        have u56 : ∀ i : Nat, ¬ i = L → s1.1 56 i = s.1 56 i := fun i hi => by rw [← e1, tm_gI, if_neg (fun e => hi e.2)]
        refine wp_ldi rfl tm_m0 ?_
        refine wp_ldi rfl tm_m4 ?_
        refine wq_iclt rfl (fun h168 => ?_) (fun h168 => absurd (nI_lt hmc (by omega)) h168)
        refine wp_ldi rfl tm_m1 ?_
        refine wp_ldi rfl tm_m0 ?_
        refine wq_isub rfl ?_
        refine wp_ldi rfl tm_m4 ?_
        refine wq_iadd rfl ?_
        refine wp_ldi rfl tm_m4 ?_
        refine wp_rem rfl (nI_ne0 (by omega) (by omega)) ?_
        rw [th_gap2 hc ho hmc]
        refine wq_sti [(6, .int (nI (tw_e c (tw_op c cv) m))), (5, .int (nI m)), (4, .int (nI (tw_op c cv))), (3, .int (nI L)), (0, .ref 11), (1, .int (nI c)), (2, .int (nI mo))] rfl rfl ?_
        refine wp_lda rfl tm_m4 ?_
        refine wq_getr (p := 57) rfl rfl (f := 21) rfl rfl ?_
        refine wp_ldi rfl tm_m3 ?_
        refine wp_iald rfl rfl (nI_in (by omega) (by decide)) ?_
        rw [cL, v57, e57]
        refine wp_lda rfl tm_m4 ?_
        refine wp_ldi rfl tm_m5 ?_
        refine wp_ldi rfl tm_m6 ?_
        refine wp_ldi rfl tm_m0 ?_
        refine wq_calv [.int (nI c), .int (nI mo), .int (nI (tw_e c (tw_op c cv) m))] rfl rfl rfl rfl rfl rfl rfl rfl rfl (th_filled hc hm he) ?_
        rintro _ _ ⟨rfl, rfl⟩
        refine wq_ior rfl ?_
        rw [th_or24 (by omega) (by omega)]
        refine wq_sti [(7, .int (nI (cv ||| th_R c mo (tw_e c (tw_op c cv) m)))), (6, .int (nI (tw_e c (tw_op c cv) m))), (5, .int (nI m)), (4, .int (nI (tw_op c cv))), (3, .int (nI L)), (0, .ref 11), (1, .int (nI c)), (2, .int (nI mo))] rfl rfl ?_
        refine wp_lda rfl tm_m5 ?_
        refine wq_getr (p := 58) rfl rfl (f := 22) rfl rfl ?_
        refine wp_ldi rfl tm_m4 ?_
        refine wp_iald rfl rfl (nI_in (by omega) (by decide)) ?_
        rw [cL, v58, e58]
        refine wq_con (x := 1) rfl (by decide) ?_
        refine wp_ldi rfl tm_m1 ?_
        refine wq_ishl rfl ?_
        refine wq_ior rfl ?_
        rw [th_p24 _ (by omega), th_or24 (by omega) (Nat.pow_lt_pow_right (by decide) (by omega))]
        refine wq_sti [(8, .int (nI (ch ||| 2 ^ (tw_e c (tw_op c cv) m)))), (7, .int (nI (cv ||| th_R c mo (tw_e c (tw_op c cv) m)))), (6, .int (nI (tw_e c (tw_op c cv) m))), (5, .int (nI m)), (4, .int (nI (tw_op c cv))), (3, .int (nI L)), (0, .ref 11), (1, .int (nI c)), (2, .int (nI mo))] rfl rfl ?_
        refine wp_ldi rfl tm_m1 ?_
        refine wq_con (x := 1) rfl (by decide) ?_
        refine wp_ldi rfl tm_m7 ?_
        refine wq_ishl rfl ?_
        refine wq_con (x := 1) rfl (by decide) ?_
        refine wq_isub rfl ?_
        rw [th_m24 c hc]
        refine wq_icne rfl (fun h226 => absurd (by rw [show cv ||| th_R c mo (tw_e c (tw_op c cv) m) = 2 ^ c - 1 from tw_fl hall (by rw [pall, show L + 1 = D by omega]; exact hD)]) h226) (fun h226 => ?_)
        have hfu : cv ||| th_R c mo (tw_e c (tw_op c cv) m) = 2 ^ c - 1 := (nI_eq (by omega) (by omega)).mp (Classical.not_not.mp h226)
        have eF : tw_T c mo 0 (cv ||| th_R c mo (tw_e c (tw_op c cv) m)) (ch ||| 2 ^ (tw_e c (tw_op c cv) m)) = [ch ||| 2 ^ (tw_e c (tw_op c cv) m)] := by
          show (if cv ||| th_R c mo (tw_e c (tw_op c cv) m) = 2 ^ c - 1 then [ch ||| 2 ^ (tw_e c (tw_op c cv) m)] else _) = _
          rw [if_pos hfu]
        refine wp_lda rfl tm_m6 ?_
        refine wp_ldi rfl tm_m0 ?_
        refine wq_calv [.int (nI (ch ||| 2 ^ (tw_e c (tw_op c cv) m)))] rfl rfl rfl rfl rfl rfl rfl rfl rfl (tw_put F1 (by omega) hac E1 (by rw [eT, eF, List.length_append, List.length_append] at hb; change _ + (1 + _) ≤ _ at hb; omega)) ?_
        rintro _ s2 ⟨rfl, F2, E2, L3⟩
        refine wp_go rfl ?_
        refine wp_go rfl ?_
        refine WP.less (tw_e66 (L := L) (cv := cv) (m := m + 1) hc (by omega) hcv hf (by rw [L3.2.1, v57]; exact e57) (by rw [L3.1]; exact v56) (nxt s2 (acc ++ [ch ||| 2 ^ (tw_e c (tw_op c cv) m)]) F2 (fun i hi => ⟨by rw [L3.2.1, v57], by rw [L3.2.2, v58], by rw [L3.1]; exact u56 i (by omega)⟩) (by rw [L3.2.1, v57]; exact e57) (by rw [L3.2.2, v58]; exact e58) E2 (fun v hv => ?_) (by rw [eT, eF, List.append_assoc]))) (by simp)
        rcases List.mem_append.mp hv with q | q
        · exact hac v q
        · rw [List.mem_singleton.mp q]
          omega
      refine wp_ldi rfl tm_m0 ?_
      refine wp_ldi rfl tm_m4 ?_
      refine wq_icge rfl (fun h108 => absurd h108 (nI_ge hmc (by omega))) (fun h108 => ?_)
      refine wp_lda rfl tm_m3 ?_
      refine wp_ldi rfl tm_m5 ?_
      refine wp_ldi rfl tm_m0 ?_
      refine wq_calv [.int (nI mo), .int (nI m)] rfl rfl rfl rfl rfl rfl rfl rfl rfl (th_has) ?_
      rintro _ _ ⟨rfl, rfl⟩
      refine wq_ifeq rfl (fun h118 => ?_) (fun h118 => ?_)
      · refine wp_ldi rfl tm_m0 ?_
        refine wq_con (x := 1) rfl (by decide) ?_
        refine wq_iadd rfl ?_
        refine wq_sti [(5, .int ((nI m) + 1)), (4, .int (nI (tw_op c cv))), (3, .int (nI L)), (0, .ref 11), (1, .int (nI c)), (2, .int (nI mo))] rfl rfl ?_
        refine wp_go rfl ?_
        rw [nI_1]
        refine WP.less (nxt s acc F (fun i _ => ⟨rfl, rfl, rfl⟩) e57 e58 hE hac ?_) (by simp)
        rw [eG]
        have q0 : (if mo.testBit m = true then tw_p c mo cv ch (tw_op c cv) (tw_T c mo 0) m else []) = [] := by
          first
          | (have z : ¬ th_R c mo (tw_e c (tw_op c cv) m) &&& cv = 0 := fun e => h143 (by rw [e]; rfl)
             unfold tw_p
             rw [if_neg z, ite_self])
          | (have z : ¬ mo.testBit m = true := fun e => absurd h118 (by rw [em, e]; decide)
             rw [if_neg z])
        rw [q0]
        rfl
      · refine wp_lda rfl tm_m3 ?_
        refine wp_ldi rfl tm_m4 ?_
        refine wp_ldi rfl tm_m5 ?_
        refine wp_ldi rfl tm_m1 ?_
        refine wp_ldi rfl tm_m0 ?_
        refine wq_isub rfl ?_
        refine wp_ldi rfl tm_m4 ?_
        refine wq_iadd rfl ?_
        refine wp_ldi rfl tm_m4 ?_
        refine wp_rem rfl (nI_ne0 (by omega) (by omega)) ?_
        rw [th_gap2 hc ho hmc]
        refine wq_calv [.int (nI c), .int (nI mo), .int (nI (tw_e c (tw_op c cv) m))] rfl rfl rfl rfl rfl rfl rfl rfl rfl (th_filled hc hm he) ?_
        rintro _ _ ⟨rfl, rfl⟩
        refine wp_lda rfl tm_m3 ?_
        refine wq_getr (p := 57) rfl rfl (f := 21) rfl rfl ?_
        refine wp_ldi rfl tm_m2 ?_
        refine wp_iald rfl rfl (nI_in (by omega) (by decide)) ?_
        rw [cL, e57]
        refine wq_iand rfl ?_
        rw [th_and24 (by omega) (by omega)]
        refine wq_ifeq rfl (fun h143 => ?_) (fun h143 => ?_)
        · refine WP.less (take ?_ ?_) (by simp)
          · cases hb2 : mo.testBit m with
            | true => rfl
            | false => exact absurd (by rw [em, hb2]; rfl) h118
          · have hl2 : th_R c mo (tw_e c (tw_op c cv) m) &&& cv ≤ cv := Nat.and_le_right
            exact (nI_eq (by omega) (by decide)).mp (h143.trans nI_0.symm)
        · refine wp_ldi rfl tm_m0 ?_
          refine wq_con (x := 1) rfl (by decide) ?_
          refine wq_iadd rfl ?_
          refine wq_sti [(5, .int ((nI m) + 1)), (4, .int (nI (tw_op c cv))), (3, .int (nI L)), (0, .ref 11), (1, .int (nI c)), (2, .int (nI mo))] rfl rfl ?_
          refine wp_go rfl ?_
          rw [nI_1]
          refine WP.less (nxt s acc F (fun i _ => ⟨rfl, rfl, rfl⟩) e57 e58 hE hac ?_) (by simp)
          rw [eG]
          have q0 : (if mo.testBit m = true then tw_p c mo cv ch (tw_op c cv) (tw_T c mo 0) m else []) = [] := by
            first
            | (have z : ¬ th_R c mo (tw_e c (tw_op c cv) m) &&& cv = 0 := fun e => h143 (by rw [e]; rfl)
               unfold tw_p
               rw [if_neg z, ite_self])
            | (have z : ¬ mo.testBit m = true := fun e => absurd h118 (by rw [em, e]; decide)
               rw [if_neg z])
          rw [q0]
          rfl
  | succ w ihw =>
    intro r
    induction r with
    | zero =>
      intro m L cv ch acc s hw hmr hcv hf hpo hch hac F e57 e58 hE hb K
      have cL : (nI L).toNatClampNeg = L := nI_clamp (by omega)
      obtain ⟨ho, -, -⟩ := tw_opk hcv hf
      obtain rfl : c = m := by omega
      refine wp_ldi rfl tm_m0 ?_
      refine wp_ldi rfl tm_m4 ?_
      refine wq_icge rfl (fun h108 => ?_) (fun h108 => absurd (nI_le (Nat.le_refl _) (by omega)) h108)
      refine wp_lda rfl tm_m3 ?_
      refine wq_getr (p := 56) rfl rfl (f := 20) rfl rfl ?_
      refine wp_ldi rfl tm_m2 ?_
      refine wp_ldi rfl tm_m0 ?_
      refine wq_con (x := 1) rfl (by decide) ?_
      refine wq_iadd rfl ?_
      rw [nI_1]
      refine wp_iast rfl rfl (nI_in (by omega) (by decide)) ?_
      rw [cL]
      generalize e1 : tm_sI s 56 L (nI (c + 1)) = s1
      have F1 : tw_FG n σ s1 := by rw [← e1]; exact ⟨tv_TY_row F.1 (ty := (0, 25)) (fun _ => rfl) (by rw [nI_toInt (by omega)]; show (0 : Int) ≤ _; omega) (by rw [nI_toInt (by omega)]; show _ ≤ (25 : Int); omega), tv_un_tr F.2 (tv_un_ar rfl rfl)⟩
      have v57 : s1.1 57 = s.1 57 := by rw [← e1]; exact (tm_sI_ar (by decide)).1
      have v58 : s1.1 58 = s.1 58 := by rw [← e1]; exact (tm_sI_ar (by decide)).1
      have E1 : tw_E s1 acc := tw_Eu hE (by rw [← e1, tm_gI, if_neg (fun e => absurd e.1 (by decide))]) (by rw [← e1]; exact (tm_sI_ar (by decide)).1)
      have v56 : s1.1 56 L = nI (c + 1) := by rw [← e1, tm_gI, if_pos ⟨rfl, rfl⟩]
      have u56 : ∀ i : Nat, ¬ i = L → s1.1 56 i = s.1 56 i := fun i hi => by rw [← e1, tm_gI, if_neg (fun e => hi e.2)]
      refine wp_ldi rfl tm_m0 ?_
      refine wp_ldi rfl tm_m4 ?_
      refine wq_iclt rfl (fun h168 => absurd h168 (nI_nlt (Nat.le_refl _) (by omega))) (fun h168 => ?_)
      refine wp_ldi rfl tm_m2 ?_
      refine wq_con (x := 1) rfl (by decide) ?_
      refine wq_isub rfl ?_
      refine wq_sti [(3, .int ((nI L) - 1)), (5, .int (nI c)), (4, .int (nI (tw_op c cv))), (0, .ref 11), (1, .int (nI c)), (2, .int (nI mo))] rfl rfl ?_
      refine wp_go rfl ?_
      exact WP.less (K s1 F1 (fun i hi => ⟨by rw [v57], by rw [v58], u56 i (by omega)⟩) (by show tw_E s1 (acc ++ []); rw [List.append_nil]; exact E1)) (by simp)
    | succ r ih =>
      intro m L cv ch acc s hw hmr hcv hf hpo hch hac F e57 e58 hE hb K
      have cL : (nI L).toNatClampNeg = L := nI_clamp (by omega)
      obtain ⟨ho, -, -⟩ := tw_opk hcv hf
      have hmc : m < c := by omega
      have em := (th_hs24 (a := mo) (m := m) (by omega) (by omega))
      have he : tw_e c (tw_op c cv) m < c := tw_el ho
      have hR := th_R_lt (c := c) (mo := mo) (e := tw_e c (tw_op c cv) m) hm
      have eG : tw_G c mo cv ch (tw_op c cv) (tw_T c mo (w + 1)) mo (r + 1) = (if mo.testBit m = true then tw_p c mo cv ch (tw_op c cv) (tw_T c mo (w + 1)) m else []) ++ tw_G c mo cv ch (tw_op c cv) (tw_T c mo (w + 1)) mo r := by
        rw [show m = c - (r + 1) by omega]
        rfl
      have nxt : ∀ (t : tm_S) (acc2 : List Nat), tw_FG n σ t → (∀ i : Nat, i < L → t.1 57 i = s.1 57 i ∧ t.1 58 i = s.1 58 i ∧ t.1 56 i = s.1 56 i) → t.1 57 L = nI cv → t.1 58 L = nI ch → tw_E t acc2 → (∀ v ∈ acc2, v < 2 ^ 24) → acc2 ++ tw_G c mo cv ch (tw_op c cv) (tw_T c mo (w + 1)) mo r = acc ++ tw_G c mo cv ch (tw_op c cv) (tw_T c mo (w + 1)) mo (r + 1) → WP 40 203 105 [(5, .int (nI (m + 1))), (4, .int (nI (tw_op c cv))), (3, .int (nI L)), (0, .ref 11), (1, .int (nI c)), (2, .int (nI mo))] [] t Q := by
        intro t acc2 Ft At t57 t58 Et va ht
        refine ih (m + 1) L cv ch acc2 t hw (by omega) hcv hf hpo hch va Ft t57 t58 Et (by rw [ht]; exact hb) (fun s' F' A' E' => K s' F' (fun i hi => ?_) (by rw [← ht]; exact E'))
        obtain ⟨q1, q2, q3⟩ := A' i hi
        obtain ⟨p1, p2, p3⟩ := At i hi
        exact ⟨q1.trans p1, q2.trans p2, q3.trans p3⟩
      have take : mo.testBit m = true → th_R c mo (tw_e c (tw_op c cv) m) &&& cv = 0 → WP 40 203 155 [(5, .int (nI m)), (4, .int (nI (tw_op c cv))), (3, .int (nI L)), (0, .ref 11), (1, .int (nI c)), (2, .int (nI mo))] [] s Q := by
        intro hbit hdis
        obtain ⟨hall, pall⟩ := tw_up hc hm hcv he hdis hpo
        have hset : ch ||| 2 ^ (tw_e c (tw_op c cv) m) < 2 ^ c := Nat.or_lt_two_pow hch (Nat.pow_lt_pow_right (by decide) he)
        have eT : tw_G c mo cv ch (tw_op c cv) (tw_T c mo (w + 1)) mo (r + 1) = tw_T c mo (w + 1) (cv ||| th_R c mo (tw_e c (tw_op c cv) m)) (ch ||| 2 ^ (tw_e c (tw_op c cv) m)) ++ tw_G c mo cv ch (tw_op c cv) (tw_T c mo (w + 1)) mo r := by
          rw [eG, if_pos hbit]
          unfold tw_p
          rw [if_pos hdis]
        refine wp_lda rfl tm_m3 ?_
        refine wq_getr (p := 56) rfl rfl (f := 20) rfl rfl ?_
        refine wp_ldi rfl tm_m2 ?_
        refine wp_ldi rfl tm_m0 ?_
        refine wq_con (x := 1) rfl (by decide) ?_
        refine wq_iadd rfl ?_
        rw [nI_1]
        refine wp_iast rfl rfl (nI_in (by omega) (by decide)) ?_
        rw [cL]
        generalize e1 : tm_sI s 56 L (nI (m + 1)) = s1
        have F1 : tw_FG n σ s1 := by rw [← e1]; exact ⟨tv_TY_row F.1 (ty := (0, 25)) (fun _ => rfl) (by rw [nI_toInt (by omega)]; show (0 : Int) ≤ _; omega) (by rw [nI_toInt (by omega)]; show _ ≤ (25 : Int); omega), tv_un_tr F.2 (tv_un_ar rfl rfl)⟩
        have v57 : s1.1 57 = s.1 57 := by rw [← e1]; exact (tm_sI_ar (by decide)).1
        have v58 : s1.1 58 = s.1 58 := by rw [← e1]; exact (tm_sI_ar (by decide)).1
        have E1 : tw_E s1 acc := tw_Eu hE (by rw [← e1, tm_gI, if_neg (fun e => absurd e.1 (by decide))]) (by rw [← e1]; exact (tm_sI_ar (by decide)).1)
        have v56 : s1.1 56 L = nI (m + 1) := by rw [← e1, tm_gI, if_pos ⟨rfl, rfl⟩]
        have u56 : ∀ i : Nat, ¬ i = L → s1.1 56 i = s.1 56 i := fun i hi => by rw [← e1, tm_gI, if_neg (fun e => hi e.2)]
        refine wp_ldi rfl tm_m0 ?_
        refine wp_ldi rfl tm_m4 ?_
        refine wq_iclt rfl (fun h168 => ?_) (fun h168 => absurd (nI_lt hmc (by omega)) h168)
        refine wp_ldi rfl tm_m1 ?_
        refine wp_ldi rfl tm_m0 ?_
        refine wq_isub rfl ?_
        refine wp_ldi rfl tm_m4 ?_
        refine wq_iadd rfl ?_
        refine wp_ldi rfl tm_m4 ?_
        refine wp_rem rfl (nI_ne0 (by omega) (by omega)) ?_
        rw [th_gap2 hc ho hmc]
        refine wq_sti [(6, .int (nI (tw_e c (tw_op c cv) m))), (5, .int (nI m)), (4, .int (nI (tw_op c cv))), (3, .int (nI L)), (0, .ref 11), (1, .int (nI c)), (2, .int (nI mo))] rfl rfl ?_
        refine wp_lda rfl tm_m4 ?_
        refine wq_getr (p := 57) rfl rfl (f := 21) rfl rfl ?_
        refine wp_ldi rfl tm_m3 ?_
        refine wp_iald rfl rfl (nI_in (by omega) (by decide)) ?_
        rw [cL, v57, e57]
        refine wp_lda rfl tm_m4 ?_
        refine wp_ldi rfl tm_m5 ?_
        refine wp_ldi rfl tm_m6 ?_
        refine wp_ldi rfl tm_m0 ?_
        refine wq_calv [.int (nI c), .int (nI mo), .int (nI (tw_e c (tw_op c cv) m))] rfl rfl rfl rfl rfl rfl rfl rfl rfl (th_filled hc hm he) ?_
        rintro _ _ ⟨rfl, rfl⟩
        refine wq_ior rfl ?_
        rw [th_or24 (by omega) (by omega)]
        refine wq_sti [(7, .int (nI (cv ||| th_R c mo (tw_e c (tw_op c cv) m)))), (6, .int (nI (tw_e c (tw_op c cv) m))), (5, .int (nI m)), (4, .int (nI (tw_op c cv))), (3, .int (nI L)), (0, .ref 11), (1, .int (nI c)), (2, .int (nI mo))] rfl rfl ?_
        refine wp_lda rfl tm_m5 ?_
        refine wq_getr (p := 58) rfl rfl (f := 22) rfl rfl ?_
        refine wp_ldi rfl tm_m4 ?_
        refine wp_iald rfl rfl (nI_in (by omega) (by decide)) ?_
        rw [cL, v58, e58]
        refine wq_con (x := 1) rfl (by decide) ?_
        refine wp_ldi rfl tm_m1 ?_
        refine wq_ishl rfl ?_
        refine wq_ior rfl ?_
        rw [th_p24 _ (by omega), th_or24 (by omega) (Nat.pow_lt_pow_right (by decide) (by omega))]
        refine wq_sti [(8, .int (nI (ch ||| 2 ^ (tw_e c (tw_op c cv) m)))), (7, .int (nI (cv ||| th_R c mo (tw_e c (tw_op c cv) m)))), (6, .int (nI (tw_e c (tw_op c cv) m))), (5, .int (nI m)), (4, .int (nI (tw_op c cv))), (3, .int (nI L)), (0, .ref 11), (1, .int (nI c)), (2, .int (nI mo))] rfl rfl ?_
        refine wp_ldi rfl tm_m1 ?_
        refine wq_con (x := 1) rfl (by decide) ?_
        refine wp_ldi rfl tm_m7 ?_
        refine wq_ishl rfl ?_
        refine wq_con (x := 1) rfl (by decide) ?_
        refine wq_isub rfl ?_
        rw [th_m24 c hc]
        refine wq_icne rfl (fun h226 => ?_) (fun h226 => ?_)
        · refine wp_ldi rfl tm_m5 ?_
          refine wq_con (x := 1) rfl (by decide) ?_
          refine wq_iadd rfl ?_
          refine wq_sti [(3, .int ((nI L) + 1)), (8, .int (nI (ch ||| 2 ^ (tw_e c (tw_op c cv) m)))), (7, .int (nI (cv ||| th_R c mo (tw_e c (tw_op c cv) m)))), (6, .int (nI (tw_e c (tw_op c cv) m))), (5, .int (nI m)), (4, .int (nI (tw_op c cv))), (0, .ref 11), (1, .int (nI c)), (2, .int (nI mo))] rfl rfl ?_
          refine wp_lda rfl tm_m6 ?_
          refine wq_getr (p := 57) rfl rfl (f := 21) rfl rfl ?_
          refine wp_ldi rfl tm_m0 ?_
          refine wp_ldi rfl tm_m2 ?_
          refine wp_iast rfl rfl (by rw [nI_1]; exact nI_in (by omega) (by decide)) ?_
          refine wp_lda rfl tm_m6 ?_
          refine wq_getr (p := 58) rfl rfl (f := 22) rfl rfl ?_
          refine wp_ldi rfl tm_m0 ?_
          refine wp_ldi rfl tm_m1 ?_
          refine wp_iast rfl rfl (by rw [nI_1]; exact nI_in (by omega) (by decide)) ?_
          refine wp_lda rfl tm_m6 ?_
          refine wq_getr (p := 56) rfl rfl (f := 20) rfl rfl ?_
          refine wp_ldi rfl tm_m0 ?_
          refine wq_con (x := 0) rfl (by decide) ?_
          refine wp_iast rfl rfl (by rw [nI_1]; exact nI_in (by omega) (by decide)) ?_
          refine wp_go rfl ?_
          rw [nI_1, nI_clamp (n := L + 1) (by omega)]
          generalize e2 : tm_sI (tm_sI (tm_sI s1 57 (L + 1) (nI (cv ||| th_R c mo (tw_e c (tw_op c cv) m)))) 58 (L + 1) (nI (ch ||| 2 ^ (tw_e c (tw_op c cv) m)))) 56 (L + 1) 0 = s2
          have F2 : tw_FG n σ s2 := by
            rw [← e2]
            exact ⟨tv_TY_row (tv_TY_row (tv_TY_row F1.1 (ty := (0, 16777215)) (fun _ => rfl) (by rw [nI_toInt (by omega)]; show (0 : Int) ≤ _; omega) (by rw [nI_toInt (by omega)]; show _ ≤ (16777215 : Int); omega)) (ty := (0, 16777215)) (fun _ => rfl) (by rw [nI_toInt (by omega)]; show (0 : Int) ≤ _; omega) (by rw [nI_toInt (by omega)]; show _ ≤ (16777215 : Int); omega)) (ty := (0, 25)) (fun _ => rfl) (by decide) (by decide), tv_un_tr (tv_un_tr (tv_un_tr F1.2 (tv_un_ar rfl rfl)) (tv_un_ar rfl rfl)) (tv_un_ar rfl rfl)⟩
          have x57 : s2.1 57 (L + 1) = nI (cv ||| th_R c mo (tw_e c (tw_op c cv) m)) := by rw [← e2, tm_gI, if_neg (fun e => absurd e.1 (by decide)), tm_gI, if_neg (fun e => absurd e.1 (by decide)), tm_gI, if_pos ⟨rfl, rfl⟩]
          have x58 : s2.1 58 (L + 1) = nI (ch ||| 2 ^ (tw_e c (tw_op c cv) m)) := by rw [← e2, tm_gI, if_neg (fun e => absurd e.1 (by decide)), tm_gI, if_pos ⟨rfl, rfl⟩]
          have x56 : s2.1 56 (L + 1) = nI 0 := by rw [← e2, tm_gI, if_pos ⟨rfl, rfl⟩]; rfl
          have E2 : tw_E s2 acc := tw_Eu E1 (by rw [← e2, tm_gI, if_neg (fun e => absurd e.1 (by decide)), tm_gI, if_neg (fun e => absurd e.1 (by decide)), tm_gI, if_neg (fun e => absurd e.1 (by decide))]) (by rw [← e2]; exact ((tm_sI_ar (by decide)).1.trans (tm_sI_ar (by decide)).1).trans (tm_sI_ar (by decide)).1)
          have o57 : ∀ i : Nat, ¬ i = L + 1 → s2.1 57 i = s1.1 57 i := fun i hi => by rw [← e2, tm_gI, if_neg (fun e => absurd e.1 (by decide)), tm_gI, if_neg (fun e => absurd e.1 (by decide)), tm_gI, if_neg (fun e => hi e.2)]
          have o58 : ∀ i : Nat, ¬ i = L + 1 → s2.1 58 i = s1.1 58 i := fun i hi => by rw [← e2, tm_gI, if_neg (fun e => absurd e.1 (by decide)), tm_gI, if_neg (fun e => hi e.2), tm_gI, if_neg (fun e => absurd e.1 (by decide))]
          have o56 : ∀ i : Nat, ¬ i = L + 1 → s2.1 56 i = s1.1 56 i := fun i hi => by rw [← e2, tm_gI, if_neg (fun e => hi e.2), tm_gI, if_neg (fun e => absurd e.1 (by decide)), tm_gI, if_neg (fun e => absurd e.1 (by decide))]
          have hne : ¬ cv ||| th_R c mo (tw_e c (tw_op c cv) m) = 2 ^ c - 1 := fun e => h226 (by rw [e])
          have eN : tw_T c mo (w + 1) (cv ||| th_R c mo (tw_e c (tw_op c cv) m)) (ch ||| 2 ^ (tw_e c (tw_op c cv) m)) = tw_G c mo (cv ||| th_R c mo (tw_e c (tw_op c cv) m)) (ch ||| 2 ^ (tw_e c (tw_op c cv) m)) (tw_op c (cv ||| th_R c mo (tw_e c (tw_op c cv) m))) (tw_T c mo w) mo c := by
            show (if cv ||| th_R c mo (tw_e c (tw_op c cv) m) = 2 ^ c - 1 then [ch ||| 2 ^ (tw_e c (tw_op c cv) m)] else _) = _
            rw [if_neg hne]
          refine WP.less (tw_e66 (L := L + 1) (cv := cv ||| th_R c mo (tw_e c (tw_op c cv) m)) (m := 0) hc (by omega) hall hne x57 x56 (ihw c 0 (L + 1) (cv ||| th_R c mo (tw_e c (tw_op c cv) m)) (ch ||| 2 ^ (tw_e c (tw_op c cv) m)) acc s2 (by omega) (by omega) hall hne pall hset hac F2 x57 x58 E2 ?_ (fun s3 F3 A3 E3 => ?_))) (by simp)
          · rw [← eN]
            rw [eT, List.length_append, List.length_append] at hb
            rw [List.length_append]
            omega
          · rw [nI_pred]
            rw [← eN] at E3
            obtain ⟨q1, q2, q3⟩ := A3 L (by omega)
            refine tw_e66 (L := L) (cv := cv) (m := m + 1) hc (by omega) hcv hf (by rw [q1, o57 L (by omega), v57]; exact e57) (by rw [q3, o56 L (by omega)]; exact v56) (nxt s3 _ F3 (fun i hi => ?_) (by rw [q1, o57 L (by omega), v57]; exact e57) (by rw [q2, o58 L (by omega), v58]; exact e58) E3 (fun v hv => ?_) (by rw [eT, List.append_assoc]))
            · obtain ⟨p1, p2, p3⟩ := A3 i (by omega)
              exact ⟨by rw [p1, o57 i (by omega), v57], by rw [p2, o58 i (by omega), v58], by rw [p3, o56 i (by omega), u56 i (by omega)]⟩
            · rcases List.mem_append.mp hv with q | q
              · exact hac v q
              · have := tw_Tm hm (w + 1) (cv ||| th_R c mo (tw_e c (tw_op c cv) m)) (ch ||| 2 ^ (tw_e c (tw_op c cv) m)) hall hset v q
                omega
        · have hfu : cv ||| th_R c mo (tw_e c (tw_op c cv) m) = 2 ^ c - 1 := (nI_eq (by omega) (by omega)).mp (Classical.not_not.mp h226)
          have eF : tw_T c mo (w + 1) (cv ||| th_R c mo (tw_e c (tw_op c cv) m)) (ch ||| 2 ^ (tw_e c (tw_op c cv) m)) = [ch ||| 2 ^ (tw_e c (tw_op c cv) m)] := by
            show (if cv ||| th_R c mo (tw_e c (tw_op c cv) m) = 2 ^ c - 1 then [ch ||| 2 ^ (tw_e c (tw_op c cv) m)] else _) = _
            rw [if_pos hfu]
          refine wp_lda rfl tm_m6 ?_
          refine wp_ldi rfl tm_m0 ?_
          refine wq_calv [.int (nI (ch ||| 2 ^ (tw_e c (tw_op c cv) m)))] rfl rfl rfl rfl rfl rfl rfl rfl rfl (tw_put F1 (by omega) hac E1 (by rw [eT, eF, List.length_append, List.length_append] at hb; change _ + (1 + _) ≤ _ at hb; omega)) ?_
          rintro _ s2 ⟨rfl, F2, E2, L3⟩
          refine wp_go rfl ?_
          refine wp_go rfl ?_
          refine WP.less (tw_e66 (L := L) (cv := cv) (m := m + 1) hc (by omega) hcv hf (by rw [L3.2.1, v57]; exact e57) (by rw [L3.1]; exact v56) (nxt s2 (acc ++ [ch ||| 2 ^ (tw_e c (tw_op c cv) m)]) F2 (fun i hi => ⟨by rw [L3.2.1, v57], by rw [L3.2.2, v58], by rw [L3.1]; exact u56 i (by omega)⟩) (by rw [L3.2.1, v57]; exact e57) (by rw [L3.2.2, v58]; exact e58) E2 (fun v hv => ?_) (by rw [eT, eF, List.append_assoc]))) (by simp)
          rcases List.mem_append.mp hv with q | q
          · exact hac v q
          · rw [List.mem_singleton.mp q]
            omega
      refine wp_ldi rfl tm_m0 ?_
      refine wp_ldi rfl tm_m4 ?_
      refine wq_icge rfl (fun h108 => absurd h108 (nI_ge hmc (by omega))) (fun h108 => ?_)
      refine wp_lda rfl tm_m3 ?_
      refine wp_ldi rfl tm_m5 ?_
      refine wp_ldi rfl tm_m0 ?_
      refine wq_calv [.int (nI mo), .int (nI m)] rfl rfl rfl rfl rfl rfl rfl rfl rfl (th_has) ?_
      rintro _ _ ⟨rfl, rfl⟩
      refine wq_ifeq rfl (fun h118 => ?_) (fun h118 => ?_)
      · refine wp_ldi rfl tm_m0 ?_
        refine wq_con (x := 1) rfl (by decide) ?_
        refine wq_iadd rfl ?_
        refine wq_sti [(5, .int ((nI m) + 1)), (4, .int (nI (tw_op c cv))), (3, .int (nI L)), (0, .ref 11), (1, .int (nI c)), (2, .int (nI mo))] rfl rfl ?_
        refine wp_go rfl ?_
        rw [nI_1]
        refine WP.less (nxt s acc F (fun i _ => ⟨rfl, rfl, rfl⟩) e57 e58 hE hac ?_) (by simp)
        rw [eG]
        have q0 : (if mo.testBit m = true then tw_p c mo cv ch (tw_op c cv) (tw_T c mo (w + 1)) m else []) = [] := by
          first
          | (have z : ¬ th_R c mo (tw_e c (tw_op c cv) m) &&& cv = 0 := fun e => h143 (by rw [e]; rfl)
             unfold tw_p
             rw [if_neg z, ite_self])
          | (have z : ¬ mo.testBit m = true := fun e => absurd h118 (by rw [em, e]; decide)
             rw [if_neg z])
        rw [q0]
        rfl
      · refine wp_lda rfl tm_m3 ?_
        refine wp_ldi rfl tm_m4 ?_
        refine wp_ldi rfl tm_m5 ?_
        refine wp_ldi rfl tm_m1 ?_
        refine wp_ldi rfl tm_m0 ?_
        refine wq_isub rfl ?_
        refine wp_ldi rfl tm_m4 ?_
        refine wq_iadd rfl ?_
        refine wp_ldi rfl tm_m4 ?_
        refine wp_rem rfl (nI_ne0 (by omega) (by omega)) ?_
        rw [th_gap2 hc ho hmc]
        refine wq_calv [.int (nI c), .int (nI mo), .int (nI (tw_e c (tw_op c cv) m))] rfl rfl rfl rfl rfl rfl rfl rfl rfl (th_filled hc hm he) ?_
        rintro _ _ ⟨rfl, rfl⟩
        refine wp_lda rfl tm_m3 ?_
        refine wq_getr (p := 57) rfl rfl (f := 21) rfl rfl ?_
        refine wp_ldi rfl tm_m2 ?_
        refine wp_iald rfl rfl (nI_in (by omega) (by decide)) ?_
        rw [cL, e57]
        refine wq_iand rfl ?_
        rw [th_and24 (by omega) (by omega)]
        refine wq_ifeq rfl (fun h143 => ?_) (fun h143 => ?_)
        · refine WP.less (take ?_ ?_) (by simp)
          · cases hb2 : mo.testBit m with
            | true => rfl
            | false => exact absurd (by rw [em, hb2]; rfl) h118
          · have hl2 : th_R c mo (tw_e c (tw_op c cv) m) &&& cv ≤ cv := Nat.and_le_right
            exact (nI_eq (by omega) (by decide)).mp (h143.trans nI_0.symm)
        · refine wp_ldi rfl tm_m0 ?_
          refine wq_con (x := 1) rfl (by decide) ?_
          refine wq_iadd rfl ?_
          refine wq_sti [(5, .int ((nI m) + 1)), (4, .int (nI (tw_op c cv))), (3, .int (nI L)), (0, .ref 11), (1, .int (nI c)), (2, .int (nI mo))] rfl rfl ?_
          refine wp_go rfl ?_
          rw [nI_1]
          refine WP.less (nxt s acc F (fun i _ => ⟨rfl, rfl, rfl⟩) e57 e58 hE hac ?_) (by simp)
          rw [eG]
          have q0 : (if mo.testBit m = true then tw_p c mo cv ch (tw_op c cv) (tw_T c mo (w + 1)) m else []) = [] := by
            first
            | (have z : ¬ th_R c mo (tw_e c (tw_op c cv) m) &&& cv = 0 := fun e => h143 (by rw [e]; rfl)
               unfold tw_p
               rw [if_neg z, ite_self])
            | (have z : ¬ mo.testBit m = true := fun e => absurd h118 (by rw [em, e]; decide)
               rw [if_neg z])
          rw [q0]
          rfl
/-- what the reference keeps of the round asked for last -/
def tw_RR (s : tm_S) : Prop := ∀ c S : Nat, s.1 11 15 = nI c → s.1 11 16 = nI S → 2 ≤ c → c ≤ 24 → 0 < S → S < 2 ^ c → tw_E s (tw_A c S)
theorem tw_RRu {σ s : tm_S} (h : tw_RR σ) (e1 : s.1 11 15 = σ.1 11 15) (e2 : s.1 11 16 = σ.1 11 16) (e3 : s.1 11 17 = σ.1 11 17) (e5 : s.1 54 = σ.1 54) : tw_RR s := by
  intro c S a1 a2 a3 a4 a5 a6
  rw [e1] at a1
  rw [e2] at a2
  exact tw_Eu (h c S a1 a2 a3 a4 a5 a6) e3 e5
set_option maxRecDepth 100000 in
set_option maxHeartbeats 4000000 in
theorem tw_find {n c mo : Nat} {σ s : tm_S} (hc2 : 2 ≤ c) (hc : c ≤ 24) (h0 : 0 < mo) (hm : mo < 2 ^ c) (F : th_FE n σ s) (hR : tw_RR s) : WM 40 203 [.ref 11, .int (nI c), .int (nI mo)] s (fun q t => q = none ∧ th_FE n σ t ∧ tw_E t (tw_A c mo) ∧ tw_RR t) := by
  have hp : 2 ^ c ≤ 2 ^ 24 := Nat.pow_le_pow_right (by decide) hc
  have k1 := th_po1 hm h0
  have kc : th_po mo c ≤ c := th_sm_le
  have l24 : th_po mo 24 = th_po mo c := th_po24 hm hc
  have hal := tw_Al hc hm k1
  have fin : ∀ t : tm_S, tw_E t (tw_A c mo) → t.1 11 15 = nI c → t.1 11 16 = nI mo → tw_RR t := fun t Et x1 x2 c9 S9 a1 a2 a3 a4 a5 a6 => by
    obtain rfl : c9 = c := (nI_eq (by omega) (by omega)).mp (a1.symm.trans x1)
    obtain rfl : S9 = mo := (nI_eq (by omega) (by omega)).mp (a2.symm.trans x2)
    exact Et
  show WP 40 203 0 [(0, .ref 11), (1, .int (nI c)), (2, .int (nI mo))] [] s _
  have k17 : WP 40 203 17 [(0, .ref 11), (1, .int (nI c)), (2, .int (nI mo))] [] s (fun q t => q = none ∧ th_FE n σ t ∧ tw_E t (tw_A c mo) ∧ tw_RR t) := by
    refine wp_lda rfl tm_m0 ?_
    refine wp_ldi rfl tm_m1 ?_
    refine wq_puti rfl rfl (f := 15) rfl rfl ?_
    refine wp_lda rfl tm_m0 ?_
    refine wp_ldi rfl tm_m2 ?_
    refine wq_puti rfl rfl (f := 16) rfl rfl ?_
    refine wp_lda rfl tm_m0 ?_
    refine wq_con (x := 0) rfl (by decide) ?_
    refine wq_puti rfl rfl (f := 17) rfl rfl ?_
    have F3 : th_FE n σ (tm_sI (tm_sI (tm_sI s 11 15 (nI c)) 11 16 (nI mo)) 11 17 0) := ⟨tv_TY_sI (tv_TY_sI (tv_TY_sI F.1 (tn_rng _).1 (tn_rng _).2) (tn_rng _).1 (tn_rng _).2) (by show (0 : Int) ≤ (0 : Int32).toInt; decide) (by show (0 : Int32).toInt ≤ (8192 : Int); decide), tv_un_tr (tv_un_tr (tv_un_tr F.2 (tv_un_fI rfl)) (tv_un_fI rfl)) (tv_un_fI rfl)⟩
    have x15 : (tm_sI (tm_sI (tm_sI s 11 15 (nI c)) 11 16 (nI mo)) 11 17 0).1 11 15 = nI c := by rw [tm_gI, if_neg (fun z => absurd z.2 (by decide)), tm_gI, if_neg (fun z => absurd z.2 (by decide)), tm_gI, if_pos ⟨rfl, rfl⟩]
    have x16 : (tm_sI (tm_sI (tm_sI s 11 15 (nI c)) 11 16 (nI mo)) 11 17 0).1 11 16 = nI mo := by rw [tm_gI, if_neg (fun z => absurd z.2 (by decide)), tm_gI, if_pos ⟨rfl, rfl⟩]
    have x17 : (tm_sI (tm_sI (tm_sI s 11 15 (nI c)) 11 16 (nI mo)) 11 17 0).1 11 17 = nI 0 := by rw [tm_gI, if_pos ⟨rfl, rfl⟩]; rfl
    have E3 : tw_E (tm_sI (tm_sI (tm_sI s 11 15 (nI c)) 11 16 (nI mo)) 11 17 0) [] := ⟨[], List.Perm.refl _, List.Pairwise.nil, x17, fun i hi => absurd hi (Nat.not_lt_zero _)⟩
    generalize tm_sI (tm_sI (tm_sI s 11 15 (nI c)) 11 16 (nI mo)) 11 17 0 = s3 at F3 x15 x16 x17 E3 ⊢
    refine wp_ldi rfl tm_m1 ?_
    refine wp_lda rfl tm_m0 ?_
    refine wp_ldi rfl tm_m2 ?_
    refine wq_calv [.int (nI mo)] rfl rfl rfl rfl rfl rfl rfl rfl rfl (th_on24 (by omega)) ?_
    rintro _ _ ⟨rfl, rfl⟩
    rw [l24]
    refine wp_rem rfl (nI_ne0 (by omega) (by omega)) ?_
    rw [th_remN (by omega) (by omega) (by omega)]
    refine wq_ifeq rfl (fun h39 => ?_) (fun h39 => ?_)
    · refine wq_con (x := 0) rfl (by decide) ?_
      refine wq_sti [(3, .int 0), (0, .ref 11), (1, .int (nI c)), (2, .int (nI mo))] rfl rfl ?_
      refine wp_lda rfl tm_m1 ?_
      refine wq_getr (p := 57) rfl rfl (f := 21) rfl rfl ?_
      refine wq_con (x := 0) rfl (by decide) ?_
      refine wq_con (x := 0) rfl (by decide) ?_
      refine wp_iast rfl rfl (tn_in (by decide) (by decide)) ?_
      refine wp_lda rfl tm_m1 ?_
      refine wq_getr (p := 58) rfl rfl (f := 22) rfl rfl ?_
      refine wq_con (x := 0) rfl (by decide) ?_
      refine wq_con (x := 0) rfl (by decide) ?_
      refine wp_iast rfl rfl (tn_in (by decide) (by decide)) ?_
      refine wp_lda rfl tm_m1 ?_
      refine wq_getr (p := 56) rfl rfl (f := 20) rfl rfl ?_
      refine wq_con (x := 0) rfl (by decide) ?_
      refine wq_con (x := 0) rfl (by decide) ?_
      refine wp_iast rfl rfl (tn_in (by decide) (by decide)) ?_
      have d1 : c % th_po mo c = 0 := (nI_eq (a := c % th_po mo c) (b := 0) (Nat.lt_of_lt_of_le (Nat.mod_lt _ (by omega)) (by omega)) (by decide)).mp h39
      have F1 : th_FE n σ (tm_sI (tm_sI (tm_sI s3 57 (0 : Int32).toNatClampNeg 0) 58 (0 : Int32).toNatClampNeg 0) 56 (0 : Int32).toNatClampNeg 0) := ⟨tv_TY_row (tv_TY_row (tv_TY_row F3.1 (ty := (0, 16777215)) (fun _ => rfl) (by decide) (by decide)) (ty := (0, 16777215)) (fun _ => rfl) (by decide) (by decide)) (ty := (0, 25)) (fun _ => rfl) (by decide) (by decide), tv_un_tr (tv_un_tr (tv_un_tr F3.2 (tv_un_ar rfl rfl)) (tv_un_ar rfl rfl)) (tv_un_ar rfl rfl)⟩
      have y57 : (tm_sI (tm_sI (tm_sI s3 57 (0 : Int32).toNatClampNeg 0) 58 (0 : Int32).toNatClampNeg 0) 56 (0 : Int32).toNatClampNeg 0).1 57 0 = nI 0 := by rw [tm_gI, if_neg (fun e => absurd e.1 (by decide)), tm_gI, if_neg (fun e => absurd e.1 (by decide)), tm_gI]; exact if_pos ⟨rfl, by decide⟩
      have y58 : (tm_sI (tm_sI (tm_sI s3 57 (0 : Int32).toNatClampNeg 0) 58 (0 : Int32).toNatClampNeg 0) 56 (0 : Int32).toNatClampNeg 0).1 58 0 = nI 0 := by rw [tm_gI, if_neg (fun e => absurd e.1 (by decide)), tm_gI]; exact if_pos ⟨rfl, by decide⟩
      have y56 : (tm_sI (tm_sI (tm_sI s3 57 (0 : Int32).toNatClampNeg 0) 58 (0 : Int32).toNatClampNeg 0) 56 (0 : Int32).toNatClampNeg 0).1 56 0 = nI 0 := by rw [tm_gI]; exact if_pos ⟨rfl, by decide⟩
      have E1 : tw_E (tm_sI (tm_sI (tm_sI s3 57 (0 : Int32).toNatClampNeg 0) 58 (0 : Int32).toNatClampNeg 0) 56 (0 : Int32).toNatClampNeg 0) [] := tw_Eu E3 (by rw [tm_gI, if_neg (fun e => absurd e.1 (by decide)), tm_gI, if_neg (fun e => absurd e.1 (by decide)), tm_gI, if_neg (fun e => absurd e.1 (by decide))]) (((tm_sI_ar (by decide)).1.trans (tm_sI_ar (by decide)).1).trans (tm_sI_ar (by decide)).1)
      have y15 : (tm_sI (tm_sI (tm_sI s3 57 (0 : Int32).toNatClampNeg 0) 58 (0 : Int32).toNatClampNeg 0) 56 (0 : Int32).toNatClampNeg 0).1 11 15 = nI c := by rw [tm_gI, if_neg (fun e => absurd e.1 (by decide)), tm_gI, if_neg (fun e => absurd e.1 (by decide)), tm_gI, if_neg (fun e => absurd e.1 (by decide))]; exact x15
      have y16 : (tm_sI (tm_sI (tm_sI s3 57 (0 : Int32).toNatClampNeg 0) 58 (0 : Int32).toNatClampNeg 0) 56 (0 : Int32).toNatClampNeg 0).1 11 16 = nI mo := by rw [tm_gI, if_neg (fun e => absurd e.1 (by decide)), tm_gI, if_neg (fun e => absurd e.1 (by decide)), tm_gI, if_neg (fun e => absurd e.1 (by decide))]; exact x16
      generalize tm_sI (tm_sI (tm_sI s3 57 (0 : Int32).toNatClampNeg 0) 58 (0 : Int32).toNatClampNeg 0) 56 (0 : Int32).toNatClampNeg 0 = s1 at F1 y57 y58 y56 E1 y15 y16 ⊢
      have hD : c / th_po mo c * th_po mo c = c := Nat.div_mul_cancel (Nat.dvd_of_mod_eq_zero d1)
      have D1 : 1 ≤ c / th_po mo c := Nat.div_pos kc k1
      have hpc : 2 ^ 2 ≤ 2 ^ c := Nat.pow_le_pow_right (by decide) hc2
      have zp : th_po 0 c = 0 := th_sm0 (fun i _ => Nat.zero_testBit i)
      have eA : tw_A c mo = tw_G c mo 0 0 (tw_op c 0) (tw_T c mo (c / th_po mo c - 1)) mo c := by
        rw [tw_Ad hc hm k1 d1]
        have e9 : c / th_po mo c = (c / th_po mo c - 1) + 1 := by omega
        rw [e9]
        show (if (0 : Nat) = 2 ^ c - 1 then [0] else _) = _
        rw [if_neg (by omega)]
        rfl
      refine WP.less (tw_e66 (L := 0) (cv := 0) (m := 0) hc (by decide) (by omega) (by omega) y57 y56 (tw_feE (σ := s1) hc hm h0 hD (c / th_po mo c - 1) c 0 0 0 0 [] s1 (by omega) (by omega) (by omega) (by omega) (by rw [zp, Nat.zero_mul]) (by omega) (fun v hv => absurd hv List.not_mem_nil) ⟨F1.1, tv_un_rf⟩ y57 y58 E1 ?_ (fun s9 F9 A9 E9 => ?_))) (by simp [nI_0])
      · rw [List.nil_append, ← eA]
        omega
      · rw [List.nil_append, ← eA] at E9
        refine wp_ldi rfl tm_m0 ?_
        refine wq_iflt rfl (fun h67 => ?_) (fun h67 => absurd (by decide) h67)
        exact wp_retv rfl ⟨rfl, ⟨F9.1, tv_un_tr F1.2 (tv_un_mo F9.2 (by decide))⟩, E9, fin s9 E9 (by rw [tv_un_i F9.2 (k := 11) (j := 15) rfl rfl]; exact y15) (by rw [tv_un_i F9.2 (k := 11) (j := 16) rfl rfl]; exact y16)⟩
    · have E4 : tw_E s3 (tw_A c mo) := by
        rw [tw_An hc hm (fun e => h39 ?_)]
        · exact E3
        · rw [show c % th_po mo c = 0 from e]
          rfl
      exact wp_retv rfl ⟨rfl, F3, E4, fin s3 E4 x15 x16⟩
  refine wp_lda rfl tm_m0 ?_
  refine wq_geti rfl rfl (f := 15) rfl rfl (Or.inl rfl) ?_
  refine wp_ldi rfl tm_m1 ?_
  refine wq_icne rfl (fun h5 => ?_) (fun h5 => ?_)
  · exact k17
  · refine wp_lda rfl tm_m0 ?_
    refine wq_geti rfl rfl (f := 16) rfl rfl (Or.inl rfl) ?_
    refine wp_ldi rfl tm_m2 ?_
    refine wq_icne rfl (fun h13 => ?_) (fun h13 => ?_)
    · exact k17
    · exact wp_retv rfl ⟨rfl, F, hR c mo (Classical.not_not.mp h5) (Classical.not_not.mp h13) hc2 hc h0 hm, hR⟩
