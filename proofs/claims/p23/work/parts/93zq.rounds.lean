/-! ===== rounds: what both answer ===== -/
def th_I4 (n : Nat) (σ : tm_S) : Prop := th_IV n σ ∧ tw_RC σ ∧ tw_RR σ
def tw_WC : List (Nat × Nat) := [(5, 1), (5, 2), (5, 3), (5, 4), (28, 64)]
def tw_WR : List (Nat × Nat) := [(11, 15), (11, 16), (11, 17), (54, 64)]
theorem tw_gm {W w : List (Nat × Nat)} {a b : Nat} (hg : W.all (fun q => !(tv_mem w q.1 q.2)) = true) (hm : (a, b) ∈ W) : tv_mem w a b = false := by
  have h := List.all_eq_true.mp hg (a, b) hm
  simpa using h
theorem tw_RCk {σ s : tm_S} {w : List (Nat × Nat)} (h : tw_RC σ) (hu : tv_un σ s w) (hg : tw_WC.all (fun q => !(tv_mem w q.1 q.2)) = true) : tw_RC s :=
  tw_RCu h (tv_un_i hu rfl (tw_gm hg (by decide))) (tv_un_z hu rfl (tw_gm hg (by decide))) (tv_un_i hu rfl (tw_gm hg (by decide))) (tv_un_i hu rfl (tw_gm hg (by decide))) (tv_un_a hu (k := 28) rfl (tw_gm hg (by decide))).1
theorem tw_RRk {σ s : tm_S} {w : List (Nat × Nat)} (h : tw_RR σ) (hu : tv_un σ s w) (hg : tw_WR.all (fun q => !(tv_mem w q.1 q.2)) = true) : tw_RR s :=
  tw_RRu h (tv_un_i hu rfl (tw_gm hg (by decide))) (tv_un_i hu rfl (tw_gm hg (by decide))) (tv_un_i hu rfl (tw_gm hg (by decide))) (tv_un_a hu (k := 54) rfl (tw_gm hg (by decide))).1
theorem th_I40 {n : Nat} {σ : tm_S} (h : th_I4 n σ) : th_I4 n (tm_sI σ 11 0 0) := by
  have hu : tv_un σ (tm_sI σ 11 0 0) [(11, 0)] := tv_un_fI rfl
  exact ⟨th_IV0 h.1, tw_RCk h.2.1 hu (by decide), tw_RRk h.2.2 hu (by decide)⟩
/-- only the whole round is a period -/
def tw_pp (c v : Nat) : Bool := (List.range c).all (fun p => Nat.beq p 0 || !(Nat.beq (th_R c v p) v))
theorem tw_ppk {c v q : Nat} (h : th_PD c v q) : (q = c) ↔ tw_pp c v = true := by
  obtain ⟨h1, h2, h3, h4⟩ := h
  unfold tw_pp
  rw [List.all_eq_true]
  constructor
  · intro e p hp
    have hp := List.mem_range.mp hp
    rw [Bool.or_eq_true]
    by_cases c0 : p = 0
    · exact Or.inl (by rw [c0]; rfl)
    · refine Or.inr ?_
      have := h3 p (by omega) (by omega)
      cases hb : Nat.beq (th_R c v p) v with
      | false => rfl
      | true => exact absurd (Nat.eq_of_beq_eq_true hb) this
  · intro ha
    rcases h4 with h4 | h4
    · exact h4
    · refine Classical.byContradiction (fun hne => ?_)
      have h5 := ha q (List.mem_range.mpr (by omega))
      rw [h4, Nat.beq_refl, show Nat.beq q 0 = false from Bool.eq_false_iff.mpr (fun e => by have := Nat.eq_of_beq_eq_true e; omega)] at h5
      cases h5
/-- what fills answers -/
def tp_fills (c2 s2 z : Int32) : Prop := (∃ c S : Nat, c2 = nI c ∧ s2 = nI S ∧ c ≤ 24 ∧ S < 2 ^ c ∧ z = nI (tw_A c S).length ∧ th_okr c2 s2) ∨ (¬ th_okr c2 s2 ∧ z = -1)
theorem tw_same {c c' S S' : Nat} {c2 s2 : Int32} (e1 : c2 = nI c) (e2 : s2 = nI S) (e3 : c ≤ 24) (e4 : S < 2 ^ c) (f1 : c2 = nI c') (f2 : s2 = nI S') (f3 : c' ≤ 24) (f4 : S' < 2 ^ c') : c' = c ∧ S' = S := by
  have hp : 2 ^ c ≤ 2 ^ 24 := Nat.pow_le_pow_right (by decide) e3
  have hp' : 2 ^ c' ≤ 2 ^ 24 := Nat.pow_le_pow_right (by decide) f3
  exact ⟨(nI_eq (by omega) (by omega)).mp (f1.symm.trans e1), (nI_eq (by omega) (by omega)).mp (f2.symm.trans e2)⟩
theorem tp_fills_u {c2 s2 z w : Int32} (h : tp_fills c2 s2 z) (g : tp_fills c2 s2 w) : z = w := by
  rcases h with ⟨c, S, e1, e2, e3, e4, e5, e6⟩ | ⟨h1, h2⟩
  · rcases g with ⟨c', S', f1, f2, f3, f4, f5, f6⟩ | ⟨g1, g2⟩
    · obtain ⟨rfl, rfl⟩ := tw_same e1 e2 e3 e4 f1 f2 f3 f4
      rw [e5, f5]
    · exact absurd e6 g1
  · rcases g with ⟨c', S', f1, f2, f3, f4, f5, f6⟩ | ⟨g1, g2⟩
    · exact absurd f6 h1
    · rw [h2, g2]
/-- what fill answers -/
def tw_fz (c S : Nat) (k z : Int32) : Prop := (∃ (K : Nat) (m : List Nat), k = nI K ∧ K < (tw_A c S).length ∧ K < 2 ^ 31 ∧ m.Perm (tw_A c S) ∧ m.Pairwise (· ≤ ·) ∧ z = nI (m.getD K 0)) ∨ (z = -1 ∧ ¬ (0 ≤ k.toInt ∧ k.toInt < ((tw_A c S).length : Nat)))
theorem tw_fzu {c S : Nat} {k z w : Int32} (h : tw_fz c S k z) (g : tw_fz c S k w) : z = w := by
  have no : ∀ {K : Nat}, k = nI K → K < 2 ^ 31 → K < (tw_A c S).length → 0 ≤ k.toInt ∧ k.toInt < ((tw_A c S).length : Nat) := fun e1 e2 e3 => by
    rw [e1, nI_toInt e2]
    omega
  rcases h with ⟨K, m, e1, e2, e3, e4, e5, e6⟩ | ⟨h1, h2⟩
  · rcases g with ⟨K', m', f1, f2, f3, f4, f5, f6⟩ | ⟨g1, g2⟩
    · rw [e6, f6, (nI_eq e3 f3).mp (e1.symm.trans f1), tw_sp (e4.trans f4.symm) e5 f5]
    · exact absurd (no e1 e3 e2) g2
  · rcases g with ⟨K', m', f1, f2, f3, f4, f5, f6⟩ | ⟨g1, g2⟩
    · exact absurd (no f1 f3 f2) h2
    · rw [h1, g1]
def tp_fill (c2 s2 k z : Int32) : Prop := (∃ c S : Nat, c2 = nI c ∧ s2 = nI S ∧ c ≤ 24 ∧ S < 2 ^ c ∧ tw_fz c S k z ∧ th_okr c2 s2) ∨ (¬ th_okr c2 s2 ∧ z = -1)
theorem tp_fill_u {c2 s2 k z w : Int32} (h : tp_fill c2 s2 k z) (g : tp_fill c2 s2 k w) : z = w := by
  rcases h with ⟨c, S, e1, e2, e3, e4, e5, e6⟩ | ⟨h1, h2⟩
  · rcases g with ⟨c', S', f1, f2, f3, f4, f5, f6⟩ | ⟨g1, g2⟩
    · obtain ⟨rfl, rfl⟩ := tw_same e1 e2 e3 e4 f1 f2 f3 f4
      exact tw_fzu e5 f5
    · exact absurd e6 g1
  · rcases g with ⟨c', S', f1, f2, f3, f4, f5, f6⟩ | ⟨g1, g2⟩
    · exact absurd f6 h1
    · rw [h2, g2]
/-- what pure answers -/
def tw_pz (c S : Nat) : Int32 := if tw_pp c S = true then nI ((tw_A c S).countP (tw_pp c)) else 0
def tp_pure (c2 s2 z : Int32) : Prop := (∃ c S : Nat, c2 = nI c ∧ s2 = nI S ∧ c ≤ 24 ∧ S < 2 ^ c ∧ z = tw_pz c S ∧ th_okr c2 s2) ∨ (¬ th_okr c2 s2 ∧ z = -1)
theorem tp_pure_u {c2 s2 z w : Int32} (h : tp_pure c2 s2 z) (g : tp_pure c2 s2 w) : z = w := by
  rcases h with ⟨c, S, e1, e2, e3, e4, e5, e6⟩ | ⟨h1, h2⟩
  · rcases g with ⟨c', S', f1, f2, f3, f4, f5, f6⟩ | ⟨g1, g2⟩
    · obtain ⟨rfl, rfl⟩ := tw_same e1 e2 e3 e4 f1 f2 f3 f4
      rw [e5, f5]
    · exact absurd e6 g1
  · rcases g with ⟨c', S', f1, f2, f3, f4, f5, f6⟩ | ⟨g1, g2⟩
    · exact absurd f6 h1
    · rw [h2, g2]
theorem tw_X4 {n : Nat} {σ t : tm_S} (h : th_I4 n σ) (F : tv_TY (tc_T (n : Int)) t ∧ tv_un σ t [(5, 1), (5, 2), (5, 3), (5, 4), (28, 64)]) (hR : tw_RC t) : th_I4 n t := ⟨⟨h.1.1, h.1.2.1, F.1, th_SLu h.1.2.2.1 h.1.2.2.2 F.2 (by decide)⟩, hR, tw_RRk h.2.2 F.2 (by decide)⟩
theorem tw_M4 {n : Nat} {σ t : tm_S} (h : th_I4 n σ) (F : th_FE n σ t) (hR : tw_RR t) : th_I4 n t := ⟨⟨h.1.1, h.1.2.1, F.1, th_SLu h.1.2.2.1 h.1.2.2.2 F.2 (by decide)⟩, tw_RCk h.2.1 F.2 (by decide), hR⟩
/-- countP by and by -/
theorem tw_cp {l : List Nat} {f : Nat → Bool} {i : Nat} (h : i < l.length) : (l.take (i + 1)).countP f = (l.take i).countP f + bif f (l.getD i 0) then 1 else 0 := by
  rw [tw_gd h, ← List.take_append_getElem h, List.countP_append, List.countP_singleton]
  cases f l[i] <;> rfl
set_option maxRecDepth 100000 in
set_option maxHeartbeats 4000000 in
theorem tf4_x_fills {n : Nat} {a1 a2 : Int32} {σ : tm_S} (h : th_I4 n σ) : WM 90 77 [.ref 0, .int a1, .int a2] σ (fun r σ' => ∃ z : Int32, r = some (.int z) ∧ tp_fills a1 a2 z ∧ th_I4 n σ') := by
  have ⟨⟨h3, hn, hT, hSL⟩, hC, hR⟩ := h
  show WP 90 77 0 [(0, .ref 0), (1, .int a1), (2, .int a2)] [] σ _
  refine wp_ldi rfl tm_m1 ?_
  refine wp_ldi rfl tm_m2 ?_
  refine wq_cals [.int a1, .int a2] rfl rfl rfl rfl rfl rfl (th_isb2) ?_
  rintro r2 _ ⟨hr2, rfl⟩
  obtain ⟨z2, rfl, hz2, hn2⟩ : ∃ z : Int32, r2 = some (.int z) ∧ (¬ z = 0 → th_okr a1 a2) ∧ (z = 0 → ¬ th_okr a1 a2) := by
    rcases hr2 with ⟨rfl, g⟩ | ⟨rfl, g⟩
    · exact ⟨_, rfl, fun _ => g, fun e => absurd e (by decide)⟩
    · exact ⟨_, rfl, fun e => absurd rfl e, fun _ => g⟩
  refine wq_ifeq rfl (fun h5 => ?_) (fun h5 => ?_)
  · refine wq_con (x := (-1)) rfl (by decide) ?_
    exact wp_reti rfl (th_nI rfl) ⟨_, rfl, Or.inr ⟨hn2 h5, rfl⟩, h⟩
  · obtain ⟨c, S, e1, e2, c2, c24, s0_, hS⟩ := hz2 h5
    have hp : 2 ^ c ≤ 2 ^ 24 := Nat.pow_le_pow_right (by decide) c24
    have hal := tw_Al c24 hS (th_po1 hS s0_)
    refine wp_lda rfl tm_m0 ?_
    refine wq_getr (p := 5) rfl rfl (f := 4) rfl rfl ?_
    refine wp_ldi rfl tm_m1 ?_
    refine wp_ldi rfl tm_m2 ?_
    refine wq_calv [.int a1, .int a2] rfl rfl rfl rfl rfl rfl rfl rfl rfl (by rw [e1, e2]; exact WM.deep (tw_count c2 c24 s0_ hS hT hC) (by decide)) ?_
    rintro _ t ⟨l, rfl, Ft, Ct, x3, x4, l1, l2, l3⟩
    refine wp_go rfl ?_
    exact wp_reti rfl (th_nI rfl) ⟨_, rfl, Or.inl ⟨c, S, e1, e2, c24, hS, rfl, ⟨c, S, e1, e2, c2, c24, s0_, hS⟩⟩, tw_X4 h Ft Ct⟩
set_option maxRecDepth 100000 in
set_option maxHeartbeats 4000000 in
theorem tf4_m_fills {n : Nat} {a1 a2 : Int32} {σ : tm_S} (h : th_I4 n σ) : WM 90 201 [.ref 11, .int a1, .int a2] σ (fun r σ' => ∃ z : Int32, r = some (.int z) ∧ tp_fills a1 a2 z ∧ th_I4 n σ') := by
  have hI := th_I40 h
  generalize e0 : tm_sI σ 11 0 0 = s0 at hI
  have ⟨⟨h3, hn, hT, hSL⟩, hC, hR⟩ := hI
  show WP 90 201 0 [(0, .ref 11), (1, .int a1), (2, .int a2)] [] σ _
  refine wp_lda rfl tm_m0 ?_
  refine wq_con (x := 0) rfl (by decide) ?_
  refine wq_puti rfl rfl (f := 0) rfl rfl ?_
  rw [e0]
  refine wp_lda rfl tm_m0 ?_
  refine wp_ldi rfl tm_m1 ?_
  refine wp_ldi rfl tm_m2 ?_
  refine wq_calv [.int a1, .int a2] rfl rfl rfl rfl rfl rfl rfl rfl rfl (th_isr2) ?_
  rintro r8 _ ⟨hr8, rfl⟩
  obtain ⟨z8, rfl, hz8, hn8⟩ : ∃ z : Int32, r8 = some (.int z) ∧ (¬ z = 0 → th_okr a1 a2) ∧ (z = 0 → ¬ th_okr a1 a2) := by
    rcases hr8 with ⟨rfl, g⟩ | ⟨rfl, g⟩
    · exact ⟨_, rfl, fun _ => g, fun e => absurd e (by decide)⟩
    · exact ⟨_, rfl, fun e => absurd rfl e, fun _ => g⟩
  refine wq_ifne rfl (fun h11 => ?_) (fun h11 => ?_)
  · obtain ⟨c, S, e1, e2, c2, c24, s0_, hS⟩ := hz8 h11
    have hp : 2 ^ c ≤ 2 ^ 24 := Nat.pow_le_pow_right (by decide) c24
    have hal := tw_Al c24 hS (th_po1 hS s0_)
    refine wp_lda rfl tm_m0 ?_
    refine wp_ldi rfl tm_m1 ?_
    refine wp_ldi rfl tm_m2 ?_
    refine wq_calv [.int a1, .int a2] rfl rfl rfl rfl rfl rfl rfl rfl rfl (by rw [e1, e2]; exact WM.deep (tw_find c2 c24 s0_ hS ⟨hT, tv_un_rf⟩ hR) (by decide)) ?_
    rintro _ t ⟨rfl, Ft, Et, Rt⟩
    obtain ⟨l, l1, l2, l3, l4⟩ := Et
    have hll := l1.length_eq
    have It := tw_M4 hI Ft Rt
    refine wp_lda rfl tm_m0 ?_
    refine wq_geti rfl rfl (f := 17) rfl rfl (Or.inl rfl) ?_
    rw [l3, hll]
    exact wp_reti rfl (th_nI rfl) ⟨_, rfl, Or.inl ⟨c, S, e1, e2, c24, hS, rfl, ⟨c, S, e1, e2, c2, c24, s0_, hS⟩⟩, It⟩
  · refine wq_con (x := (-1)) rfl (by decide) ?_
    exact wp_reti rfl (th_nI rfl) ⟨_, rfl, Or.inr ⟨hn8 (Classical.not_not.mp h11), rfl⟩, hI⟩
set_option maxRecDepth 100000 in
set_option maxHeartbeats 4000000 in
theorem tf4_x_fill {n : Nat} {a1 a2 a3 : Int32} {σ : tm_S} (h : th_I4 n σ) : WM 90 82 [.ref 0, .int a1, .int a2, .int a3] σ (fun r σ' => ∃ z : Int32, r = some (.int z) ∧ tp_fill a1 a2 a3 z ∧ th_I4 n σ') := by
  have ⟨⟨h3, hn, hT, hSL⟩, hC, hR⟩ := h
  show WP 90 82 0 [(0, .ref 0), (1, .int a1), (2, .int a2), (3, .int a3)] [] σ _
  refine wp_ldi rfl tm_m1 ?_
  refine wp_ldi rfl tm_m2 ?_
  refine wq_cals [.int a1, .int a2] rfl rfl rfl rfl rfl rfl (th_isb2) ?_
  rintro r2 _ ⟨hr2, rfl⟩
  obtain ⟨z2, rfl, hz2, hn2⟩ : ∃ z : Int32, r2 = some (.int z) ∧ (¬ z = 0 → th_okr a1 a2) ∧ (z = 0 → ¬ th_okr a1 a2) := by
    rcases hr2 with ⟨rfl, g⟩ | ⟨rfl, g⟩
    · exact ⟨_, rfl, fun _ => g, fun e => absurd e (by decide)⟩
    · exact ⟨_, rfl, fun e => absurd rfl e, fun _ => g⟩
  refine wq_ifeq rfl (fun h5 => ?_) (fun h5 => ?_)
  · have g5 : (z2).toInt = 0 := congrArg Int32.toInt h5
    refine wq_con (x := (-1)) rfl (by decide) ?_
    by_cases ok : th_okr a1 a2
    · obtain ⟨c, S, e1, e2, c2, c24, s0_, hS⟩ := id ok
      refine wp_reti rfl (th_nI rfl) ⟨_, rfl, Or.inl ⟨c, S, e1, e2, c24, hS, Or.inr ⟨rfl, fun q => ?_⟩, ok⟩, h⟩
      first | exact absurd ok (hn2 h5) | (have q1 := q.1; change a3.toInt < (0 : Int) at g9; omega)
    · exact wp_reti rfl (th_nI rfl) ⟨_, rfl, Or.inr ⟨ok, rfl⟩, h⟩
  · refine wp_ldi rfl tm_m3 ?_
    refine wq_iflt rfl (fun h9 => ?_) (fun h9 => ?_)
    · have g9 : (a3).toInt < 0 := tn_ltI.mp h9
      refine wq_con (x := (-1)) rfl (by decide) ?_
      by_cases ok : th_okr a1 a2
      · obtain ⟨c, S, e1, e2, c2, c24, s0_, hS⟩ := id ok
        refine wp_reti rfl (th_nI rfl) ⟨_, rfl, Or.inl ⟨c, S, e1, e2, c24, hS, Or.inr ⟨rfl, fun q => ?_⟩, ok⟩, h⟩
        first | exact absurd ok (hn2 h5) | (have q1 := q.1; change a3.toInt < (0 : Int) at g9; omega)
      · exact wp_reti rfl (th_nI rfl) ⟨_, rfl, Or.inr ⟨ok, rfl⟩, h⟩
    · have g9 : ¬ (a3).toInt < 0 := fun g => h9 (tn_ltI.mpr g)
      obtain ⟨c, S, e1, e2, c2, c24, s0_, hS⟩ := hz2 h5
      have hp : 2 ^ c ≤ 2 ^ 24 := Nat.pow_le_pow_right (by decide) c24
      have hal := tw_Al c24 hS (th_po1 hS s0_)
      have eA : (nI (tw_A c S).length).toInt = ((tw_A c S).length : Nat) := nI_toInt (by omega)
      refine wp_ldi rfl tm_m3 ?_
      refine wp_lda rfl tm_m0 ?_
      refine wq_getr (p := 5) rfl rfl (f := 4) rfl rfl ?_
      refine wp_ldi rfl tm_m1 ?_
      refine wp_ldi rfl tm_m2 ?_
      refine wq_calv [.int a1, .int a2] rfl rfl rfl rfl rfl rfl rfl rfl rfl (by rw [e1, e2]; exact WM.deep (tw_count c2 c24 s0_ hS hT hC) (by decide)) ?_
      rintro _ t ⟨l, rfl, Ft, Ct, x3, x4, l1, l2, l3⟩
      refine wq_iclt rfl (fun h22 => ?_) (fun h22 => ?_)
      · have g22 : (a3).toInt < (nI (tw_A c S).length).toInt := tn_ltI.mp h22
        rw [eA] at g22
        change ¬ a3.toInt < (0 : Int) at g9
        obtain ⟨K, K1, K2⟩ := nI_of (x := a3) (by rw [tn_ltI]; show ¬ a3.toInt < 0; omega)
        have eK : a3.toInt = K := by rw [K2]; exact nI_toInt K1
        have hK : K < (tw_A c S).length := by omega
        refine wp_lda rfl tm_m0 ?_
        refine wq_getr (p := 5) rfl rfl (f := 4) rfl rfl ?_
        refine wp_ldi rfl tm_m3 ?_
        refine wq_calv [.int a3] rfl rfl rfl rfl rfl rfl rfl rfl rfl (by rw [K2]; exact WM.deep (tw_get c2 c24 s0_ hS Ft.1 x3 x4 l1 l2 l3 hK) (by decide)) ?_
        rintro _ t2 ⟨⟨m, m1, m2, rfl⟩, F2, C2⟩
        exact wp_reti rfl (th_nI rfl) ⟨_, rfl, Or.inl ⟨c, S, e1, e2, c24, hS, Or.inl ⟨K, m, K2, hK, K1, m1, m2, rfl⟩, ⟨c, S, e1, e2, c2, c24, s0_, hS⟩⟩, tw_X4 h ⟨F2.1, tv_un_tr Ft.2 F2.2⟩ C2⟩
      · have g22 : ¬ (a3).toInt < (nI (tw_A c S).length).toInt := fun g => h22 (tn_ltI.mpr g)
        refine wq_con (x := (-1)) rfl (by decide) ?_
        rw [eA] at g22
        exact wp_reti rfl (th_nI rfl) ⟨_, rfl, Or.inl ⟨c, S, e1, e2, c24, hS, Or.inr ⟨rfl, fun q => g22 q.2⟩, ⟨c, S, e1, e2, c2, c24, s0_, hS⟩⟩, tw_X4 h Ft Ct⟩
set_option maxRecDepth 100000 in
set_option maxHeartbeats 4000000 in
theorem tf4_m_fill {n : Nat} {a1 a2 a3 : Int32} {σ : tm_S} (h : th_I4 n σ) : WM 90 207 [.ref 11, .int a1, .int a2, .int a3] σ (fun r σ' => ∃ z : Int32, r = some (.int z) ∧ tp_fill a1 a2 a3 z ∧ th_I4 n σ') := by
  have hI := th_I40 h
  generalize e0 : tm_sI σ 11 0 0 = s0 at hI
  have ⟨⟨h3, hn, hT, hSL⟩, hC, hR⟩ := hI
  show WP 90 207 0 [(0, .ref 11), (1, .int a1), (2, .int a2), (3, .int a3)] [] σ _
  refine wp_lda rfl tm_m0 ?_
  refine wq_con (x := 0) rfl (by decide) ?_
  refine wq_puti rfl rfl (f := 0) rfl rfl ?_
  rw [e0]
  refine wp_lda rfl tm_m0 ?_
  refine wp_ldi rfl tm_m1 ?_
  refine wp_ldi rfl tm_m2 ?_
  refine wq_calv [.int a1, .int a2] rfl rfl rfl rfl rfl rfl rfl rfl rfl (th_isr2) ?_
  rintro r8 _ ⟨hr8, rfl⟩
  obtain ⟨z8, rfl, hz8, hn8⟩ : ∃ z : Int32, r8 = some (.int z) ∧ (¬ z = 0 → th_okr a1 a2) ∧ (z = 0 → ¬ th_okr a1 a2) := by
    rcases hr8 with ⟨rfl, g⟩ | ⟨rfl, g⟩
    · exact ⟨_, rfl, fun _ => g, fun e => absurd e (by decide)⟩
    · exact ⟨_, rfl, fun e => absurd rfl e, fun _ => g⟩
  refine wq_ifne rfl (fun h11 => ?_) (fun h11 => ?_)
  · obtain ⟨c, S, e1, e2, c2, c24, s0_, hS⟩ := hz8 h11
    have hp : 2 ^ c ≤ 2 ^ 24 := Nat.pow_le_pow_right (by decide) c24
    have hal := tw_Al c24 hS (th_po1 hS s0_)
    have eA : (nI (tw_A c S).length).toInt = ((tw_A c S).length : Nat) := nI_toInt (by omega)
    refine wp_lda rfl tm_m0 ?_
    refine wp_ldi rfl tm_m1 ?_
    refine wp_ldi rfl tm_m2 ?_
    refine wq_calv [.int a1, .int a2] rfl rfl rfl rfl rfl rfl rfl rfl rfl (by rw [e1, e2]; exact WM.deep (tw_find c2 c24 s0_ hS ⟨hT, tv_un_rf⟩ hR) (by decide)) ?_
    rintro _ t ⟨rfl, Ft, Et, Rt⟩
    obtain ⟨l, l1, l2, l3, l4⟩ := Et
    have hll := l1.length_eq
    have It := tw_M4 hI Ft Rt
    refine wp_ldi rfl tm_m3 ?_
    refine wq_iflt rfl (fun h23 => ?_) (fun h23 => ?_)
    · have g23 : (a3).toInt < 0 := tn_ltI.mp h23
      refine wq_con (x := (-1)) rfl (by decide) ?_
      refine wp_reti rfl (th_nI rfl) ⟨_, rfl, Or.inl ⟨c, S, e1, e2, c24, hS, Or.inr ⟨rfl, fun q => ?_⟩, ⟨c, S, e1, e2, c2, c24, s0_, hS⟩⟩, It⟩
      have q1 := q.1
      have q2 := q.2
      first | (change a3.toInt < (0 : Int) at g23; omega) | (rw [eA] at g31; omega)
    · have g23 : ¬ (a3).toInt < 0 := fun g => h23 (tn_ltI.mpr g)
      refine wp_ldi rfl tm_m3 ?_
      refine wp_lda rfl tm_m0 ?_
      refine wq_geti rfl rfl (f := 17) rfl rfl (Or.inl rfl) ?_
      rw [l3, hll]
      refine wq_icge rfl (fun h31 => ?_) (fun h31 => ?_)
      · have g31 : (nI (tw_A c S).length).toInt ≤ (a3).toInt := tn_leI.mp h31
        refine wq_con (x := (-1)) rfl (by decide) ?_
        refine wp_reti rfl (th_nI rfl) ⟨_, rfl, Or.inl ⟨c, S, e1, e2, c24, hS, Or.inr ⟨rfl, fun q => ?_⟩, ⟨c, S, e1, e2, c2, c24, s0_, hS⟩⟩, It⟩
        have q1 := q.1
        have q2 := q.2
        first | (change a3.toInt < (0 : Int) at g23; omega) | (rw [eA] at g31; omega)
      · have g31 : ¬ (nI (tw_A c S).length).toInt ≤ (a3).toInt := fun g => h31 (tn_leI.mpr g)
        rw [eA] at g31
        change ¬ a3.toInt < (0 : Int) at g23
        obtain ⟨K, K1, K2⟩ := nI_of (x := a3) (by rw [tn_ltI]; show ¬ a3.toInt < 0; omega)
        have eK : a3.toInt = K := by rw [K2]; exact nI_toInt K1
        have hK : K < (tw_A c S).length := by omega
        have eR : t.1 54 a3.toNatClampNeg = nI (l.getD K 0) := by rw [K2, nI_clamp K1]; exact l4 K (by omega)
        refine wp_lda rfl tm_m0 ?_
        refine wq_getr (p := 54) rfl rfl (f := 18) rfl rfl ?_
        refine wp_ldi rfl tm_m3 ?_
        refine wp_iald rfl rfl (tn_in (by omega) (by omega)) ?_
        rw [eR]
        refine wp_go rfl ?_
        exact wp_reti rfl (th_nI rfl) ⟨_, rfl, Or.inl ⟨c, S, e1, e2, c24, hS, Or.inl ⟨K, l, K2, hK, K1, l1, l2, rfl⟩, ⟨c, S, e1, e2, c2, c24, s0_, hS⟩⟩, It⟩
  · have g11 : (z8).toInt = 0 := congrArg Int32.toInt (Classical.not_not.mp h11)
    refine wq_con (x := (-1)) rfl (by decide) ?_
    exact wp_reti rfl (th_nI rfl) ⟨_, rfl, Or.inr ⟨hn8 (Classical.not_not.mp h11), rfl⟩, hI⟩
set_option maxRecDepth 100000 in
set_option maxHeartbeats 4000000 in
theorem tw_cpure {n c S : Nat} {σ : tm_S} (hc2 : 2 ≤ c) (hc : c ≤ 24) (hS0 : 0 < S) (hS : S < 2 ^ c) (hT : tv_TY (tc_T (n : Int)) σ) (hR : tw_RC σ) : WM 29 87 [.ref 5, .int (nI c), .int (nI S)] σ (fun q t => q = some (.int (tw_pz c S)) ∧ (tv_TY (tc_T (n : Int)) t ∧ tv_un σ t [(5, 1), (5, 2), (5, 3), (5, 4), (28, 64)]) ∧ tw_RC t) := by
  have hp : 2 ^ c ≤ 2 ^ 24 := Nat.pow_le_pow_right (by decide) hc
  have hal := tw_Al hc hS (th_po1 hS hS0)
  have k24 : tw_pp c S = true → ∀ (l : List Nat) (t : tm_S), l.Perm (tw_A c S) → tw_H t l → (tv_TY (tc_T (n : Int)) t ∧ tv_un σ t [(5, 1), (5, 2), (5, 3), (5, 4), (28, 64)]) → tw_RC t → ∀ f i : Nat, i + f = l.length → WP 29 87 24 [(5, .int (nI i)), (4, .int (nI ((l.take i).countP (tw_pp c)))), (3, .int (nI (tw_A c S).length)), (0, .ref 5), (1, .int (nI c)), (2, .int (nI S))] [] t (fun q t => q = some (.int (tw_pz c S)) ∧ (tv_TY (tc_T (n : Int)) t ∧ tv_un σ t [(5, 1), (5, 2), (5, 3), (5, 4), (28, 64)]) ∧ tw_RC t) := by
    intro hpp l t l1 l2 Ft Ct f
    have hll := l1.length_eq
    induction f with
    | zero =>
      intro i hi
      have ez : (l.take i).countP (tw_pp c) = (tw_A c S).countP (tw_pp c) := by rw [List.take_of_length_le (by omega), l1.countP_eq]
      refine wp_ldi rfl tm_m0 ?_
      refine wp_ldi rfl tm_m2 ?_
      refine wq_icge rfl (fun h27 => ?_) (fun h27 => absurd (nI_le (by omega) (by omega)) h27)
      refine wp_ldi rfl tm_m1 ?_
      exact wp_reti rfl (th_nI rfl) ⟨by unfold tw_pz; rw [if_pos hpp, ez], Ft, Ct⟩
    | succ f ih =>
      intro i hi
      have hv : l.getD i 0 < 2 ^ c := by
        rw [tw_gd (show i < l.length by omega)]
        exact tw_Av hS _ (l1.mem_iff.mp (List.getElem_mem _))
      have hcp := tw_cp (l := l) (f := tw_pp c) (i := i) (by omega)
      refine wp_ldi rfl tm_m0 ?_
      refine wp_ldi rfl tm_m2 ?_
      refine wq_icge rfl (fun h27 => absurd h27 (nI_ge (by omega) (by omega))) (fun h27 => ?_)
      refine wp_ldi rfl tm_m4 ?_
      refine wp_lda rfl tm_m3 ?_
      refine wq_getr (p := 28) rfl rfl (f := 0) rfl rfl ?_
      refine wp_ldi rfl tm_m0 ?_
      refine wp_iald rfl rfl (nI_in (by omega) (by decide)) ?_
      rw [nI_clamp (n := i) (by omega), l2.2 i (by omega)]
      refine wq_cals [.int (nI c), .int (nI (l.getD i 0))] rfl rfl rfl rfl rfl rfl (th_lper (by omega) hc hv) ?_
      rintro _ _ ⟨⟨q, rfl, hq⟩, rfl⟩
      have hqc : q ≤ c := hq.2.1
      have hk := tw_ppk hq
      refine wp_ldi rfl tm_m4 ?_
      refine wq_icne rfl (fun h42 => ?_) (fun h42 => ?_)
      · refine wq_inc (c := 1) [(5, .int ((nI i) + 1)), (4, .int (nI ((l.take i).countP (tw_pp c)))), (3, .int (nI (tw_A c S).length)), (0, .ref 5), (1, .int (nI c)), (2, .int (nI S))] rfl tm_m0 rfl rfl ?_
        refine wp_go rfl ?_
        rw [show tw_pp c (l.getD i 0) = false from Bool.eq_false_iff.mpr (fun z => h42 (by rw [hk.mpr z]))] at hcp
        rw [nI_1, show (l.take i).countP (tw_pp c) = (l.take (i + 1)).countP (tw_pp c) from hcp.symm]
        exact WP.less (ih (i + 1) (by omega)) (by simp)
      · refine wq_inc (c := 1) [(4, .int ((nI ((l.take i).countP (tw_pp c))) + 1)), (5, .int (nI i)), (3, .int (nI (tw_A c S).length)), (0, .ref 5), (1, .int (nI c)), (2, .int (nI S))] rfl tm_m1 rfl rfl ?_
        refine wq_inc (c := 1) [(5, .int ((nI i) + 1)), (4, .int ((nI ((l.take i).countP (tw_pp c))) + 1)), (3, .int (nI (tw_A c S).length)), (0, .ref 5), (1, .int (nI c)), (2, .int (nI S))] rfl tm_m1 rfl rfl ?_
        refine wp_go rfl ?_
        rw [hk.mp ((nI_eq (by omega) (by omega)).mp (Classical.not_not.mp h42))] at hcp
        rw [nI_1, nI_1, show (l.take i).countP (tw_pp c) + 1 = (l.take (i + 1)).countP (tw_pp c) from hcp.symm]
        exact WP.less (ih (i + 1) (by omega)) (by simp)
  show WP 29 87 0 [(0, .ref 5), (1, .int (nI c)), (2, .int (nI S))] [] σ _
  refine wp_ldi rfl tm_m1 ?_
  refine wp_ldi rfl tm_m2 ?_
  refine wq_cals [.int (nI c), .int (nI S)] rfl rfl rfl rfl rfl rfl (th_lper (by omega) hc hS) ?_
  rintro _ _ ⟨⟨q, rfl, hq⟩, rfl⟩
  have hqc : q ≤ c := hq.2.1
  have hk := tw_ppk hq
  refine wp_ldi rfl tm_m1 ?_
  refine wq_iceq rfl (fun h6 => ?_) (fun h6 => ?_)
  · refine wp_lda rfl tm_m0 ?_
    refine wp_ldi rfl tm_m1 ?_
    refine wp_ldi rfl tm_m2 ?_
    refine wq_calv [.int (nI c), .int (nI S)] rfl rfl rfl rfl rfl rfl rfl rfl rfl (tw_count hc2 hc hS0 hS hT hR) ?_
    rintro _ t ⟨l, rfl, Ft, Ct, x3, x4, l1, l2, l3⟩
    refine wq_sti [(3, .int (nI (tw_A c S).length)), (0, .ref 5), (1, .int (nI c)), (2, .int (nI S))] rfl rfl ?_
    refine wq_con (x := nI 0) rfl (by decide) ?_
    refine wq_sti [(4, .int (nI 0)), (3, .int (nI (tw_A c S).length)), (0, .ref 5), (1, .int (nI c)), (2, .int (nI S))] rfl rfl ?_
    refine wq_con (x := nI 0) rfl (by decide) ?_
    refine wq_sti [(5, .int (nI 0)), (4, .int (nI 0)), (3, .int (nI (tw_A c S).length)), (0, .ref 5), (1, .int (nI c)), (2, .int (nI S))] rfl rfl ?_
    exact WP.less (k24 (hk.mp ((nI_eq (by omega) (by omega)).mp h6)) l t l1 l2 Ft Ct l.length 0 (by omega)) (by simp)
  · refine wq_con (x := 0) rfl (by decide) ?_
    exact wp_reti rfl (th_nI rfl) ⟨by unfold tw_pz; rw [if_neg (fun z => h6 (by rw [hk.mpr z]))], ⟨hT, tv_un_rf⟩, hR⟩
set_option maxRecDepth 100000 in
set_option maxHeartbeats 4000000 in
theorem tf4_x_pure {n : Nat} {a1 a2 : Int32} {σ : tm_S} (h : th_I4 n σ) : WM 90 86 [.ref 0, .int a1, .int a2] σ (fun r σ' => ∃ z : Int32, r = some (.int z) ∧ tp_pure a1 a2 z ∧ th_I4 n σ') := by
  have ⟨⟨h3, hn, hT, hSL⟩, hC, hR⟩ := h
  show WP 90 86 0 [(0, .ref 0), (1, .int a1), (2, .int a2)] [] σ _
  refine wp_ldi rfl tm_m1 ?_
  refine wp_ldi rfl tm_m2 ?_
  refine wq_cals [.int a1, .int a2] rfl rfl rfl rfl rfl rfl (th_isb2) ?_
  rintro r2 _ ⟨hr2, rfl⟩
  obtain ⟨z2, rfl, hz2, hn2⟩ : ∃ z : Int32, r2 = some (.int z) ∧ (¬ z = 0 → th_okr a1 a2) ∧ (z = 0 → ¬ th_okr a1 a2) := by
    rcases hr2 with ⟨rfl, g⟩ | ⟨rfl, g⟩
    · exact ⟨_, rfl, fun _ => g, fun e => absurd e (by decide)⟩
    · exact ⟨_, rfl, fun e => absurd rfl e, fun _ => g⟩
  refine wq_ifeq rfl (fun h5 => ?_) (fun h5 => ?_)
  · refine wq_con (x := (-1)) rfl (by decide) ?_
    exact wp_reti rfl (th_nI rfl) ⟨_, rfl, Or.inr ⟨hn2 h5, rfl⟩, h⟩
  · obtain ⟨c, S, e1, e2, c2, c24, s0_, hS⟩ := hz2 h5
    have hp : 2 ^ c ≤ 2 ^ 24 := Nat.pow_le_pow_right (by decide) c24
    have hal := tw_Al c24 hS (th_po1 hS s0_)
    refine wp_lda rfl tm_m0 ?_
    refine wq_getr (p := 5) rfl rfl (f := 4) rfl rfl ?_
    refine wp_ldi rfl tm_m1 ?_
    refine wp_ldi rfl tm_m2 ?_
    refine wq_calv [.int a1, .int a2] rfl rfl rfl rfl rfl rfl rfl rfl rfl (by rw [e1, e2]; exact WM.deep (tw_cpure c2 c24 s0_ hS hT hC) (by decide)) ?_
    rintro _ t ⟨rfl, Ft, Ct⟩
    refine wp_go rfl ?_
    exact wp_reti rfl (th_nI rfl) ⟨_, rfl, Or.inl ⟨c, S, e1, e2, c24, hS, rfl, ⟨c, S, e1, e2, c2, c24, s0_, hS⟩⟩, tw_X4 h Ft Ct⟩
set_option maxRecDepth 100000 in
set_option maxHeartbeats 4000000 in
theorem tf4_m_pure {n : Nat} {a1 a2 : Int32} {σ : tm_S} (h : th_I4 n σ) : WM 90 208 [.ref 11, .int a1, .int a2] σ (fun r σ' => ∃ z : Int32, r = some (.int z) ∧ tp_pure a1 a2 z ∧ th_I4 n σ') := by
  have hI := th_I40 h
  generalize e0 : tm_sI σ 11 0 0 = s0 at hI
  have ⟨⟨h3, hn, hT, hSL⟩, hC, hR⟩ := hI
  have k39 : ∀ (c S : Nat), a1 = nI c → a2 = nI S → 2 ≤ c → c ≤ 24 → 0 < S → S < 2 ^ c → tw_pp c S = true → ∀ (l : List Nat) (t : tm_S), l.Perm (tw_A c S) → t.1 11 17 = nI l.length → tw_R (t.1 54) l → th_I4 n t → ∀ f i : Nat, i + f = l.length → WP 90 208 39 [(4, .int (nI i)), (3, .int (nI ((l.take i).countP (tw_pp c)))), (0, .ref 11), (1, .int (nI c)), (2, .int (nI S))] [] t (fun r σ' => ∃ z : Int32, r = some (.int z) ∧ tp_pure a1 a2 z ∧ th_I4 n σ') := by
    intro c S e1 e2 c2 c24 s0_ hS hpp l t l1 l3 l4 It f
    have hp : 2 ^ c ≤ 2 ^ 24 := Nat.pow_le_pow_right (by decide) c24
    have hal := tw_Al c24 hS (th_po1 hS s0_)
    have hll := l1.length_eq
    induction f with
    | zero =>
      intro i hi
      have ez : (l.take i).countP (tw_pp c) = (tw_A c S).countP (tw_pp c) := by rw [List.take_of_length_le (by omega), l1.countP_eq]
      refine wp_ldi rfl tm_m0 ?_
      refine wp_lda rfl tm_m2 ?_
      refine wq_geti rfl rfl (f := 17) rfl rfl (Or.inl rfl) ?_
      rw [l3]
      refine wq_icge rfl (fun h45 => ?_) (fun h45 => absurd (nI_le (by omega) (by omega)) h45)
      refine wp_ldi rfl tm_m1 ?_
      exact wp_reti rfl (th_nI rfl) ⟨_, rfl, Or.inl ⟨c, S, e1, e2, c24, hS, by unfold tw_pz; rw [if_pos hpp, ez], ⟨c, S, e1, e2, c2, c24, s0_, hS⟩⟩, It⟩
    | succ f ih =>
      intro i hi
      have hv : l.getD i 0 < 2 ^ c := by
        rw [tw_gd (show i < l.length by omega)]
        exact tw_Av hS _ (l1.mem_iff.mp (List.getElem_mem _))
      have hcp := tw_cp (l := l) (f := tw_pp c) (i := i) (by omega)
      refine wp_ldi rfl tm_m0 ?_
      refine wp_lda rfl tm_m2 ?_
      refine wq_geti rfl rfl (f := 17) rfl rfl (Or.inl rfl) ?_
      rw [l3]
      refine wq_icge rfl (fun h45 => absurd h45 (nI_ge (by omega) (by omega))) (fun h45 => ?_)
      refine wp_lda rfl tm_m2 ?_
      refine wp_ldi rfl tm_m3 ?_
      refine wp_lda rfl tm_m2 ?_
      refine wq_getr (p := 54) rfl rfl (f := 18) rfl rfl ?_
      refine wp_ldi rfl tm_m0 ?_
      refine wp_iald rfl rfl (nI_in (by omega) (by decide)) ?_
      rw [nI_clamp (n := i) (by omega), l4 i (by omega)]
      refine wq_calv [.int (nI c), .int (nI (l.getD i 0))] rfl rfl rfl rfl rfl rfl rfl rfl rfl (th_pero (d := 88) (by omega) c24 hv) ?_
      rintro _ _ ⟨⟨q, rfl, hq⟩, rfl⟩
      have hqc : q ≤ c := hq.2.1
      have hk := tw_ppk hq
      refine wp_ldi rfl tm_m3 ?_
      refine wq_icne rfl (fun h61 => ?_) (fun h61 => ?_)
      · refine wq_inc (c := 1) [(4, .int ((nI i) + 1)), (3, .int (nI ((l.take i).countP (tw_pp c)))), (0, .ref 11), (1, .int (nI c)), (2, .int (nI S))] rfl tm_m0 rfl rfl ?_
        refine wp_go rfl ?_
        rw [show tw_pp c (l.getD i 0) = false from Bool.eq_false_iff.mpr (fun z => h61 (by rw [hk.mpr z]))] at hcp
        rw [nI_1, show (l.take i).countP (tw_pp c) = (l.take (i + 1)).countP (tw_pp c) from hcp.symm]
        exact WP.less (ih (i + 1) (by omega)) (by simp)
      · refine wp_ldi rfl tm_m1 ?_
        refine wq_con (x := 1) rfl (by decide) ?_
        refine wq_iadd rfl ?_
        refine wq_sti [(3, .int ((nI ((l.take i).countP (tw_pp c))) + 1)), (4, .int (nI i)), (0, .ref 11), (1, .int (nI c)), (2, .int (nI S))] rfl rfl ?_
        refine wq_inc (c := 1) [(4, .int ((nI i) + 1)), (3, .int ((nI ((l.take i).countP (tw_pp c))) + 1)), (0, .ref 11), (1, .int (nI c)), (2, .int (nI S))] rfl tm_m1 rfl rfl ?_
        refine wp_go rfl ?_
        rw [hk.mp ((nI_eq (by omega) (by omega)).mp (Classical.not_not.mp h61))] at hcp
        rw [nI_1, nI_1, show (l.take i).countP (tw_pp c) + 1 = (l.take (i + 1)).countP (tw_pp c) from hcp.symm]
        exact WP.less (ih (i + 1) (by omega)) (by simp)
  show WP 90 208 0 [(0, .ref 11), (1, .int a1), (2, .int a2)] [] σ _
  refine wp_lda rfl tm_m0 ?_
  refine wq_con (x := 0) rfl (by decide) ?_
  refine wq_puti rfl rfl (f := 0) rfl rfl ?_
  rw [e0]
  refine wp_lda rfl tm_m0 ?_
  refine wp_ldi rfl tm_m1 ?_
  refine wp_ldi rfl tm_m2 ?_
  refine wq_calv [.int a1, .int a2] rfl rfl rfl rfl rfl rfl rfl rfl rfl (th_isr2) ?_
  rintro r8 _ ⟨hr8, rfl⟩
  obtain ⟨z8, rfl, hz8, hn8⟩ : ∃ z : Int32, r8 = some (.int z) ∧ (¬ z = 0 → th_okr a1 a2) ∧ (z = 0 → ¬ th_okr a1 a2) := by
    rcases hr8 with ⟨rfl, g⟩ | ⟨rfl, g⟩
    · exact ⟨_, rfl, fun _ => g, fun e => absurd e (by decide)⟩
    · exact ⟨_, rfl, fun e => absurd rfl e, fun _ => g⟩
  refine wq_ifne rfl (fun h11 => ?_) (fun h11 => ?_)
  · obtain ⟨c, S, e1, e2, c2, c24, s0_, hS⟩ := hz8 h11
    have hp : 2 ^ c ≤ 2 ^ 24 := Nat.pow_le_pow_right (by decide) c24
    have hal := tw_Al c24 hS (th_po1 hS s0_)
    refine wp_lda rfl tm_m0 ?_
    refine wp_ldi rfl tm_m1 ?_
    refine wp_ldi rfl tm_m2 ?_
    refine wq_calv [.int a1, .int a2] rfl rfl rfl rfl rfl rfl rfl rfl rfl (by rw [e1, e2]; exact WM.deep (tw_find c2 c24 s0_ hS ⟨hT, tv_un_rf⟩ hR) (by decide)) ?_
    rintro _ t ⟨rfl, Ft, Et, Rt⟩
    obtain ⟨l, l1, l2, l3, l4⟩ := Et
    have hll := l1.length_eq
    have It := tw_M4 hI Ft Rt
    refine wp_lda rfl tm_m0 ?_
    refine wp_ldi rfl tm_m1 ?_
    refine wp_ldi rfl tm_m2 ?_
    refine wq_calv [.int a1, .int a2] rfl rfl rfl rfl rfl rfl rfl rfl rfl (by rw [e1, e2]; exact th_pero (d := 88) (by omega) c24 hS) ?_
    rintro _ _ ⟨⟨q, rfl, hq⟩, rfl⟩
    have hqc : q ≤ c := hq.2.1
    have hk := tw_ppk hq
    refine wp_ldi rfl tm_m1 ?_
    refine wq_iceq rfl (fun h29 => ?_) (fun h29 => ?_)
    · refine wq_con (x := nI 0) rfl (by decide) ?_
      refine wq_sti [(3, .int (nI 0)), (0, .ref 11), (1, .int a1), (2, .int a2)] rfl rfl ?_
      refine wq_con (x := nI 0) rfl (by decide) ?_
      refine wq_sti [(4, .int (nI 0)), (3, .int (nI 0)), (0, .ref 11), (1, .int a1), (2, .int a2)] rfl rfl ?_
      rw [e1] at h29
      have kk := k39 c S e1 e2 c2 c24 s0_ hS (hk.mp ((nI_eq (by omega) (by omega)).mp h29)) l t l1 l3 l4 It l.length 0 (by omega)
      rw [← e1, ← e2] at kk
      exact WP.less kk (by simp)
    · refine wq_con (x := 0) rfl (by decide) ?_
      exact wp_reti rfl (th_nI rfl) ⟨_, rfl, Or.inl ⟨c, S, e1, e2, c24, hS, by unfold tw_pz; rw [if_neg (fun z => h29 (by rw [e1, hk.mpr z]))], ⟨c, S, e1, e2, c2, c24, s0_, hS⟩⟩, It⟩
  · refine wq_con (x := (-1)) rfl (by decide) ?_
    exact wp_reti rfl (th_nI rfl) ⟨_, rfl, Or.inr ⟨hn8 (Classical.not_not.mp h11), rfl⟩, hI⟩
