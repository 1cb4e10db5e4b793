/-! ===== octave, of the class and of the reference ===== -/
/-- the longs of row 12 stay, or are x -/
def th_lo (x : Int64) (σ σ' : tm_S) : Prop := σ'.2.2 = σ.2.2 ∧ (∀ k : Nat, k ≠ 12 → σ'.2.1 k = σ.2.1 k) ∧ ∀ s : Nat, σ'.2.1 12 s = σ.2.1 12 s ∨ σ'.2.1 12 s = x
theorem th_lo_st {x : Int64} {σ σ' : tm_S} {i : Nat} (h : th_lo x σ σ') : th_lo x σ (tm_sJ σ' 12 i x) := by
  refine ⟨h.1, fun k hk => ?_, fun s => ?_⟩
  · have e : (tm_sJ σ' 12 i x).2.1 k = σ'.2.1 k := if_neg hk
    rw [e]
    exact h.2.1 k hk
  · rw [tm_gJ]
    split
    · exact Or.inr rfl
    · exact h.2.2 s
set_option maxRecDepth 100000 in
set_option maxHeartbeats 4000000 in
theorem th_fill_l {d : Nat} {x : Int64} {σ : tm_S} : ∀ (m : Nat) (i : Int32) (σa : tm_S), σa.1 = σ.1 → th_lo x σ σa → 0 ≤ i.toInt → 6 ≤ i.toInt + m → WP d 0 6 [(3, .int i), (4, .int 6), (0, .ref 12), (1, .long x)] [] σa (fun r σ' => r = none ∧ σ'.1 = σ.1 ∧ th_lo x σ σ') := by
  intro m
  induction m with
  | zero =>
    intro i σa e1 e2 h1 h2
    refine wp_ldi rfl tm_m0 ?_
    refine wp_ldi rfl tm_m1 ?_
    refine wq_icge rfl (fun h9 => ?_) (fun h9 => absurd (tn_leI.mpr (by show (6 : Int) ≤ _; omega)) h9)
    exact wp_retv rfl ⟨rfl, e1, e2⟩
  | succ m ih =>
    intro i σa e1 e2 h1 h2
    refine wp_ldi rfl tm_m0 ?_
    refine wp_ldi rfl tm_m1 ?_
    refine wq_icge rfl (fun h9 => ?_) (fun h9 => ?_)
    · exact wp_retv rfl ⟨rfl, e1, e2⟩
    · have e9 : i.toInt < 6 := by rw [tn_leI] at h9; exact Int.not_le.mp h9
      have e3 := tn_add1 (x := i) (by omega)
      refine wp_lda rfl tm_m2 ?_
      refine wp_ldi rfl tm_m0 ?_
      refine wp_ldl rfl tm_m3 ?_
      refine wp_last rfl rfl (tn_in h1 (by omega)) ?_
      refine wq_inc (c := 1) [(3, .int (i + 1)), (4, .int 6), (0, .ref 12), (1, .long x)] rfl tm_m0 rfl rfl ?_
      refine wp_go rfl ?_
      exact WP.less (ih (i + 1) _ e1 (th_lo_st e2) (by omega) (by omega)) (by simp)
set_option maxRecDepth 100000 in
set_option maxHeartbeats 4000000 in
theorem th_fill {d : Nat} {x : Int64} {σ : tm_S} : WM d 0 [.ref 12, .long x] σ (fun r σ' => r = none ∧ σ'.1 = σ.1 ∧ th_lo x σ σ') := by
  show WP d 0 0 [(0, .ref 12), (1, .long x)] [] σ _
  refine wq_con (x := 0) rfl (by decide) ?_
  refine wq_sti [(3, .int 0), (0, .ref 12), (1, .long x)] rfl rfl ?_
  refine wp_lda rfl tm_m1 ?_
  refine wq_len (x := 6) rfl rfl (by decide) ?_
  refine wq_sti [(4, .int 6), (3, .int 0), (0, .ref 12), (1, .long x)] rfl rfl ?_
  exact WP.less (th_fill_l (x := x) 6 0 σ rfl ⟨rfl, fun _ _ => rfl, fun _ => Or.inl rfl⟩ (by decide) (by decide)) (by simp)
set_option maxRecDepth 100000 in
set_option maxHeartbeats 4000000 in
theorem th_clear9 {d : Nat} {σ : tm_S} : WM d 4 [.ref 9] σ (fun r σ' => r = none ∧ σ' = tm_sI (tm_sI σ 9 2 0) 9 7 0) := by
  show WP d 4 0 [(0, .ref 9)] [] σ _
  refine wp_lda rfl tm_m0 ?_
  refine wq_con (x := 0) rfl (by decide) ?_
  refine wq_puti rfl rfl (f := 2) rfl rfl ?_
  refine wp_lda rfl tm_m0 ?_
  refine wq_con (x := 0) rfl (by decide) ?_
  refine wq_puti rfl rfl (f := 7) rfl rfl ?_
  exact wp_retv rfl ⟨rfl, rfl⟩
set_option maxRecDepth 100000 in
set_option maxHeartbeats 4000000 in
theorem th_clear10 {d : Nat} {σ : tm_S} : WM d 4 [.ref 10] σ (fun r σ' => r = none ∧ σ' = tm_sI (tm_sI σ 10 2 0) 10 7 0) := by
  show WP d 4 0 [(0, .ref 10)] [] σ _
  refine wp_lda rfl tm_m0 ?_
  refine wq_con (x := 0) rfl (by decide) ?_
  refine wq_puti rfl rfl (f := 2) rfl rfl ?_
  refine wp_lda rfl tm_m0 ?_
  refine wq_con (x := 0) rfl (by decide) ?_
  refine wq_puti rfl rfl (f := 7) rfl rfl ?_
  exact wp_retv rfl ⟨rfl, rfl⟩
set_option maxRecDepth 100000 in
set_option maxHeartbeats 4000000 in
theorem th_size {d : Nat} {σ : tm_S} : WM d 2 [.ref 1] σ (th_is (.int (σ.1 1 0)) σ) := by
  show WP d 2 0 [(0, .ref 1)] [] σ _
  refine wp_lda rfl tm_m0 ?_
  refine wq_geti rfl rfl (f := 0) rfl rfl (Or.inl rfl) ?_
  exact wp_reti rfl (th_nI rfl) ⟨rfl, rfl⟩
/-- as σ, but for the row p, which holds 0 or what it held -/
def th_row0 (p : Nat) (σ σ' : tm_S) : Prop := (∀ k j, k ≠ p → σ'.1 k j = σ.1 k j) ∧ (∀ j, σ'.1 p j = 0 ∨ σ'.1 p j = σ.1 p j) ∧ σ'.2 = σ.2
theorem th_row0_rf {p : Nat} {σ : tm_S} : th_row0 p σ σ := ⟨fun _ _ _ => rfl, fun _ => Or.inr rfl, rfl⟩
theorem th_row0_st {p i : Nat} {σ σ' : tm_S} (h : th_row0 p σ σ') : th_row0 p σ (tm_sI σ' p i 0) := by
  refine ⟨fun k j hk => ?_, fun j => ?_, h.2.2⟩
  · rw [tm_gI, if_neg (fun e => hk e.1)]
    exact h.1 k j hk
  · rw [tm_gI]
    split
    · exact Or.inl rfl
    · exact h.2.1 j
set_option maxRecDepth 100000 in
set_option maxHeartbeats 4000000 in
theorem th_resz_l {d : Nat} {n : Int32} {σ : tm_S} : ∀ (m : Nat) (i : Int32) (σa : tm_S), th_row0 17 (tm_sI σ 1 0 n) σa → 0 ≤ i.toInt → 3 ≤ i.toInt + m → WP d 3 7 [(2, .int i), (0, .ref 1), (1, .int n)] [] σa (fun r σ' => r = none ∧ th_row0 17 (tm_sI σ 1 0 n) σ') := by
  intro m
  induction m with
  | zero =>
    intro i σa e1 h1 h2
    refine wp_ldi rfl tm_m0 ?_
    refine wq_con (x := 3) rfl (by decide) ?_
    refine wq_icge rfl (fun h9 => ?_) (fun h9 => absurd (tn_leI.mpr (by show (3 : Int) ≤ _; omega)) h9)
    exact wp_retv rfl ⟨rfl, e1⟩
  | succ m ih =>
    intro i σa e1 h1 h2
    refine wp_ldi rfl tm_m0 ?_
    refine wq_con (x := 3) rfl (by decide) ?_
    refine wq_icge rfl (fun h9 => ?_) (fun h9 => ?_)
    · exact wp_retv rfl ⟨rfl, e1⟩
    · have e9 : i.toInt < 3 := by rw [tn_leI] at h9; exact Int.not_le.mp h9
      have e3 := tn_add1 (x := i) (by omega)
      refine wp_lda rfl tm_m1 ?_
      refine wq_getr (p := 17) rfl rfl (f := 2) rfl rfl ?_
      refine wp_ldi rfl tm_m0 ?_
      refine wq_con (x := 0) rfl (by decide) ?_
      refine wp_zast rfl rfl (tn_in h1 (by omega)) (Or.inl rfl) ?_
      refine wq_inc (c := 1) [(2, .int (i + 1)), (0, .ref 1), (1, .int n)] rfl tm_m0 rfl rfl ?_
      refine wp_go rfl ?_
      exact WP.less (ih (i + 1) _ (th_row0_st e1) (by omega) (by omega)) (by simp)
set_option maxRecDepth 100000 in
set_option maxHeartbeats 4000000 in
theorem th_resz {d : Nat} {n : Int32} {σ : tm_S} : WM d 3 [.ref 1, .int n] σ (fun r σ' => r = none ∧ th_row0 17 (tm_sI σ 1 0 n) σ') := by
  show WP d 3 0 [(0, .ref 1), (1, .int n)] [] σ _
  refine wp_lda rfl tm_m0 ?_
  refine wp_ldi rfl tm_m1 ?_
  refine wq_puti rfl rfl (f := 0) rfl rfl ?_
  refine wq_con (x := 0) rfl (by decide) ?_
  refine wq_sti [(2, .int 0), (0, .ref 1), (1, .int n)] rfl rfl ?_
  exact WP.less (th_resz_l (n := n) 3 0 _ th_row0_rf (by decide) (by decide)) (by simp)
/-- octave's answer -/
def th_oct (n : Int32) : Int32 := if 3 ≤ n.toInt ∧ n.toInt ≤ 12 then 1 else 0
/-- what octave leaves of the store: N set, rows of booleans and of longs, the score's counts -/
def th_octS (c : Nat) (n : Int32) (σ σ' : tm_S) : Prop := (∀ k j, k ≠ 17 → ¬ (k = 1 ∧ j = 0) → ¬ (k = c ∧ (j = 2 ∨ j = 7)) → σ'.1 k j = σ.1 k j) ∧ (∀ j, σ'.1 17 j = 0 ∨ σ'.1 17 j = σ.1 17 j) ∧ σ'.1 1 0 = n ∧ σ'.1 c 2 = 0 ∧ σ'.1 c 7 = 0 ∧ (th_lo (-1) σ σ')
theorem th_octS_mk {c : Nat} (hc : c = 9 ∨ c = 10) {n : Int32} {σ σ1 σ2 : tm_S} (h1 : th_row0 17 (tm_sI σ 1 0 n) σ1) (h2 : σ2.1 = σ1.1) (h3 : th_lo (-1) σ1 σ2) : th_octS c n σ (tm_sI (tm_sI σ2 c 2 0) c 7 0) := by
  obtain ⟨a1, a2, a3⟩ := h1
  have hc1 : c ≠ 1 := by omega
  have hcp : c ≠ 17 := by omega
  refine ⟨fun k j hk hn hx => ?_, fun j => ?_, ?_, ?_, ?_, ?_⟩
  · rw [tm_gI, if_neg (fun e => hx ⟨e.1, Or.inr e.2⟩), tm_gI, if_neg (fun e => hx ⟨e.1, Or.inl e.2⟩), h2, a1 k j hk, tm_gI, if_neg hn]
  · rw [tm_gI, if_neg (fun e => hcp e.1.symm), tm_gI, if_neg (fun e => hcp e.1.symm), h2]
    have h := a2 j
    rw [tm_gI, if_neg (fun e => absurd e.1 (by decide))] at h
    exact h
  · rw [tm_gI, if_neg (fun e => hc1 e.1.symm), tm_gI, if_neg (fun e => hc1 e.1.symm), h2, a1 1 0 (by decide), tm_gI, if_pos ⟨rfl, rfl⟩]
  · rw [tm_gI, if_neg (fun e => absurd e.2 (by decide)), tm_gI, if_pos ⟨rfl, rfl⟩]
  · rw [tm_gI, if_pos ⟨rfl, rfl⟩]
  · rw [show σ1 = (σ1.1, σ1.2) from rfl, a3] at h3
    exact h3
set_option maxRecDepth 100000 in
set_option maxHeartbeats 4000000 in
theorem th_xoct {d : Nat} {σ : tm_S} {n : Int32} (hc : σ.2.2 0 8 = 9 ∨ σ.2.2 0 8 = 10) : WM (d + 1) 1 [.ref 0, .int n] σ (fun r σ' => r = some (.int (th_oct n)) ∧ ((σ' = σ ∧ (3 ≤ n.toInt → n.toInt ≤ 12 → σ.1 1 0 = n)) ∨ (3 ≤ n.toInt ∧ n.toInt ≤ 12 ∧ th_octS (σ.2.2 0 8) n σ σ'))) := by
  show WP (d + 1) 1 0 [(0, .ref 0), (1, .int n)] [] σ _
  have k49 : ∀ σ' : tm_S, 3 ≤ n.toInt → n.toInt ≤ 12 → ((σ' = σ ∧ (3 ≤ n.toInt → n.toInt ≤ 12 → σ.1 1 0 = n)) ∨ (3 ≤ n.toInt ∧ n.toInt ≤ 12 ∧ th_octS (σ.2.2 0 8) n σ σ')) → WP (d + 1) 1 49 [(0, .ref 0), (1, .int n)] [] σ' (fun r σ' => r = some (.int (th_oct n)) ∧ ((σ' = σ ∧ (3 ≤ n.toInt → n.toInt ≤ 12 → σ.1 1 0 = n)) ∨ (3 ≤ n.toInt ∧ n.toInt ≤ 12 ∧ th_octS (σ.2.2 0 8) n σ σ'))) := by
    intro σ' h1 h2 h3
    have e : th_oct n = 1 := if_pos ⟨h1, h2⟩
    refine wq_con (x := 1) rfl (by decide) ?_
    exact wp_reti rfl (th_n1 rfl) ⟨by rw [e], h3⟩
  have k42 : ∀ σ2 σ1 : tm_S, 3 ≤ n.toInt → n.toInt ≤ 12 → th_row0 17 (tm_sI σ 1 0 n) σ1 → σ2.1 = σ1.1 → th_lo (-1) σ1 σ2 → WP (d + 1) 1 42 [(0, .ref 0), (1, .int n)] [] σ2 (fun r σ' => r = some (.int (th_oct n)) ∧ ((σ' = σ ∧ (3 ≤ n.toInt → n.toInt ≤ 12 → σ.1 1 0 = n)) ∨ (3 ≤ n.toInt ∧ n.toInt ≤ 12 ∧ th_octS (σ.2.2 0 8) n σ σ'))) := by
    intro σ2 σ1 h1 h2 g1 g2 g3
    have hr : σ2.2.2 0 8 = σ.2.2 0 8 := by rw [g3.1, g1.2.2]; rfl
    rcases hc with hc | hc
    · refine wp_lda rfl tm_m0 ?_
      refine wq_getv rfl rfl (f := 8) rfl rfl ?_
      rw [show σ2.2.2 0 8 = 9 from hr.trans hc]
      refine wq_calv [] rfl rfl rfl rfl rfl rfl rfl rfl rfl th_clear9 ?_
      rintro _ _ ⟨rfl, rfl⟩
      exact k49 _ h1 h2 (Or.inr ⟨h1, h2, by rw [hc]; exact th_octS_mk (Or.inl rfl) g1 g2 g3⟩)
    · refine wp_lda rfl tm_m0 ?_
      refine wq_getv rfl rfl (f := 8) rfl rfl ?_
      rw [show σ2.2.2 0 8 = 10 from hr.trans hc]
      refine wq_calv [] rfl rfl rfl rfl rfl rfl rfl rfl rfl th_clear10 ?_
      rintro _ _ ⟨rfl, rfl⟩
      exact k49 _ h1 h2 (Or.inr ⟨h1, h2, by rw [hc]; exact th_octS_mk (Or.inr rfl) g1 g2 g3⟩)
  refine wp_ldi rfl tm_m1 ?_
  refine wq_con (x := 3) rfl (by decide) ?_
  refine wq_iclt rfl (fun h2 => ?_) (fun h2 => ?_)
  · have e11 : ¬ (3 ≤ n.toInt ∧ n.toInt ≤ 12) := fun e => by first | (have e2 : n.toInt < 3 := tn_ltI.mp h2; omega) | (have e8 : ¬ n.toInt ≤ 12 := fun g => h8 (tn_leI.mpr g); omega)
    refine wq_con (x := 0) rfl (by decide) ?_
    exact wp_reti rfl (th_n0 rfl) ⟨by rw [show th_oct n = 0 from if_neg e11], Or.inl ⟨rfl, fun x1 x2 => absurd ⟨x1, x2⟩ e11⟩⟩
  · have e2 : 3 ≤ n.toInt := by rw [tn_ltI] at h2; exact Int.not_lt.mp h2
    refine wp_ldi rfl tm_m1 ?_
    refine wq_con (x := 12) rfl (by decide) ?_
    refine wq_icle rfl (fun h8 => ?_) (fun h8 => ?_)
    · have e8 : n.toInt ≤ 12 := tn_leI.mp h8
      refine wp_ldi rfl tm_m1 ?_
      refine wp_lda rfl tm_m0 ?_
      refine wq_getr (p := 1) rfl rfl (f := 0) rfl rfl ?_
      refine wq_calv [] rfl rfl rfl rfl rfl rfl rfl rfl rfl (th_size) ?_
      rintro _ _ ⟨rfl, rfl⟩
      refine wq_iceq rfl (fun h21 => ?_) (fun h21 => ?_)
      · exact k49 _ e2 e8 (Or.inl ⟨rfl, fun _ _ => h21.symm⟩)
      · refine wp_lda rfl tm_m0 ?_
        refine wq_getr (p := 1) rfl rfl (f := 0) rfl rfl ?_
        refine wp_ldi rfl tm_m1 ?_
        refine wq_calv [.int n] rfl rfl rfl rfl rfl rfl rfl rfl rfl (th_resz) ?_
        rintro _ σ1 ⟨rfl, g1⟩
        refine wp_lda rfl tm_m0 ?_
        refine wq_getr (p := 12) rfl rfl (f := 5) rfl rfl ?_
        refine wq_lco (x := (-1)) rfl (by decide) ?_
        refine wq_cals [.ref 12, .long ((-1))] rfl rfl rfl rfl rfl rfl (th_fill) ?_
        rintro _ σ2 ⟨rfl, g2, g3⟩
        exact k42 _ _ e2 e8 g1 g2 g3
    · have e11 : ¬ (3 ≤ n.toInt ∧ n.toInt ≤ 12) := fun e => by first | (have e2 : n.toInt < 3 := tn_ltI.mp h2; omega) | (have e8 : ¬ n.toInt ≤ 12 := fun g => h8 (tn_leI.mpr g); omega)
      refine wq_con (x := 0) rfl (by decide) ?_
      exact wp_reti rfl (th_n0 rfl) ⟨by rw [show th_oct n = 0 from if_neg e11], Or.inl ⟨rfl, fun x1 x2 => absurd ⟨x1, x2⟩ e11⟩⟩
set_option maxRecDepth 100000 in
set_option maxHeartbeats 4000000 in
theorem th_moct {d : Nat} {σ : tm_S} {n : Int32} : WM d 160 [.ref 11, .int n] σ (fun r σ' => r = some (.int (th_oct n)) ∧ (σ' = tm_sI σ 11 0 0 ∨ (3 ≤ n.toInt ∧ n.toInt ≤ 12 ∧ ∃ σ1, th_row0 50 (tm_sI (tm_sI σ 11 0 0) 11 1 n) σ1 ∧ σ' = tm_sI (tm_sI (tm_sI σ1 11 23 0) 11 26 0) 11 11 0))) := by
  have k25 : ∀ (m : Nat) (i : Int32) (σ1 : tm_S), 3 ≤ n.toInt → n.toInt ≤ 12 → th_row0 50 (tm_sI (tm_sI σ 11 0 0) 11 1 n) σ1 → 0 ≤ i.toInt → 6 ≤ i.toInt + m → WP d 160 25 [(2, .int i), (0, .ref 11), (1, .int n)] [] σ1 (fun r σ' => r = some (.int (th_oct n)) ∧ (σ' = tm_sI σ 11 0 0 ∨ (3 ≤ n.toInt ∧ n.toInt ≤ 12 ∧ ∃ σ1, th_row0 50 (tm_sI (tm_sI σ 11 0 0) 11 1 n) σ1 ∧ σ' = tm_sI (tm_sI (tm_sI σ1 11 23 0) 11 26 0) 11 11 0))) := by
    intro m
    induction m with
    | zero =>
      intro i σ1 c1 c2 e1 h1 h2
      have e : th_oct n = 1 := if_pos ⟨c1, c2⟩
      refine wp_ldi rfl tm_m0 ?_
      refine wq_con (x := 6) rfl (by decide) ?_
      refine wq_icge rfl (fun h28 => ?_) (fun h28 => absurd (tn_leI.mpr (by show (6 : Int) ≤ _; omega)) h28)
      refine wp_lda rfl tm_m1 ?_
      refine wq_con (x := 0) rfl (by decide) ?_
      refine wq_puti rfl rfl (f := 23) rfl rfl ?_
      refine wp_lda rfl tm_m1 ?_
      refine wq_con (x := 0) rfl (by decide) ?_
      refine wq_puti rfl rfl (f := 26) rfl rfl ?_
      refine wp_lda rfl tm_m1 ?_
      refine wq_con (x := 0) rfl (by decide) ?_
      refine wq_puti rfl rfl (f := 11) rfl rfl ?_
      refine wq_con (x := 1) rfl (by decide) ?_
      exact wp_reti rfl (th_n1 rfl) ⟨by rw [e], Or.inr ⟨c1, c2, σ1, e1, rfl⟩⟩
    | succ m ih =>
      intro i σ1 c1 c2 e1 h1 h2
      have e : th_oct n = 1 := if_pos ⟨c1, c2⟩
      refine wp_ldi rfl tm_m0 ?_
      refine wq_con (x := 6) rfl (by decide) ?_
      refine wq_icge rfl (fun h28 => ?_) (fun h28 => ?_)
      · refine wp_lda rfl tm_m1 ?_
        refine wq_con (x := 0) rfl (by decide) ?_
        refine wq_puti rfl rfl (f := 23) rfl rfl ?_
        refine wp_lda rfl tm_m1 ?_
        refine wq_con (x := 0) rfl (by decide) ?_
        refine wq_puti rfl rfl (f := 26) rfl rfl ?_
        refine wp_lda rfl tm_m1 ?_
        refine wq_con (x := 0) rfl (by decide) ?_
        refine wq_puti rfl rfl (f := 11) rfl rfl ?_
        refine wq_con (x := 1) rfl (by decide) ?_
        exact wp_reti rfl (th_n1 rfl) ⟨by rw [e], Or.inr ⟨c1, c2, σ1, e1, rfl⟩⟩
      · have e28 : i.toInt < 6 := by rw [tn_leI] at h28; exact Int.not_le.mp h28
        have e3 := tn_add1 (x := i) (by omega)
        refine wp_lda rfl tm_m1 ?_
        refine wq_getr (p := 50) rfl rfl (f := 9) rfl rfl ?_
        refine wp_ldi rfl tm_m0 ?_
        refine wq_con (x := 0) rfl (by decide) ?_
        refine wp_zast rfl rfl (tn_in h1 (by omega)) (Or.inl rfl) ?_
        refine wq_inc (c := 1) [(2, .int (i + 1)), (0, .ref 11), (1, .int n)] rfl tm_m0 rfl rfl ?_
        refine wp_go rfl ?_
        exact WP.less (ih (i + 1) _ c1 c2 (th_row0_st e1) (by omega) (by omega)) (by simp)
  show WP d 160 0 [(0, .ref 11), (1, .int n)] [] σ _
  refine wp_lda rfl tm_m0 ?_
  refine wq_con (x := 0) rfl (by decide) ?_
  refine wq_puti rfl rfl (f := 0) rfl rfl ?_
  refine wp_ldi rfl tm_m1 ?_
  refine wq_con (x := 3) rfl (by decide) ?_
  refine wq_iclt rfl (fun h7 => ?_) (fun h7 => ?_)
  · have e16 : ¬ (3 ≤ n.toInt ∧ n.toInt ≤ 12) := fun e => by first | (have e2 : n.toInt < 3 := tn_ltI.mp h7; omega) | (have e8 : ¬ n.toInt ≤ 12 := fun g => h13 (tn_leI.mpr g); omega)
    refine wq_con (x := 0) rfl (by decide) ?_
    exact wp_reti rfl (th_n0 rfl) ⟨by rw [show th_oct n = 0 from if_neg e16], Or.inl rfl⟩
  · have e7 : 3 ≤ n.toInt := by rw [tn_ltI] at h7; exact Int.not_lt.mp h7
    refine wp_ldi rfl tm_m1 ?_
    refine wq_con (x := 12) rfl (by decide) ?_
    refine wq_icle rfl (fun h13 => ?_) (fun h13 => ?_)
    · have e13 : n.toInt ≤ 12 := tn_leI.mp h13
      refine wp_lda rfl tm_m0 ?_
      refine wp_ldi rfl tm_m1 ?_
      refine wq_puti rfl rfl (f := 1) rfl rfl ?_
      refine wq_con (x := 0) rfl (by decide) ?_
      refine wq_sti [(2, .int 0), (0, .ref 11), (1, .int n)] rfl rfl ?_
      exact WP.less (k25 6 0 _ e7 e13 th_row0_rf (by decide) (by decide)) (by simp)
    · have e16 : ¬ (3 ≤ n.toInt ∧ n.toInt ≤ 12) := fun e => by first | (have e2 : n.toInt < 3 := tn_ltI.mp h7; omega) | (have e8 : ¬ n.toInt ≤ 12 := fun g => h13 (tn_leI.mpr g); omega)
      refine wq_con (x := 0) rfl (by decide) ?_
      exact wp_reti rfl (th_n0 rfl) ⟨by rw [show th_oct n = 0 from if_neg e16], Or.inl rfl⟩
