theorem tm_m0 {α : Type} {a : α} {l : List α} : a ∈ a :: l := List.mem_cons_self
theorem tm_m1 {α : Type} {x0 a : α} {l : List α} : a ∈ x0 ::  a :: l := List.mem_cons_of_mem _ tm_m0
theorem tm_m2 {α : Type} {x0 x1 a : α} {l : List α} : a ∈ x0 :: x1 ::  a :: l := List.mem_cons_of_mem _ tm_m1
theorem tm_m3 {α : Type} {x0 x1 x2 a : α} {l : List α} : a ∈ x0 :: x1 :: x2 ::  a :: l := List.mem_cons_of_mem _ tm_m2
theorem tm_m4 {α : Type} {x0 x1 x2 x3 a : α} {l : List α} : a ∈ x0 :: x1 :: x2 :: x3 ::  a :: l := List.mem_cons_of_mem _ tm_m3
theorem tm_m5 {α : Type} {x0 x1 x2 x3 x4 a : α} {l : List α} : a ∈ x0 :: x1 :: x2 :: x3 :: x4 ::  a :: l := List.mem_cons_of_mem _ tm_m4
theorem tm_m6 {α : Type} {x0 x1 x2 x3 x4 x5 a : α} {l : List α} : a ∈ x0 :: x1 :: x2 :: x3 :: x4 :: x5 ::  a :: l := List.mem_cons_of_mem _ tm_m5
theorem tm_m7 {α : Type} {x0 x1 x2 x3 x4 x5 x6 a : α} {l : List α} : a ∈ x0 :: x1 :: x2 :: x3 :: x4 :: x5 :: x6 ::  a :: l := List.mem_cons_of_mem _ tm_m6
theorem tm_m8 {α : Type} {x0 x1 x2 x3 x4 x5 x6 x7 a : α} {l : List α} : a ∈ x0 :: x1 :: x2 :: x3 :: x4 :: x5 :: x6 :: x7 ::  a :: l := List.mem_cons_of_mem _ tm_m7
theorem tm_m9 {α : Type} {x0 x1 x2 x3 x4 x5 x6 x7 x8 a : α} {l : List α} : a ∈ x0 :: x1 :: x2 :: x3 :: x4 :: x5 :: x6 :: x7 :: x8 ::  a :: l := List.mem_cons_of_mem _ tm_m8
theorem tm_m10 {α : Type} {x0 x1 x2 x3 x4 x5 x6 x7 x8 x9 a : α} {l : List α} : a ∈ x0 :: x1 :: x2 :: x3 :: x4 :: x5 :: x6 :: x7 :: x8 :: x9 ::  a :: l := List.mem_cons_of_mem _ tm_m9
theorem tm_m11 {α : Type} {x0 x1 x2 x3 x4 x5 x6 x7 x8 x9 x10 a : α} {l : List α} : a ∈ x0 :: x1 :: x2 :: x3 :: x4 :: x5 :: x6 :: x7 :: x8 :: x9 :: x10 ::  a :: l := List.mem_cons_of_mem _ tm_m10
theorem tm_m12 {α : Type} {x0 x1 x2 x3 x4 x5 x6 x7 x8 x9 x10 x11 a : α} {l : List α} : a ∈ x0 :: x1 :: x2 :: x3 :: x4 :: x5 :: x6 :: x7 :: x8 :: x9 :: x10 :: x11 ::  a :: l := List.mem_cons_of_mem _ tm_m11
theorem tm_m13 {α : Type} {x0 x1 x2 x3 x4 x5 x6 x7 x8 x9 x10 x11 x12 a : α} {l : List α} : a ∈ x0 :: x1 :: x2 :: x3 :: x4 :: x5 :: x6 :: x7 :: x8 :: x9 :: x10 :: x11 :: x12 ::  a :: l := List.mem_cons_of_mem _ tm_m12
theorem th_nI {j : Nat} {x : Int32} (h : tt_r j = some .int) : ∀ ty, tt_r j = some ty → narrow ty (.int x) = .int x := by
  intro ty ht
  rw [h] at ht
  cases ht
  rfl
theorem th_nT {j : Nat} {x : Int32} (t : FieldType) (h : tt_r j = some t) (hx : narrow t (.int x) = .int x) : ∀ ty, tt_r j = some ty → narrow ty (.int x) = .int x := by
  intro ty ht
  rw [h] at ht
  cases ht
  exact hx
theorem th_n1 {j : Nat} (h : tt_r j = some .boolean) : ∀ ty, tt_r j = some ty → narrow ty (.int 1) = .int 1 := th_nT .boolean h rfl
theorem th_n0 {j : Nat} (h : tt_r j = some .boolean) : ∀ ty, tt_r j = some ty → narrow ty (.int 0) = .int 0 := th_nT .boolean h rfl
/-- the answer is v, the store as it was -/
def th_is (v : Value) (σ : tm_S) (r : Option Value) (σ' : tm_S) : Prop := r = some v ∧ σ = σ'

set_option maxRecDepth 100000 in
set_option maxHeartbeats 4000000 in
theorem th_coder {d : Nat} {σ : tm_S} {q : Nat} (hq : q < tt_NS) : WM d 106 [.ref (tt_ST + q)] σ (th_is (.int 0) σ) := by
  show WP d 106 0 [(0, .ref (tt_ST + q))] [] σ _
  refine wp_gsC rfl ?_
  refine wq_ifeq rfl (fun h3 => absurd h3 (by decide)) (fun h3 => ?_)
  refine wp_lda rfl tm_m0 ?_
  refine wp_sfC rfl hq ?_
  refine wp_go rfl ?_
  exact wp_reti rfl (th_nT .byte rfl rfl) ⟨rfl, rfl⟩
set_option maxRecDepth 100000 in
set_option maxHeartbeats 4000000 in
theorem th_isL {d : Nat} {σ : tm_S} {q : Nat} (hq : q < tt_NS) : WM d 108 [.ref (tt_ST + q)] σ (th_is (.int 1) σ) := by
  show WP d 108 0 [(0, .ref (tt_ST + q))] [] σ _
  refine wp_gsC rfl ?_
  refine wq_ifeq rfl (fun h3 => absurd h3 (by decide)) (fun h3 => ?_)
  refine wp_lda rfl tm_m0 ?_
  refine wp_sfC rfl hq ?_
  refine wq_ifne rfl (fun h10 => absurd rfl h10) (fun h10 => ?_)
  refine wq_con (x := 1) rfl (by decide) ?_
  refine wp_go rfl ?_
  exact wp_reti rfl (th_nT .boolean rfl rfl) ⟨rfl, rfl⟩
theorem th_sh0 (x : Int32) : x >>> ((0 : Int32) &&& 31) = x := by
  apply Int32.toInt_inj.mp
  rw [tn_shr]
  show x.toInt / ((1 : Nat) : Int) = x.toInt
  omega
set_option maxRecDepth 100000 in
set_option maxHeartbeats 4000000 in
theorem th_len {d : Nat} {σ : tm_S} {q : Nat} (hq : q < tt_NS) : WM (d + 1) 105 [.ref (tt_ST + q)] σ (th_is (.int (Int32.ofNat (tt_len.getD q 0))) σ) := by
  show WP (d + 1) 105 0 [(0, .ref (tt_ST + q))] [] σ _
  refine wp_lda rfl tm_m0 ?_
  refine wp_sfV rfl hq ?_
  refine wp_slen rfl hq ?_
  refine wp_lda rfl tm_m0 ?_
  refine wq_calS [] rfl rfl rfl rfl rfl rfl rfl hq (th_coder hq) ?_
  rintro _ _ ⟨rfl, rfl⟩
  refine wq_ishr rfl ?_
  rw [th_sh0]
  exact wp_reti rfl (th_nI rfl) ⟨rfl, rfl⟩
set_option maxRecDepth 100000 in
set_option maxHeartbeats 4000000 in
theorem th_ck0 {d : Nat} {σ : tm_S} {i n : Int32} (hi0 : ¬ i < 0) (hi1 : i < n) : WM d 111 [.int i, .int n, .null] σ (th_is (.int i) σ) := by
  show WP d 111 0 [(0, .int i), (1, .int n), (2, .null)] [] σ _
  refine wp_ldi rfl tm_m0 ?_
  refine wq_iflt rfl (fun h1 => absurd h1 hi0) (fun h1 => ?_)
  refine wp_ldi rfl tm_m0 ?_
  refine wp_ldi rfl tm_m1 ?_
  refine wq_iclt rfl (fun h6 => ?_) (fun h6 => absurd hi1 h6)
  refine wp_ldi rfl tm_m0 ?_
  exact wp_reti rfl (th_nI rfl) ⟨rfl, rfl⟩
set_option maxRecDepth 100000 in
set_option maxHeartbeats 4000000 in
theorem th_ck1 {d : Nat} {σ : tm_S} {i n : Int32} (hi0 : ¬ i < 0) (hi1 : i < n) : WM d 111 [.int i, .int n, .ref tt_XQ] σ (th_is (.int i) σ) := by
  show WP d 111 0 [(0, .int i), (1, .int n), (2, .ref tt_XQ)] [] σ _
  refine wp_ldi rfl tm_m0 ?_
  refine wq_iflt rfl (fun h1 => absurd h1 hi0) (fun h1 => ?_)
  refine wp_ldi rfl tm_m0 ?_
  refine wp_ldi rfl tm_m1 ?_
  refine wq_iclt rfl (fun h6 => ?_) (fun h6 => absurd hi1 h6)
  refine wp_ldi rfl tm_m0 ?_
  exact wp_reti rfl (th_nI rfl) ⟨rfl, rfl⟩
def th_un (σ : tm_S) (r : Option Value) (σ' : tm_S) : Prop := r = none ∧ σ = σ'
set_option maxRecDepth 100000 in
set_option maxHeartbeats 4000000 in
theorem th_ckS {d : Nat} {σ : tm_S} {i n : Int32} (h0 : ¬ i < 0) (h1 : i < n) : WM (d + 1) 110 [.int i, .int n] σ (th_un σ) := by
  show WP (d + 1) 110 0 [(0, .int i), (1, .int n)] [] σ _
  refine wp_ldi rfl tm_m0 ?_
  refine wp_ldi rfl tm_m1 ?_
  refine wp_gsQ rfl ?_ ?_
  · refine wq_cals [.int i, .int n, .null] rfl rfl rfl rfl rfl rfl (th_ck0 h0 h1) ?_
    rintro _ _ ⟨rfl, rfl⟩
    refine wp_pop rfl rfl ?_
    exact wp_retv rfl ⟨rfl, rfl⟩
  · refine wq_cals [.int i, .int n, .ref tt_XQ] rfl rfl rfl rfl rfl rfl (th_ck1 h0 h1) ?_
    rintro _ _ ⟨rfl, rfl⟩
    refine wp_pop rfl rfl ?_
    exact wp_retv rfl ⟨rfl, rfl⟩
def th_chr (q : Nat) (i : Int32) : Int32 := (((tt_byt.getD q []).getD i.toNatClampNeg 0 &&& 255).toUInt32 % 65536).toInt32
theorem th_lt {i : Int32} {n : Nat} (hn : n ≤ 2147483647) (h : vp_in i n) : i < Int32.ofNat n := by
  have h1 := vp_in_iff.mp h
  rw [Int32.lt_iff_toInt_lt, tn_ofNat hn]
  exact h1.2
theorem th_n0' {i : Int32} {n : Nat} (h : vp_in i n) : ¬ i < 0 := fun e => h (Or.inl e)
theorem th_sln {q : Nat} : tt_len.getD q 0 ≤ 2147483647 := by
  have h : ∀ x ∈ tt_len, x ≤ 2147483647 := by decide +kernel
  rw [List.getD_eq_getElem?_getD]
  cases e : tt_len[q]? with
  | none => decide
  | some x => exact h x (List.mem_of_getElem? e)
set_option maxRecDepth 100000 in
set_option maxHeartbeats 4000000 in
theorem th_cL {d : Nat} {σ : tm_S} {q : Nat} (hq : q < tt_NS) {i : Int32} (hi : vp_in i (tt_len.getD q 0)) : WM (d + 2) 109 [.ref (tt_SV + q), .int i] σ (th_is (.int (th_chr q i)) σ) := by
  show WP (d + 2) 109 0 [(0, .ref (tt_SV + q)), (1, .int i)] [] σ _
  refine wp_ldi rfl tm_m1 ?_
  refine wp_lda rfl tm_m0 ?_
  refine wp_slen rfl hq ?_
  refine wq_cals [.int i, .int (Int32.ofNat (tt_len.getD q 0))] rfl rfl rfl rfl rfl rfl (th_ckS (th_n0' hi) (th_lt th_sln hi)) ?_
  rintro _ _ ⟨rfl, rfl⟩
  refine wp_lda rfl tm_m0 ?_
  refine wp_ldi rfl tm_m1 ?_
  refine wp_sald rfl hq (hi) ?_
  refine wq_con (x := 255) rfl (by decide) ?_
  refine wq_iand rfl ?_
  refine wp_i2c rfl ?_
  exact wp_reti rfl (th_nT .char rfl (pk_nc _)) ⟨rfl, rfl⟩
set_option maxRecDepth 100000 in
set_option maxHeartbeats 4000000 in
theorem th_chA {d : Nat} {σ : tm_S} {q : Nat} (hq : q < tt_NS) {i : Int32} (hi : vp_in i (tt_len.getD q 0)) : WM (d + 3) 107 [.ref (tt_ST + q), .int i] σ (th_is (.int (th_chr q i)) σ) := by
  show WP (d + 3) 107 0 [(0, .ref (tt_ST + q)), (1, .int i)] [] σ _
  refine wp_lda rfl tm_m0 ?_
  refine wq_calS [] rfl rfl rfl rfl rfl rfl rfl hq (th_isL hq) ?_
  rintro _ _ ⟨rfl, rfl⟩
  refine wq_ifeq rfl (fun h4 => absurd h4 (by decide)) (fun h4 => ?_)
  refine wp_lda rfl tm_m0 ?_
  refine wp_sfV rfl hq ?_
  refine wp_ldi rfl tm_m1 ?_
  refine wq_cals [.ref (tt_SV + q), .int i] rfl rfl rfl rfl rfl rfl (th_cL hq hi) ?_
  rintro _ _ ⟨rfl, rfl⟩
  exact wp_reti rfl (th_nT .char rfl (pk_nc _)) ⟨rfl, rfl⟩
