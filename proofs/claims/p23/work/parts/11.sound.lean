/-! ===== the checker is right: the meaning of its states ===== -/
theorem tv_le_iff (a b : Int) : tv_le a b = true ↔ a ≤ b := by
  cases a with
  | ofNat m =>
    cases b with
    | ofNat n => show Nat.ble m n = true ↔ (m : Int) ≤ (n : Int); rw [Nat.ble_eq]; omega
    | negSucc n =>
      show false = true ↔ (m : Int) ≤ Int.negSucc n
      constructor
      · intro h; cases h
      · intro h; omega
  | negSucc m =>
    cases b with
    | ofNat n =>
      show true = true ↔ Int.negSucc m ≤ (n : Int)
      constructor
      · intro _; omega
      · intro _; rfl
    | negSucc n => show Nat.ble n m = true ↔ Int.negSucc m ≤ Int.negSucc n; rw [Nat.ble_eq]; omega
theorem tv_eq_iff (a b : Int) : tv_eq a b = true ↔ a = b := by
  unfold tv_eq
  rw [Bool.and_eq_true, tv_le_iff, tv_le_iff]
  omega
theorem tv_mx_eq (a b : Int) : tv_mx a b = max a b := by
  unfold tv_mx
  cases h : tv_le a b with
  | true => have := (tv_le_iff a b).mp h; simp only [cond_true]; omega
  | false => have := mt (tv_le_iff a b).mpr (by rw [h]; decide); simp only [cond_false]; omega
theorem tv_mn_eq (a b : Int) : tv_mn a b = min a b := by
  unfold tv_mn
  cases h : tv_le a b with
  | true => have := (tv_le_iff a b).mp h; simp only [cond_true]; omega
  | false => have := mt (tv_le_iff a b).mpr (by rw [h]; decide); simp only [cond_false]; omega
theorem tv_beq {a b : Nat} (h : Nat.beq a b = true) : a = b := Nat.eq_of_beq_eq_true h
def tv_gE (ρ : List Int) (E : tv_E) : Prop := ρ.length = E.length ∧ ∀ (v : Nat) (m : Int) (q : Int × Int), ρ[v]? = some m → E[v]? = some q → q.1 ≤ m ∧ m ≤ q.2
def tv_gv (ρ : List Int) (a : tv_A) (x : Value) : Prop :=
  (a.1 = 1 ∧ ∃ (n : Int32) (m : Int), x = .int n ∧ ρ[a.2.1]? = some m ∧ n.toInt = m + a.2.2) ∨ (a.1 = 2 ∧ ∃ n : Int64, x = .long n) ∨ (a.1 = 3 ∧ ∃ k : Nat, x = .ref k ∧ a.2.1 ≤ k ∧ (k : Int) ≤ a.2.2)
def tv_gs (ρ : List Int) : List tv_A → List Value → Prop
  | [], [] => True
  | a :: S, x :: st => tv_gv ρ a x ∧ tv_gs ρ S st
  | _, _ => False
def tv_kd (k j : Nat) : Option Nat := match tt_shp[k]? with
  | some (.inl q) => q.2[j]?
  | _ => none
def tv_gF (ρ : List Int) (q : (Nat × Nat) × tv_A) (σ : tm_S) : Prop := ∀ kd, tv_kd q.1.1 q.1.2 = some kd → tv_gv ρ q.2 (tm_val σ q.1.1 q.1.2 kd)
def tv_TY (T : tv_TT) (σ : tm_S) : Prop := (∀ k j : Nat, (tv_ti T k j).1 ≤ (σ.1 k j).toInt ∧ (σ.1 k j).toInt ≤ (tv_ti T k j).2) ∧ ∀ q ∈ tv_rt, q.2.1 ≤ σ.2.2 q.1.1 q.1.2 ∧ σ.2.2 q.1.1 q.1.2 ≤ q.2.2.1
def tv_un (σ0 σ : tm_S) (w : List (Nat × Nat)) : Prop := (∀ k j kd : Nat, tv_kd k j = some kd → tv_mem w k j = false → tm_val σ k j kd = tm_val σ0 k j kd) ∧ ∀ (k : Nat) (q : Nat × Nat), tt_shp[k]? = some (.inr q) → tv_mem w k 64 = false → σ.1 k = σ0.1 k ∧ σ.2.1 k = σ0.2.1 k
def tv_g (T : tv_TT) (c : tv_C) (A0 : List (Nat × Value)) (σ0 : tm_S) (ρ0 ρ : List Int) (E : tv_E) (L S : List tv_A) (F : tv_F) (ls : List (Nat × Value)) (st : List Value) (σ : tm_S) : Prop :=
  tv_gE ρ E ∧ (∀ (i : Nat) (m : Int), ρ0[i]? = some m → ρ[i]? = some m) ∧ (∀ (i : Nat) (a : tv_A), L[i]? = some a → a.1 ≠ 0 → ∃ x, (i, x) ∈ ls ∧ tv_gv ρ a x) ∧ tv_gs ρ S st ∧ (∀ q ∈ F, tv_gF ρ q σ) ∧ (tv_TY T σ ∧ tv_un σ0 σ c.2.2.2.2.1) ∧ (∀ q ∈ A0, tv_kp c.1 q.1 = true → ¬ q.2.category = 2 → q ∈ ls) ∧ (∀ (i : Nat) (x y : Value), (i, x) ∈ ls → (i, y) ∈ ls → x = y)
def tv_SD (T : tv_TT) (c : tv_C) (A0 : List (Nat × Value)) (σ0 : tm_S) (ρ0 : List Int) (Q : Option Value → tm_S → Prop) (pc : Nat) (E : tv_E) (L S : List tv_A) (F : tv_F) : Prop :=
  ∀ (ρ : List Int) (ls : List (Nat × Value)) (st : List Value) (σ : tm_S), tv_g T c A0 σ0 ρ0 ρ E L S F ls st σ → WP c.2.2.2.2.2 c.1 pc ls st σ Q
theorem tv_gv_ext {ρ : List Int} {a : tv_A} {x : Value} (m : Int) (h : tv_gv ρ a x) : tv_gv (ρ ++ [m]) a x := by
  rcases h with ⟨h1, n, k, h2, h3, h4⟩ | h | h
  · refine Or.inl ⟨h1, n, k, h2, ?_, h4⟩
    rw [List.getElem?_append_left (List.getElem?_eq_some_iff.mp h3).1]
    exact h3
  · exact Or.inr (Or.inl h)
  · exact Or.inr (Or.inr h)
theorem tv_gs_ext {ρ : List Int} (m : Int) : ∀ {S : List tv_A} {st : List Value}, tv_gs ρ S st → tv_gs (ρ ++ [m]) S st
  | [], [], _ => trivial
  | _ :: _, _ :: _, h => ⟨tv_gv_ext m h.1, tv_gs_ext m h.2⟩
  | [], _ :: _, h => h.elim
  | _ :: _, [], h => h.elim
theorem tv_gE_ext {ρ : List Int} {E : tv_E} (h : tv_gE ρ E) {m : Int} {r : Int × Int} (h1 : r.1 ≤ m) (h2 : m ≤ r.2) : tv_gE (ρ ++ [m]) (E ++ [r]) := by
  refine ⟨by simp [h.1], fun v k q hk hq => ?_⟩
  by_cases hv : v < ρ.length
  · rw [List.getElem?_append_left hv] at hk
    rw [List.getElem?_append_left (by rw [← h.1]; exact hv)] at hq
    exact h.2 v k q hk hq
  · rw [List.getElem?_append_right (by omega)] at hk
    rw [List.getElem?_append_right (by rw [← h.1]; omega)] at hq
    have hz : v - ρ.length < 1 := (List.getElem?_eq_some_iff.mp hk).1
    rw [show v - ρ.length = 0 by omega] at hk
    rw [← h.1, show v - ρ.length = 0 by omega] at hq
    cases hk
    cases hq
    exact ⟨h1, h2⟩
section TVG
variable {T : tv_TT} {c : tv_C} {A0 : List (Nat × Value)} {σ0 : tm_S} {ρ0 ρ : List Int} {E : tv_E} {L S : List tv_A} {F : tv_F} {ls : List (Nat × Value)} {st : List Value} {σ : tm_S} {Q : Option Value → tm_S → Prop}
theorem tv_push (g : tv_g T c A0 σ0 ρ0 ρ E L S F ls st σ) {a : tv_A} {x : Value} (hv : tv_gv ρ a x) : tv_g T c A0 σ0 ρ0 ρ E L (a :: S) F ls (x :: st) σ := ⟨g.1, g.2.1, g.2.2.1, ⟨hv, g.2.2.2.1⟩, g.2.2.2.2⟩
theorem tv_pop {a : tv_A} (g : tv_g T c A0 σ0 ρ0 ρ E L (a :: S) F ls st σ) : ∃ (x : Value) (st' : List Value), st = x :: st' ∧ tv_gv ρ a x ∧ tv_g T c A0 σ0 ρ0 ρ E L S F ls st' σ := by
  cases st with
  | nil => exact g.2.2.2.1.elim
  | cons x st' => exact ⟨x, st', rfl, g.2.2.2.1.1, g.1, g.2.1, g.2.2.1, g.2.2.2.1.2, g.2.2.2.2⟩
theorem tv_ext (g : tv_g T c A0 σ0 ρ0 ρ E L S F ls st σ) {m : Int} {r : Int × Int} (h1 : r.1 ≤ m) (h2 : m ≤ r.2) : tv_g T c A0 σ0 ρ0 (ρ ++ [m]) (E ++ [r]) L S F ls st σ := by
  refine ⟨tv_gE_ext g.1 h1 h2, fun i k hk => ?_, fun i a ha hn => ?_, tv_gs_ext m g.2.2.2.1, fun q hq kd hkd => tv_gv_ext m (g.2.2.2.2.1 q hq kd hkd), g.2.2.2.2.2⟩
  · have h3 := g.2.1 i k hk
    rw [List.getElem?_append_left (List.getElem?_eq_some_iff.mp h3).1]
    exact h3
  · obtain ⟨x, hx, hv⟩ := g.2.2.1 i a ha hn
    exact ⟨x, hx, tv_gv_ext m hv⟩
theorem tv_gv_new (h : tv_gE ρ E) (x : Int32) : tv_gv (ρ ++ [x.toInt]) (1, E.length, 0) (.int x) := by
  refine Or.inl ⟨rfl, x, x.toInt, rfl, ?_, by simp⟩
  show (ρ ++ [x.toInt])[E.length]? = some x.toInt
  rw [← h.1, List.getElem?_append_right (Nat.le_refl _)]
  simp
theorem tv_new (g : tv_g T c A0 σ0 ρ0 ρ E L S F ls st σ) {x : Int32} {r : Int × Int} (h1 : r.1 ≤ x.toInt) (h2 : x.toInt ≤ r.2) : tv_g T c A0 σ0 ρ0 (ρ ++ [x.toInt]) (E ++ [r]) L ((1, E.length, 0) :: S) F ls (.int x :: st) σ := tv_push (tv_ext g h1 h2) (tv_gv_new g.1 x)
theorem tv_gi {a : tv_A} {x : Value} (h : tv_gv ρ a x) (ha : a.1 = 1) : ∃ (n : Int32) (m : Int), x = .int n ∧ ρ[a.2.1]? = some m ∧ n.toInt = m + a.2.2 := by
  rcases h with ⟨-, h⟩ | ⟨e, -⟩ | ⟨e, -⟩
  · exact h
  · omega
  · omega
theorem tv_gl {a : tv_A} {x : Value} (h : tv_gv ρ a x) (ha : a.1 = 2) : ∃ n : Int64, x = .long n := by
  rcases h with ⟨e, -⟩ | ⟨-, h⟩ | ⟨e, -⟩
  · omega
  · exact h
  · omega
theorem tv_gr {a : tv_A} {x : Value} (h : tv_gv ρ a x) (ha : a.1 = 3) : ∃ k : Nat, x = .ref k ∧ a.2.1 ≤ k ∧ (k : Int) ≤ a.2.2 := by
  rcases h with ⟨e, -⟩ | ⟨e, -⟩ | ⟨-, h⟩
  · omega
  · omega
  · exact h
theorem tv_long (n : Int64) : tv_gv ρ (2, 0, 0) (.long n) := Or.inr (Or.inl ⟨rfl, n, rfl⟩)
theorem tv_ref (k : Nat) : tv_gv ρ (3, k, (k : Int)) (.ref k) := Or.inr (Or.inr ⟨rfl, k, rfl, Nat.le_refl _, Int.le_refl _⟩)
theorem tv_iv_ok {a : tv_A} {x : Value} {q : Int × Int} (h : tv_iv E a = some q) (hE : tv_gE ρ E) (hv : tv_gv ρ a x) : a.1 = 1 ∧ ∃ (n : Int32) (m : Int), x = .int n ∧ ρ[a.2.1]? = some m ∧ n.toInt = m + a.2.2 ∧ q.1 ≤ n.toInt ∧ n.toInt ≤ q.2 := by
  unfold tv_iv at h
  split at h
  · rename_i v o
    split at h
    · rename_i r hr
      cases h
      obtain ⟨n, m, h1, h2, h3⟩ := tv_gi hv rfl
      have h4 := hE.2 v m r h2 hr
      exact ⟨rfl, n, m, h1, h2, h3, by dsimp only at h3 ⊢; omega, by dsimp only at h3 ⊢; omega⟩
    · cases h
  · cases h
theorem tv_zero_ok {nL : Nat} (h : tv_zero E nL = true) (hE : tv_gE ρ E) : ρ[nL]? = some 0 := by
  unfold tv_zero at h
  split at h
  · rename_i q hq
    simp only [Bool.and_eq_true, tv_eq_iff] at h
    have hl : nL < ρ.length := by rw [hE.1]; exact (List.getElem?_eq_some_iff.mp hq).1
    have h1 := List.getElem?_eq_getElem hl
    have h2 := hE.2 nL _ q h1 hq
    rw [h1, show ρ[nL] = 0 by omega]
  · cases h
theorem tv_cut_ok {a : tv_A} {n : Int32} {m lo hi : Int} (hE : tv_gE ρ E) (hm : ρ[a.2.1]? = some m) (hn : n.toInt = m + a.2.2) (h1 : lo ≤ n.toInt) (h2 : n.toInt ≤ hi) : ∃ E1, tv_cut E a lo hi = some E1 ∧ tv_gE ρ E1 := by
  have hl : a.2.1 < E.length := by rw [← hE.1]; exact (List.getElem?_eq_some_iff.mp hm).1
  have hq := List.getElem?_eq_getElem hl
  have h3 := hE.2 _ m _ hm hq
  unfold tv_cut
  rw [hq]
  simp only [tv_mx_eq, tv_mn_eq]
  have h4 : tv_le (max E[a.2.1].1 (lo - a.2.2)) (min E[a.2.1].2 (hi - a.2.2)) = true := by rw [tv_le_iff]; omega
  rw [h4]
  refine ⟨_, rfl, by simpa using hE.1, fun v k q hk hq2 => ?_⟩
  by_cases hv : a.2.1 = v
  · subst hv
    rw [List.getElem?_set_self hl] at hq2
    cases hq2
    rw [hm] at hk
    cases hk
    dsimp only
    omega
  · rw [List.getElem?_set_ne hv] at hq2
    exact hE.2 v k q hk hq2
end TVG
