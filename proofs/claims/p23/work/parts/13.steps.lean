/-! ===== each handler is right ===== -/
section TVS
variable {T : tv_TT} {c : tv_C} {A0 : List (Nat × Value)} {σ0 : tm_S} {ρ0 : List Int} {Q : Option Value → tm_S → Prop} {rc : tv_rc} {pc n a : Nat} {z : Int} {zz : List (Int × Nat)} {E : tv_E} {L S : List tv_A} {F : tv_F}
theorem ts_ldi (R : ∀ pc E L S F, rc pc E L S F = true → tv_SD T c A0 σ0 ρ0 Q pc E L S F) (h : tt_at c.1 pc = some ((0, a, z, zz), n)) (hk : tv_hld a rc (pc + n) E L S F 1 = true) : tv_SD T c A0 σ0 ρ0 Q pc E L S F := by
  intro ρ ls st σ g
  unfold tv_hld at hk
  split at hk
  · rename_i b hL
    rw [Bool.and_eq_true] at hk
    have hb : b.1 = 1 := tv_beq hk.1
    obtain ⟨x, hx, hg⟩ := g.2.2.1 a b hL (by omega)
    obtain ⟨n0, m, rfl, -⟩ := tv_gi hg hb
    exact wp_ldi h hx (R _ _ _ _ _ hk.2 ρ ls _ σ (tv_push g hg))
  · cases hk
theorem ts_ldl (R : ∀ pc E L S F, rc pc E L S F = true → tv_SD T c A0 σ0 ρ0 Q pc E L S F) (h : tt_at c.1 pc = some ((1, a, z, zz), n)) (hk : tv_hld a rc (pc + n) E L S F 2 = true) : tv_SD T c A0 σ0 ρ0 Q pc E L S F := by
  intro ρ ls st σ g
  unfold tv_hld at hk
  split at hk
  · rename_i b hL
    rw [Bool.and_eq_true] at hk
    have hb : b.1 = 2 := tv_beq hk.1
    obtain ⟨x, hx, hg⟩ := g.2.2.1 a b hL (by omega)
    obtain ⟨n0, rfl⟩ := tv_gl hg hb
    exact wp_ldl h hx (R _ _ _ _ _ hk.2 ρ ls _ σ (tv_push g hg))
  · cases hk
theorem ts_lda (R : ∀ pc E L S F, rc pc E L S F = true → tv_SD T c A0 σ0 ρ0 Q pc E L S F) (h : tt_at c.1 pc = some ((2, a, z, zz), n)) (hk : tv_hld a rc (pc + n) E L S F 3 = true) : tv_SD T c A0 σ0 ρ0 Q pc E L S F := by
  intro ρ ls st σ g
  unfold tv_hld at hk
  split at hk
  · rename_i b hL
    rw [Bool.and_eq_true] at hk
    have hb : b.1 = 3 := tv_beq hk.1
    obtain ⟨x, hx, hg⟩ := g.2.2.1 a b hL (by omega)
    obtain ⟨n0, rfl, -⟩ := tv_gr hg hb
    exact wp_lda h hx (R _ _ _ _ _ hk.2 ρ ls _ σ (tv_push g hg))
  · cases hk
/-- a row of the table is one of the method's: a local that is kept isn't stored -/
theorem ts_kp {j i : Nat} {o : tt_Op} (hk : tv_kp j i = true) (h : tt_at j pc = some (o, n)) : tv_kq i o = true := List.all_eq_true.mp hk _ (tt_find_mem h)
theorem tv_nb {a b : Nat} (h : (!(Nat.beq a b)) = true) : a ≠ b := by
  intro e
  subst e
  rw [Nat.beq_refl] at h
  cases h
theorem ts_in1 {ls : List (Nat × Value)} {q : Nat × Value} {k : Nat} {v : Value} (hq : q ∈ ls) (h1 : k ≠ q.1) (h2 : k ≠ q.1 + 1 ∨ ¬ q.2.category = 2) : q ∈ tm_st1 ls k v := by
  refine List.mem_cons_of_mem _ (List.mem_filter.mpr ⟨hq, ?_⟩)
  simp only [Bool.and_eq_true, Bool.not_eq_true', beq_eq_false_iff_ne, Bool.and_eq_false_iff, ne_eq]
  refine ⟨fun e => h1 e.symm, ?_⟩
  rcases h2 with h | h
  · exact Or.inl (fun e => h e.symm)
  · exact Or.inr h
theorem ts_in2 {ls : List (Nat × Value)} {q : Nat × Value} {k : Nat} {v : Value} (hq : q ∈ ls) (h1 : k ≠ q.1) (h3 : k + 1 ≠ q.1) (h2 : k ≠ q.1 + 1 ∨ ¬ q.2.category = 2) : q ∈ tm_st2 ls k v := by
  refine List.mem_cons_of_mem _ (List.mem_filter.mpr ⟨hq, ?_⟩)
  simp only [Bool.and_eq_true, Bool.not_eq_true', beq_eq_false_iff_ne, Bool.and_eq_false_iff, ne_eq]
  refine ⟨fun e => h1 e.symm, fun e => h3 e.symm, ?_⟩
  rcases h2 with h | h
  · exact Or.inl (fun e => h e.symm)
  · exact Or.inr h
theorem tv_cat1 {ρ : List Int} {b : tv_A} {x : Value} (h : tv_gv ρ b x) (hb : b.1 ≠ 2) : ¬ x.category = 2 := by
  rcases h with ⟨-, n, m, rfl, -⟩ | ⟨e, -⟩ | ⟨-, k, rfl, -⟩
  · simp [Value.category]
  · exact absurd e hb
  · simp [Value.category]
theorem tv_k1_at {L : List tv_A} {k i : Nat} {b : tv_A} (h : (tv_k1 L k)[i]? = some b) (hb : b.1 ≠ 0) : L[i]? = some b ∧ (k = i + 1 → b.1 ≠ 2) := by
  unfold tv_k1 at h
  split at h
  · exact ⟨h, fun e => by omega⟩
  · rename_i k0
    split at h
    · rename_i v o hL
      by_cases hi : k0 = i
      · subst hi
        rw [List.getElem?_set_self (List.getElem?_eq_some_iff.mp hL).1] at h
        cases h
        exact absurd rfl hb
      · rw [List.getElem?_set_ne hi] at h
        exact ⟨h, fun e => by omega⟩
    · rename_i hno
      refine ⟨h, fun e h2 => ?_⟩
      have e2 : k0 = i := by omega
      subst e2
      obtain ⟨b1, b2, b3⟩ := b
      dsimp only at h2
      subst h2
      exact hno b2 b3 h
theorem tv_loc1 {ρ : List Int} {ls : List (Nat × Value)} {k : Nat} {b : tv_A} {v : Value} (hL : ∀ (i : Nat) (a : tv_A), L[i]? = some a → a.1 ≠ 0 → ∃ x, (i, x) ∈ ls ∧ tv_gv ρ a x) (hv : tv_gv ρ b v) : ∀ (i : Nat) (a : tv_A), (tv_s1 L k b)[i]? = some a → a.1 ≠ 0 → ∃ x, (i, x) ∈ tm_st1 ls k v ∧ tv_gv ρ a x := by
  intro i a ha hn
  unfold tv_s1 at ha
  by_cases hi : k = i
  · subst hi
    have hl : k < (tv_k1 L k).length := by
      have := (List.getElem?_eq_some_iff.mp ha).1
      simpa using this
    rw [List.getElem?_set_self hl] at ha
    cases ha
    exact ⟨v, List.mem_cons_self, hv⟩
  · rw [List.getElem?_set_ne hi] at ha
    obtain ⟨h1, h2⟩ := tv_k1_at ha hn
    obtain ⟨x, hx, hg⟩ := hL i a h1 hn
    refine ⟨x, ts_in1 hx hi ?_, hg⟩
    by_cases hk : k = i + 1
    · exact Or.inr (tv_cat1 hg (h2 hk))
    · exact Or.inl hk
theorem tv_loc2 {ρ : List Int} {ls : List (Nat × Value)} {k : Nat} {b : tv_A} {v : Value} (hL : ∀ (i : Nat) (a : tv_A), L[i]? = some a → a.1 ≠ 0 → ∃ x, (i, x) ∈ ls ∧ tv_gv ρ a x) (hv : tv_gv ρ b v) : ∀ (i : Nat) (a : tv_A), (tv_s2 L k b)[i]? = some a → a.1 ≠ 0 → ∃ x, (i, x) ∈ tm_st2 ls k v ∧ tv_gv ρ a x := by
  intro i a ha hn
  unfold tv_s2 at ha
  by_cases hi1 : k + 1 = i
  · subst hi1
    have hl : k + 1 < ((tv_k1 L k).set k b).length := by
      have := (List.getElem?_eq_some_iff.mp ha).1
      simpa using this
    rw [List.getElem?_set_self hl] at ha
    cases ha
    exact absurd rfl hn
  rw [List.getElem?_set_ne hi1] at ha
  by_cases hi : k = i
  · subst hi
    have hl : k < (tv_k1 L k).length := by
      have := (List.getElem?_eq_some_iff.mp ha).1
      simpa using this
    rw [List.getElem?_set_self hl] at ha
    cases ha
    exact ⟨v, List.mem_cons_self, hv⟩
  · rw [List.getElem?_set_ne hi] at ha
    obtain ⟨h1, h2⟩ := tv_k1_at ha hn
    obtain ⟨x, hx, hg⟩ := hL i a h1 hn
    refine ⟨x, ts_in2 hx hi hi1 ?_, hg⟩
    by_cases hk : k = i + 1
    · exact Or.inr (tv_cat1 hg (h2 hk))
    · exact Or.inl hk
theorem ts_fn1 {ls : List (Nat × Value)} {k : Nat} {v : Value} (h : ∀ (i : Nat) (x y : Value), (i, x) ∈ ls → (i, y) ∈ ls → x = y) : ∀ (i : Nat) (x y : Value), (i, x) ∈ tm_st1 ls k v → (i, y) ∈ tm_st1 ls k v → x = y := by
  have key : ∀ (i : Nat) (x : Value), (i, x) ∈ tm_st1 ls k v → (i = k ∧ x = v) ∨ (i ≠ k ∧ (i, x) ∈ ls) := by
    intro i x hx
    rcases List.mem_cons.mp hx with e | e
    · cases e
      exact Or.inl ⟨rfl, rfl⟩
    · obtain ⟨e1, e2⟩ := List.mem_filter.mp e
      simp only [Bool.and_eq_true, Bool.not_eq_true', beq_eq_false_iff_ne, ne_eq] at e2
      exact Or.inr ⟨e2.1, e1⟩
  intro i x y hx hy
  rcases key i x hx with ⟨a1, a2⟩ | ⟨a1, a2⟩ <;> rcases key i y hy with ⟨b1, b2⟩ | ⟨b1, b2⟩
  · rw [a2, b2]
  · exact absurd a1 b1
  · exact absurd b1 a1
  · exact h i x y a2 b2
theorem ts_fn2 {ls : List (Nat × Value)} {k : Nat} {v : Value} (h : ∀ (i : Nat) (x y : Value), (i, x) ∈ ls → (i, y) ∈ ls → x = y) : ∀ (i : Nat) (x y : Value), (i, x) ∈ tm_st2 ls k v → (i, y) ∈ tm_st2 ls k v → x = y := by
  have key : ∀ (i : Nat) (x : Value), (i, x) ∈ tm_st2 ls k v → (i = k ∧ x = v) ∨ (i ≠ k ∧ (i, x) ∈ ls) := by
    intro i x hx
    rcases List.mem_cons.mp hx with e | e
    · cases e
      exact Or.inl ⟨rfl, rfl⟩
    · obtain ⟨e1, e2⟩ := List.mem_filter.mp e
      simp only [Bool.and_eq_true, Bool.not_eq_true', beq_eq_false_iff_ne, ne_eq] at e2
      exact Or.inr ⟨e2.1, e1⟩
  intro i x y hx hy
  rcases key i x hx with ⟨a1, a2⟩ | ⟨a1, a2⟩ <;> rcases key i y hy with ⟨b1, b2⟩ | ⟨b1, b2⟩
  · rw [a2, b2]
  · exact absurd a1 b1
  · exact absurd b1 a1
  · exact h i x y a2 b2
theorem ts_st1 {ρ : List Int} {ls : List (Nat × Value)} {st : List Value} {σ : tm_S} {b : tv_A} {v : Value} (g : tv_g T c A0 σ0 ρ0 ρ E L S F ls st σ) (hv : tv_gv ρ b v) (hA : ∀ q ∈ A0, tv_kp c.1 q.1 = true → a ≠ q.1) : tv_g T c A0 σ0 ρ0 ρ E (tv_s1 L a b) S F (tm_st1 ls a v) st σ :=
  ⟨g.1, g.2.1, tv_loc1 g.2.2.1 hv, g.2.2.2.1, g.2.2.2.2.1, g.2.2.2.2.2.1, fun q hq hk hc => ts_in1 (g.2.2.2.2.2.2.1 q hq hk hc) (hA q hq hk) (Or.inr hc), ts_fn1 g.2.2.2.2.2.2.2⟩
theorem ts_st2 {ρ : List Int} {ls : List (Nat × Value)} {st : List Value} {σ : tm_S} {b : tv_A} {v : Value} (g : tv_g T c A0 σ0 ρ0 ρ E L S F ls st σ) (hv : tv_gv ρ b v) (hA : ∀ q ∈ A0, tv_kp c.1 q.1 = true → a ≠ q.1 ∧ a + 1 ≠ q.1) : tv_g T c A0 σ0 ρ0 ρ E (tv_s2 L a b) S F (tm_st2 ls a v) st σ :=
  ⟨g.1, g.2.1, tv_loc2 g.2.2.1 hv, g.2.2.2.1, g.2.2.2.2.1, g.2.2.2.2.2.1, fun q hq hk hc => ts_in2 (g.2.2.2.2.2.2.1 q hq hk hc) (hA q hq hk).1 (hA q hq hk).2 (Or.inr hc), ts_fn2 g.2.2.2.2.2.2.2⟩
theorem ts_kp3 {t : Nat} (ht : t = 3 ∨ t = 5 ∨ t = 6) (h : tt_at c.1 pc = some ((t, a, z, zz), n)) : ∀ q ∈ A0, tv_kp c.1 q.1 = true → a ≠ q.1 := by
  intro q _ hk
  have h1 := ts_kp hk h
  rcases ht with rfl | rfl | rfl <;> exact tv_nb h1
theorem ts_kp4 (h : tt_at c.1 pc = some ((4, a, z, zz), n)) : ∀ q ∈ A0, tv_kp c.1 q.1 = true → a ≠ q.1 ∧ a + 1 ≠ q.1 := by
  intro q _ hk
  have h1 := ts_kp hk h
  simp only [tv_kq, Bool.and_eq_true] at h1
  exact ⟨tv_nb h1.1, tv_nb h1.2⟩
theorem ts_sti (R : ∀ pc E L S F, rc pc E L S F = true → tv_SD T c A0 σ0 ρ0 Q pc E L S F) (h : tt_at c.1 pc = some ((3, a, z, zz), n)) (hk : tv_hs1 a rc (pc + n) E L S F 1 = true) : tv_SD T c A0 σ0 ρ0 Q pc E L S F := by
  intro ρ ls st σ g
  unfold tv_hs1 at hk
  split at hk
  · rename_i b S1
    rw [Bool.and_eq_true] at hk
    obtain ⟨x, st1, rfl, hg, g1⟩ := tv_pop g
    obtain ⟨n0, m, rfl, -⟩ := tv_gi hg (tv_beq hk.1)
    exact wp_sti h (R _ _ _ _ _ hk.2 ρ _ _ σ (ts_st1 g1 hg (ts_kp3 (Or.inl rfl) h)))
  · cases hk
theorem ts_sta (R : ∀ pc E L S F, rc pc E L S F = true → tv_SD T c A0 σ0 ρ0 Q pc E L S F) (h : tt_at c.1 pc = some ((5, a, z, zz), n)) (hk : tv_hs1 a rc (pc + n) E L S F 3 = true) : tv_SD T c A0 σ0 ρ0 Q pc E L S F := by
  intro ρ ls st σ g
  unfold tv_hs1 at hk
  split at hk
  · rename_i b S1
    rw [Bool.and_eq_true] at hk
    obtain ⟨x, st1, rfl, hg, g1⟩ := tv_pop g
    obtain ⟨n0, rfl, -⟩ := tv_gr hg (tv_beq hk.1)
    exact wp_sta h (R _ _ _ _ _ hk.2 ρ _ _ σ (ts_st1 g1 hg (ts_kp3 (Or.inr (Or.inl rfl)) h)))
  · cases hk
theorem ts_stl (R : ∀ pc E L S F, rc pc E L S F = true → tv_SD T c A0 σ0 ρ0 Q pc E L S F) (h : tt_at c.1 pc = some ((4, a, z, zz), n)) (hk : tv_hs2 a rc (pc + n) E L S F = true) : tv_SD T c A0 σ0 ρ0 Q pc E L S F := by
  intro ρ ls st σ g
  unfold tv_hs2 at hk
  split at hk
  · rename_i b S1
    rw [Bool.and_eq_true] at hk
    obtain ⟨x, st1, rfl, hg, g1⟩ := tv_pop g
    obtain ⟨n0, rfl⟩ := tv_gl hg (tv_beq hk.1)
    exact wp_stl h (R _ _ _ _ _ hk.2 ρ _ _ σ (ts_st2 g1 hg (ts_kp4 h)))
  · cases hk
theorem ts_inc (R : ∀ pc E L S F, rc pc E L S F = true → tv_SD T c A0 σ0 ρ0 Q pc E L S F) (h : tt_at c.1 pc = some ((6, a, z, zz), n)) (hk : tv_hinc a z rc (pc + n) E L S F = true) : tv_SD T c A0 σ0 ρ0 Q pc E L S F := by
  intro ρ ls st σ g
  unfold tv_hinc at hk
  split at hk
  · rename_i b hL
    split at hk
    · rename_i q hq
      simp only [Bool.and_eq_true] at hk
      obtain ⟨⟨z1, z2⟩, hk⟩ := hk
      have hz : -2147483648 ≤ z ∧ z ≤ 2147483647 := ⟨(tv_le_iff _ _).mp z1, (tv_le_iff _ _).mp z2⟩
      have hb : b.1 ≠ 0 := by
        intro e
        unfold tv_iv at hq
        obtain ⟨b1, b2, b3⟩ := b
        dsimp only at e
        subst e
        simp at hq
      obtain ⟨x, hx, hg⟩ := g.2.2.1 a b hL hb
      obtain ⟨hb1, n0, m, rfl, hm, hn, l1, l2⟩ := tv_iv_ok hq g.1 hg
      have ez := tn_ofInt hz.1 hz.2
      cases hc : (tv_le tv_lo (q.1 + z) && tv_le (q.2 + z) tv_hi) with
      | true =>
        rw [hc] at hk
        simp only [cond_true] at hk
        rw [Bool.and_eq_true, tv_le_iff, tv_le_iff] at hc
        have c1 : tv_lo = -2147483648 := rfl
        have c2 : tv_hi = 2147483647 := rfl
        have e := tn_add (x := n0) (y := Int32.ofInt z) (by omega) (by omega)
        exact wp_inc h hx (R _ _ _ _ _ hk ρ _ _ σ (ts_st1 g (Or.inl ⟨rfl, n0 + Int32.ofInt z, m, rfl, hm, by dsimp only; omega⟩) (ts_kp3 (Or.inr (Or.inr rfl)) h)))
      | false =>
        rw [hc] at hk
        simp only [cond_false] at hk
        have g2 := tv_ext g (m := (n0 + Int32.ofInt z).toInt) (r := tv_any) (tv_any_ok _).1 (tv_any_ok _).2
        exact wp_inc h hx (R _ _ _ _ _ hk _ _ _ σ (ts_st1 g2 (tv_gv_new g.1 _) (ts_kp3 (Or.inr (Or.inr rfl)) h)))
    · cases hk
  · cases hk
theorem ts_con (R : ∀ pc E L S F, rc pc E L S F = true → tv_SD T c A0 σ0 ρ0 Q pc E L S F) (h : tt_at c.1 pc = some ((7, a, z, zz), n)) (hk : tv_hcon (tt_n c.1) z rc (pc + n) E L S F = true) : tv_SD T c A0 σ0 ρ0 Q pc E L S F := by
  intro ρ ls st σ g
  unfold tv_hcon at hk
  simp only [Bool.and_eq_true, tv_le_iff] at hk
  obtain ⟨⟨⟨h1, h2⟩, h3⟩, h4⟩ := hk
  exact wp_con h (R _ _ _ _ _ h4 ρ ls _ σ (tv_push g (Or.inl ⟨rfl, Int32.ofInt z, 0, rfl, tv_zero_ok h1 g.1, by rw [tn_ofInt h2 h3]; simp⟩)))
theorem ts_ib (R : ∀ pc E L S F, rc pc E L S F = true → tv_SD T c A0 σ0 ρ0 Q pc E L S F) (h : tt_at c.1 pc = some ((9, a, z, zz), n)) (hk : tv_hib (tt_n c.1) a rc (pc + n) E L S F = true) : tv_SD T c A0 σ0 ρ0 Q pc E L S F := by
  intro ρ ls st σ g
  unfold tv_hib at hk
  split at hk
  · rename_i yb xb S1
    obtain ⟨yv, st1, rfl, hgy, g1⟩ := tv_pop g
    obtain ⟨xv, st2, rfl, hgx, g2⟩ := tv_pop g1
    split at hk
    · rename_i X Y hX hY
      obtain ⟨hx1, x, mx, rfl, hmx, hnx, lx1, lx2⟩ := tv_iv_ok hX g.1 hgx
      obtain ⟨hy1, y, my, rfl, hmy, hny, ly1, ly2⟩ := tv_iv_ok hY g.1 hgy
      rw [Bool.and_eq_true] at hk
      have hz0 := tv_zero_ok hk.1 g.1
      have c1 : tv_lo = -2147483648 := rfl
      have c2 : tv_hi = 2147483647 := rfl
      have hk2 := hk.2
      split at hk2
      · rename_i r hr
        refine wp_ib h (R _ _ _ _ _ hk2 ρ ls _ σ (tv_push g2 ?_))
        unfold tv_ex at hr
        split at hr
        · cases hc : (Nat.beq yb.2.1 (tt_n c.1) && tv_le tv_lo (X.1 + yb.2.2) && tv_le (X.2 + yb.2.2) tv_hi) with
          | true =>
            rw [hc] at hr
            cases hr
            simp only [Bool.and_eq_true, tv_le_iff] at hc
            have e0 := tv_beq hc.1.1
            rw [e0, hz0] at hmy
            cases hmy
            refine Or.inl ⟨rfl, x + y, mx, rfl, hmx, ?_⟩
            rw [tn_add (by omega) (by omega)]
            dsimp only
            omega
          | false =>
            rw [hc] at hr
            simp only [cond_false] at hr
            cases hc2 : (Nat.beq xb.2.1 (tt_n c.1) && tv_le tv_lo (Y.1 + xb.2.2) && tv_le (Y.2 + xb.2.2) tv_hi) with
            | true =>
              rw [hc2] at hr
              cases hr
              simp only [Bool.and_eq_true, tv_le_iff] at hc2
              have e0 := tv_beq hc2.1.1
              rw [e0, hz0] at hmx
              cases hmx
              refine Or.inl ⟨rfl, x + y, my, rfl, hmy, ?_⟩
              rw [tn_add (by omega) (by omega)]
              dsimp only
              omega
            | false => rw [hc2] at hr; cases hr
        · cases hc : (Nat.beq yb.2.1 (tt_n c.1) && tv_le tv_lo (X.1 - yb.2.2) && tv_le (X.2 - yb.2.2) tv_hi) with
          | true =>
            rw [hc] at hr
            cases hr
            simp only [Bool.and_eq_true, tv_le_iff] at hc
            have e0 := tv_beq hc.1.1
            rw [e0, hz0] at hmy
            cases hmy
            refine Or.inl ⟨rfl, x - y, mx, rfl, hmx, ?_⟩
            rw [tn_sub (by omega) (by omega)]
            dsimp only
            omega
          | false => rw [hc] at hr; cases hr
        · cases hr
      · have hr := tv_nw_ok (x := tm_ib a x y) (fun u v => tv_bi_ok a lx1 lx2 ly1 ly2 u v)
        exact wp_ib h (R _ _ _ _ _ hk2 _ ls _ σ (tv_new g2 hr.1 hr.2))
    · cases hk
  · cases hk
theorem ts_div (R : ∀ pc E L S F, rc pc E L S F = true → tv_SD T c A0 σ0 ρ0 Q pc E L S F) (h : tt_at c.1 pc = some ((10, a, z, zz), n)) (hk : tv_hdiv rc (pc + n) E L S F = true) : tv_SD T c A0 σ0 ρ0 Q pc E L S F := by
  intro ρ ls st σ g
  unfold tv_hdiv at hk
  split at hk
  · rename_i yb xb S1
    obtain ⟨yv, st1, rfl, hgy, g1⟩ := tv_pop g
    obtain ⟨xv, st2, rfl, hgx, g2⟩ := tv_pop g1
    split at hk
    · rename_i X Y hX hY
      obtain ⟨hx1, x, mx, rfl, hmx, hnx, lx1, lx2⟩ := tv_iv_ok hX g.1 hgx
      obtain ⟨hy1, y, my, rfl, hmy, hny, ly1, ly2⟩ := tv_iv_ok hY g.1 hgy
      rw [Bool.and_eq_true, tv_le_iff] at hk
      have hr := tv_div_ok lx1 lx2 ly1 ly2 hk.1
      exact wp_div h (fun e => by rw [e] at ly1; have : (0 : Int32).toInt = 0 := rfl; omega) (R _ _ _ _ _ hk.2 _ ls _ σ (tv_new g2 hr.1 hr.2))
    · cases hk
  · cases hk
theorem ts_rem (R : ∀ pc E L S F, rc pc E L S F = true → tv_SD T c A0 σ0 ρ0 Q pc E L S F) (h : tt_at c.1 pc = some ((11, a, z, zz), n)) (hk : tv_hrem rc (pc + n) E L S F = true) : tv_SD T c A0 σ0 ρ0 Q pc E L S F := by
  intro ρ ls st σ g
  unfold tv_hrem at hk
  split at hk
  · rename_i yb xb S1
    obtain ⟨yv, st1, rfl, hgy, g1⟩ := tv_pop g
    obtain ⟨xv, st2, rfl, hgx, g2⟩ := tv_pop g1
    split at hk
    · rename_i X Y hX hY
      obtain ⟨hx1, x, mx, rfl, hmx, hnx, lx1, lx2⟩ := tv_iv_ok hX g.1 hgx
      obtain ⟨hy1, y, my, rfl, hmy, hny, ly1, ly2⟩ := tv_iv_ok hY g.1 hgy
      rw [Bool.and_eq_true, tv_le_iff] at hk
      have hr := tv_rem_ok lx1 lx2 ly1 ly2 hk.1
      exact wp_rem h (fun e => by rw [e] at ly1; have : (0 : Int32).toInt = 0 := rfl; omega) (R _ _ _ _ _ hk.2 _ ls _ σ (tv_new g2 hr.1 hr.2))
    · cases hk
  · cases hk
theorem ts_neg (R : ∀ pc E L S F, rc pc E L S F = true → tv_SD T c A0 σ0 ρ0 Q pc E L S F) (h : tt_at c.1 pc = some ((12, a, z, zz), n)) (hk : tv_hneg rc (pc + n) E L S F = true) : tv_SD T c A0 σ0 ρ0 Q pc E L S F := by
  intro ρ ls st σ g
  unfold tv_hneg at hk
  split at hk
  · rename_i xb S1
    obtain ⟨xv, st2, rfl, hgx, g2⟩ := tv_pop g
    split at hk
    · rename_i X hX
      obtain ⟨hx1, x, mx, rfl, hmx, hnx, lx1, lx2⟩ := tv_iv_ok hX g.1 hgx
      have hr := tv_nw_ok (r := (-X.2, -X.1)) (x := -x) (fun u v => by
        have c1 : tv_lo = -2147483648 := rfl
        have c2 : tv_hi = 2147483647 := rfl
        dsimp only at u v ⊢
        rw [tn_neg (by omega) (by omega)]
        omega)
      exact wp_neg h (R _ _ _ _ _ hk _ ls _ σ (tv_new g2 hr.1 hr.2))
    · cases hk
  · cases hk
theorem ts_lb (R : ∀ pc E L S F, rc pc E L S F = true → tv_SD T c A0 σ0 ρ0 Q pc E L S F) (h : tt_at c.1 pc = some ((13, a, z, zz), n)) (hk : tv_hll 2 2 rc (pc + n) E L S F = true) : tv_SD T c A0 σ0 ρ0 Q pc E L S F := by
  intro ρ ls st σ g
  unfold tv_hll at hk
  split at hk
  · rename_i yb xb S1
    obtain ⟨yv, st1, rfl, hgy, g1⟩ := tv_pop g
    obtain ⟨xv, st2, rfl, hgx, g2⟩ := tv_pop g1
    simp only [Bool.and_eq_true] at hk
    obtain ⟨y, rfl⟩ := tv_gl hgy (tv_beq hk.1.1)
    obtain ⟨x, rfl⟩ := tv_gl hgx (tv_beq hk.1.2)
    exact wp_lb h (R _ _ _ _ _ hk.2 ρ ls _ σ (tv_push g2 (tv_long _)))
  · cases hk
theorem ts_ls (R : ∀ pc E L S F, rc pc E L S F = true → tv_SD T c A0 σ0 ρ0 Q pc E L S F) (h : tt_at c.1 pc = some ((14, a, z, zz), n)) (hk : tv_hll 1 2 rc (pc + n) E L S F = true) : tv_SD T c A0 σ0 ρ0 Q pc E L S F := by
  intro ρ ls st σ g
  unfold tv_hll at hk
  split at hk
  · rename_i yb xb S1
    obtain ⟨yv, st1, rfl, hgy, g1⟩ := tv_pop g
    obtain ⟨xv, st2, rfl, hgx, g2⟩ := tv_pop g1
    simp only [Bool.and_eq_true] at hk
    obtain ⟨y, m, rfl, -⟩ := tv_gi hgy (tv_beq hk.1.1)
    obtain ⟨x, rfl⟩ := tv_gl hgx (tv_beq hk.1.2)
    exact wp_ls h (R _ _ _ _ _ hk.2 ρ ls _ σ (tv_push g2 (tv_long _)))
  · cases hk
theorem ts_cmp (R : ∀ pc E L S F, rc pc E L S F = true → tv_SD T c A0 σ0 ρ0 Q pc E L S F) (h : tt_at c.1 pc = some ((15, a, z, zz), n)) (hk : tv_hcmp rc (pc + n) E L S F = true) : tv_SD T c A0 σ0 ρ0 Q pc E L S F := by
  intro ρ ls st σ g
  unfold tv_hcmp at hk
  split at hk
  · rename_i yb xb S1
    obtain ⟨yv, st1, rfl, hgy, g1⟩ := tv_pop g
    obtain ⟨xv, st2, rfl, hgx, g2⟩ := tv_pop g1
    simp only [Bool.and_eq_true] at hk
    obtain ⟨y, rfl⟩ := tv_gl hgy (tv_beq hk.1.1)
    obtain ⟨x, rfl⟩ := tv_gl hgx (tv_beq hk.1.2)
    have hr : (-1 : Int) ≤ (lg_cmp x y).toInt ∧ (lg_cmp x y).toInt ≤ 1 := by
      have e1 : (1 : Int32).toInt = 1 := by decide
      have e2 : (-1 : Int32).toInt = -1 := by decide
      have e3 : (0 : Int32).toInt = 0 := by decide
      unfold lg_cmp
      split
      · omega
      · split <;> omega
    exact wp_cmp h (R _ _ _ _ _ hk.2 _ ls _ σ (tv_new g2 hr.1 hr.2))
  · cases hk
theorem ts_cv (R : ∀ pc E L S F, rc pc E L S F = true → tv_SD T c A0 σ0 ρ0 Q pc E L S F) (h : tt_at c.1 pc = some ((16, a, z, zz), n)) (hk : tv_hcv a rc (pc + n) E L S F = true) : tv_SD T c A0 σ0 ρ0 Q pc E L S F := by
  intro ρ ls st σ g
  unfold tv_hcv at hk
  split at hk
  · rename_i xb S1
    obtain ⟨xv, st2, rfl, hgx, g2⟩ := tv_pop g
    split at hk
    · rw [Bool.and_eq_true] at hk
      obtain ⟨x, m, rfl, -⟩ := tv_gi hgx (tv_beq hk.1)
      exact wp_i2l h (R _ _ _ _ _ hk.2 ρ ls _ σ (tv_push g2 (tv_long _)))
    · rw [Bool.and_eq_true] at hk
      obtain ⟨x, rfl⟩ := tv_gl hgx (tv_beq hk.1)
      exact wp_l2i h (R _ _ _ _ _ hk.2 _ ls _ σ (tv_new g2 (tv_any_ok _).1 (tv_any_ok _).2))
    · split at hk
      · rename_i X hX
        obtain ⟨hx1, x, mx, rfl, hmx, hnx, lx1, lx2⟩ := tv_iv_ok hX g.1 hgx
        have ec := pk_char x
        have hN : (x.toBitVec.toNat % 65536 : Nat) < 65536 := Nat.mod_lt _ (by decide)
        cases hc : (tv_le 0 X.1 && tv_le X.2 65535) with
        | true =>
          rw [hc] at hk
          rw [Bool.and_eq_true, tv_le_iff, tv_le_iff] at hc
          have g0 := tn_nn (x := x) (by omega)
          have e2 : (x.toUInt32 % 65536).toInt32 = x := by
            rw [ec, Nat.mod_eq_of_lt (by omega)]
            apply Int32.toInt_inj.mp
            rw [nI_toInt (by omega)]
            exact g0.1.symm
          refine wp_i2c h ?_
          rw [e2]
          exact R _ _ _ _ _ hk ρ ls _ σ (tv_push g2 hgx)
        | false =>
          rw [hc] at hk
          have e2 : ((x.toUInt32 % 65536).toInt32).toInt = ((x.toBitVec.toNat % 65536 : Nat) : Int) := by rw [ec, nI_toInt (by omega)]
          refine wp_i2c h (R _ _ _ _ _ hk _ ls _ σ (tv_new (r := (0, 65535)) g2 ?_ ?_))
          · show (0 : Int) ≤ _; omega
          · show _ ≤ (65535 : Int); omega
      · cases hk
    · cases hk
  · cases hk
theorem tv_c1 {ρ : List Int} {b : tv_A} {x : Value} (h : tv_gv ρ b x) (hb : (Nat.beq b.1 1 || Nat.beq b.1 3) = true) : x.category = 1 := by
  rw [Bool.or_eq_true] at hb
  rcases hb with e | e
  · obtain ⟨n, m, rfl, -⟩ := tv_gi h (tv_beq e)
    rfl
  · obtain ⟨k, rfl, -⟩ := tv_gr h (tv_beq e)
    rfl
theorem ts_dup (R : ∀ pc E L S F, rc pc E L S F = true → tv_SD T c A0 σ0 ρ0 Q pc E L S F) (h : tt_at c.1 pc = some ((17, a, z, zz), n)) (hk : tv_hdup rc (pc + n) E L S F = true) : tv_SD T c A0 σ0 ρ0 Q pc E L S F := by
  intro ρ ls st σ g
  unfold tv_hdup at hk
  split at hk
  · rename_i xb S1
    obtain ⟨xv, st2, rfl, hgx, g2⟩ := tv_pop g
    rw [Bool.and_eq_true] at hk
    exact wp_dup h (tv_c1 hgx hk.1) (R _ _ _ _ _ hk.2 ρ ls _ σ (tv_push g hgx))
  · cases hk
theorem ts_pop (R : ∀ pc E L S F, rc pc E L S F = true → tv_SD T c A0 σ0 ρ0 Q pc E L S F) (h : tt_at c.1 pc = some ((18, a, z, zz), n)) (hk : tv_hpop rc (pc + n) E L S F = true) : tv_SD T c A0 σ0 ρ0 Q pc E L S F := by
  intro ρ ls st σ g
  unfold tv_hpop at hk
  split at hk
  · rename_i xb S1
    obtain ⟨xv, st2, rfl, hgx, g2⟩ := tv_pop g
    rw [Bool.and_eq_true] at hk
    exact wp_pop h (tv_c1 hgx hk.1) (R _ _ _ _ _ hk.2 ρ ls _ σ g2)
  · cases hk
end TVS
