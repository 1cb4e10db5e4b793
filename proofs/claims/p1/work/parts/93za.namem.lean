/-! ===== names: the numbers ===== -/
/-- the least of a list and a number -/
def tk_lf (l : List Nat) (v : Nat) : Nat := l.foldl (fun u i => if i < u then i else u) v
theorem tk_lf1 {l : List Nat} {v w : Nat} : tk_lf (l ++ [w]) v = (if w < tk_lf l v then w else tk_lf l v) := by
  unfold tk_lf
  rw [List.foldl_append]
  rfl
theorem tk_lfg : ∀ (l : List Nat) (v : Nat), tk_lf l v ≤ v ∧ (∀ x ∈ l, tk_lf l v ≤ x) ∧ (tk_lf l v = v ∨ tk_lf l v ∈ l)
  | [], v => ⟨Nat.le_refl _, fun x hx => absurd hx List.not_mem_nil, Or.inl rfl⟩
  | w :: l, v => by
    obtain ⟨u, hu⟩ : ∃ u : Nat, u = if w < v then w else v := ⟨_, rfl⟩
    have e : tk_lf (w :: l) v = tk_lf l u := by rw [hu]; rfl
    obtain ⟨h1, h2, h3⟩ := tk_lfg l u
    have hw : u ≤ w ∧ u ≤ v ∧ (u = w ∨ u = v) := by
      by_cases q : w < v
      · rw [if_pos q] at hu
        omega
      · rw [if_neg q] at hu
        omega
    rw [e]
    refine ⟨by omega, fun x hx => ?_, ?_⟩
    · rcases List.mem_cons.mp hx with rfl | hx
      · omega
      · exact h2 x hx
    · rcases h3 with h3 | h3
      · rcases hw.2.2 with q | q
        · rw [h3, q]
          exact Or.inr List.mem_cons_self
        · rw [h3, q]
          exact Or.inl rfl
      · exact Or.inr (List.mem_cons_of_mem _ h3)
/-- the name of a set -/
def tk_nm (n g S : Nat) : Nat := tk_lf (tg_I n g S n) S
theorem tk_self {n g S : Nat} (h3 : 3 ≤ n) (hS : S < 2 ^ n) : S ∈ tg_I n g S n := by
  have h1 : th_fac n g 1 = true := th_fy (Nat.le_refl _) (by omega) (by
    by_cases e : g = 2
    · exact Or.inl ⟨e, Nat.gcd_one_left n⟩
    · exact Or.inr ⟨e, Or.inl rfl⟩)
  have := tg_in (a := S) (k := n) (show 1 < n by omega) h1 (show 0 < n by omega)
  rw [tg_one hS] at this
  exact this
theorem tk_tr {n g S v w : Nat} (hn : n ≤ 12) (h3 : 3 ≤ n) (hg : g ≤ 2) (hv : v ∈ tg_I n g S n) (hw : w ∈ tg_I n g v n) : w ∈ tg_I n g S n := by
  obtain ⟨m, m1, m2, t, t1, rfl⟩ := tg_mem hv
  obtain ⟨k, k1, k2, u, u1, rfl⟩ := tg_mem hw
  rw [tg_comp (by omega)]
  have hf := (tg_grp hn hg m2).2.1 k k1
  rw [k2] at hf
  rw [Nat.mul_comm k m]
  exact tg_in (Nat.mod_lt _ (by omega)) hf (Nat.mod_lt _ (by omega))
theorem tk_sy {n g S v : Nat} (hn : n ≤ 12) (h3 : 3 ≤ n) (hg : g ≤ 2) (hS : S < 2 ^ n) (hv : v ∈ tg_I n g S n) : S ∈ tg_I n g v n := by
  obtain ⟨m, m1, m2, t, t1, rfl⟩ := tg_mem hv
  obtain ⟨k, u, k1, u1, k2, e1, e2, -⟩ := (tg_grp hn hg m2).2.2 t t1
  have := tg_in (a := th_im n S m t n) k1 k2 u1
  rw [tg_comp (by omega), e1, e2, tg_one hS] at this
  exact this
theorem tk_min {n g S : Nat} (h3 : 3 ≤ n) (hS : S < 2 ^ n) : tk_nm n g S ∈ tg_I n g S n ∧ ∀ x ∈ tg_I n g S n, tk_nm n g S ≤ x := by
  obtain ⟨-, h2, h4⟩ := tk_lfg (tg_I n g S n) S
  refine ⟨?_, h2⟩
  rcases h4 with h4 | h4
  · show tk_lf _ _ ∈ _
    rw [h4]
    exact tk_self h3 hS
  · exact h4
theorem tk_eq {n g S v : Nat} (hn : n ≤ 12) (h3 : 3 ≤ n) (hg : g ≤ 2) (hS : S < 2 ^ n) (hv : v ∈ tg_I n g S n) : tk_nm n g v = tk_nm n g S := by
  have lv := tg_lt (by omega) hv
  obtain ⟨a1, a2⟩ := tk_min (g := g) h3 hS
  obtain ⟨b1, b2⟩ := tk_min (g := g) h3 lv
  have c1 := a2 _ (tk_tr hn h3 hg hv b1)
  have c2 := b2 _ (tk_tr hn h3 hg (tk_sy hn h3 hg hS hv) a1)
  omega
theorem tk_iff {n g S v : Nat} (hn : n ≤ 12) (h3 : 3 ≤ n) (hg : g ≤ 2) (hS : S < 2 ^ n) (hv : v < 2 ^ n) : tk_nm n g v = tk_nm n g S ↔ v ∈ tg_I n g S n := by
  refine ⟨fun e => ?_, tk_eq hn h3 hg hS⟩
  have a1 := (tk_min (g := g) h3 hS).1
  have b1 := (tk_min (g := g) h3 hv).1
  rw [e] at b1
  exact tk_tr hn h3 hg a1 (tk_sy hn h3 hg hv b1)
theorem tk_lt {n g S : Nat} (h3 : 3 ≤ n) (hS : S < 2 ^ n) : tk_nm n g S < 2 ^ n := tg_lt (by omega) (tk_min h3 hS).1
theorem tk_le {n g S : Nat} : tk_nm n g S ≤ S := (tk_lfg _ _).1
