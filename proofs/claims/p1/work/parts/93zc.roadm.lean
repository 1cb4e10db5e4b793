/-! ===== roads: the numbers ===== -/
def tr_nx (n x : Nat) : Nat := if x + 1 < n then x + 1 else 0
theorem tr_nxo {n x : Nat} (h3 : 3 ≤ n) (hx : x < n) : tr_nx n x < n ∧ ¬ tr_nx n x = x := by
  unfold tr_nx
  split <;> omega
/-- the two neighbours' bits -/
def tr_bo (n x : Nat) : Nat := 2 ^ x ||| 2 ^ tr_nx n x
theorem tr_bob {n x i : Nat} : (tr_bo n x).testBit i = (decide (x = i) || decide (tr_nx n x = i)) := by
  unfold tr_bo
  rw [Nat.testBit_or, Nat.testBit_two_pow, Nat.testBit_two_pow]
theorem tr_bol {n x : Nat} (h3 : 3 ≤ n) (hx : x < n) : tr_bo n x < 2 ^ n := Nat.or_lt_two_pow (Nat.pow_lt_pow_right (by decide) hx) (Nat.pow_lt_pow_right (by decide) (tr_nxo h3 hx).1)
/-- one note moves by a step -/
def tr_adj (n u v : Nat) : Prop := ∃ x : Nat, x < n ∧ ¬ u.testBit x = u.testBit (tr_nx n x) ∧ v = u ^^^ tr_bo n x
theorem tr_adl {n u v : Nat} (h3 : 3 ≤ n) (hu : u < 2 ^ n) (h : tr_adj n u v) : v < 2 ^ n := by
  obtain ⟨x, hx, -, rfl⟩ := h
  exact Nat.xor_lt_two_pow hu (tr_bol h3 hx)
theorem tr_ads {n u v : Nat} (h3 : 3 ≤ n) (h : tr_adj n u v) : tr_adj n v u := by
  obtain ⟨x, hx, hb, rfl⟩ := h
  refine ⟨x, hx, ?_, ?_⟩
  · rw [Nat.testBit_xor, Nat.testBit_xor, tr_bob, tr_bob]
    have := (tr_nxo h3 hx).2
    simp only [decide_true, Bool.true_or, Bool.or_true, Bool.xor_true]
    intro e
    apply hb
    revert e
    cases u.testBit x <;> cases u.testBit (tr_nx n x) <;> simp
  · rw [Nat.xor_assoc, Nat.xor_self, Nat.xor_zero]
/-- reached from src in k moves -/
def tr_P (n : Nat) (src : Nat → Prop) : Nat → Nat → Prop
  | 0, v => src v
  | k + 1, v => ∃ u : Nat, tr_P n src k u ∧ tr_adj n u v
def tr_ex (n : Nat) (src : Nat → Prop) (k v : Nat) : Prop := tr_P n src k v ∧ ∀ j : Nat, j < k → ¬ tr_P n src j v
theorem tr_least {n v : Nat} {src : Nat → Prop} : ∀ (k j : Nat), j ≤ k → tr_P n src j v → ∃ i : Nat, i ≤ j ∧ tr_ex n src i v
  | 0, j, hj, h => ⟨j, Nat.le_refl _, h, fun i hi => absurd hi (by omega)⟩
  | k + 1, j, hj, h => by
    by_cases q : ∃ i : Nat, i < j ∧ tr_P n src i v
    · obtain ⟨i, i1, i2⟩ := q
      obtain ⟨e, e1, e2⟩ := tr_least k i (by omega) i2
      exact ⟨e, by omega, e2⟩
    · exact ⟨j, Nat.le_refl _, h, fun i hi hp => q ⟨i, hi, hp⟩⟩
theorem tr_exu {n v i j : Nat} {src : Nat → Prop} (h : tr_ex n src i v) (k : tr_ex n src j v) : i = j := by
  rcases Nat.lt_trichotomy i j with e | e | e
  · exact absurd h.1 (k.2 i e)
  · exact e
  · exact absurd k.1 (h.2 j e)
theorem tr_pre {n k v : Nat} {src : Nat → Prop} (h : tr_ex n src (k + 1) v) : ∃ u : Nat, tr_ex n src k u ∧ tr_adj n u v := by
  obtain ⟨⟨u, h1, h2⟩, h3⟩ := h
  exact ⟨u, ⟨h1, fun j hj hp => h3 (j + 1) (by omega) ⟨u, hp, h2⟩⟩, h2⟩
theorem tr_cons {n a w v : Nat} (ha : tr_adj n a w) : ∀ {k : Nat}, tr_P n (fun x => x = w) k v → tr_P n (fun x => x = a) (k + 1) v
  | 0, h => ⟨a, rfl, by
      have h2 : v = w := h
      rw [h2]
      exact ha⟩
  | k + 1, ⟨u, h1, h2⟩ => ⟨u, tr_cons ha h1, h2⟩
theorem tr_symm {n a : Nat} (h3 : 3 ≤ n) : ∀ {k v : Nat}, tr_P n (fun x => x = a) k v → tr_P n (fun x => x = v) k a
  | 0, v, h => by
    have h2 : v = a := h
    exact h2.symm
  | k + 1, v, ⟨u, h1, h2⟩ => tr_cons (tr_ads h3 h2) (tr_symm h3 h1)
theorem tr_src {n : Nat} {src : Nat → Prop} : ∀ {k v : Nat}, tr_P n src k v ↔ ∃ s : Nat, src s ∧ tr_P n (fun x => x = s) k v
  | 0, v => ⟨fun h => ⟨v, h, rfl⟩, fun ⟨s, h1, h2⟩ => by
      have e : v = s := h2
      rw [e]
      exact h1⟩
  | k + 1, v => ⟨fun ⟨u, h1, h2⟩ => by
      obtain ⟨s, s1, s2⟩ := tr_src.mp h1
      exact ⟨s, s1, u, s2, h2⟩, fun ⟨s, s1, u, s2, h2⟩ => ⟨u, tr_src.mpr ⟨s, s1, s2⟩, h2⟩⟩
/-- from the goals to a as from a to a goal -/
theorem tr_turn {n a k : Nat} {src : Nat → Prop} (h3 : 3 ≤ n) : tr_P n src k a ↔ ∃ v : Nat, src v ∧ tr_P n (fun x => x = a) k v :=
  ⟨fun h => by
    obtain ⟨s, s1, s2⟩ := tr_src.mp h
    exact ⟨s, s1, tr_symm h3 s2⟩, fun ⟨v, v1, v2⟩ => tr_src.mpr ⟨v, v1, tr_symm h3 v2⟩⟩
/-- a search: V is the queue, D the moves -/
def tr_I (n : Nat) (src : Nat → Prop) (f q : Nat → Int32) (V D : Nat → Nat) (h t : Nat) : Prop :=
  (∀ i : Nat, i < t → q i = nI (V i) ∧ V i < 2 ^ n ∧ f (V i) = nI (D i) ∧ D i ≤ i ∧ tr_ex n src (D i) (V i)) ∧ (∀ v : Nat, v < 2 ^ n → ¬ f v = -1 → ∃ i : Nat, i < t ∧ V i = v) ∧ (∀ i j : Nat, i ≤ j → j < t → D i ≤ D j) ∧ (∀ i w : Nat, i < h → tr_adj n (V i) w → ∃ j : Nat, j < t ∧ V j = w) ∧ (h < t → ∀ j : Nat, j < t → D j ≤ D h + 1) ∧ (t = th_cn f 4096 ∧ h ≤ t)
def tr_S (src : Nat → Prop) (V : Nat → Nat) (t : Nat) : Prop := ∀ v : Nat, src v → ∃ i : Nat, i < t ∧ V i = v
theorem tr_t {n h t : Nat} {src : Nat → Prop} {f q : Nat → Int32} {V D : Nat → Nat} (hI : tr_I n src f q V D h t) : t ≤ 4096 := by
  rw [hI.2.2.2.2.2.1]
  exact th_cn_le _ _
theorem tr_t1 {n h t w : Nat} {src : Nat → Prop} {f q : Nat → Int32} {V D : Nat → Nat} (hI : tr_I n src f q V D h t) (hw : w < 4096) (hf : f w = -1) : t < 4096 := by
  rw [hI.2.2.2.2.2.1]
  exact th_cn_lt hf hw
theorem tr_nn {d : Nat} (h : d < 2 ^ 31) : ¬ nI d = -1 := fun e => by
  have h1 := congrArg Int32.toInt e
  rw [nI_toInt h] at h1
  have h2 : (-1 : Int32).toInt = -1 := by decide
  omega
theorem tr_f {n h t w i : Nat} {src : Nat → Prop} {f q : Nat → Int32} {V D : Nat → Nat} (hI : tr_I n src f q V D h t) (hi : i < t) (e : V i = w) : f w = nI (D i) ∧ ¬ f w = -1 := by
  obtain ⟨-, -, h3, h4, -⟩ := hI.1 i hi
  have := tr_t hI
  rw [← e, h3]
  exact ⟨rfl, tr_nn (by omega)⟩
/-- all that is as near as the head of the queue stands in it -/
theorem tr_disc {n h t : Nat} {src : Nat → Prop} {f q : Nat → Int32} {V D : Nat → Nat} (hI : tr_I n src f q V D h t) (hS : tr_S src V t) (hh : h < t) : ∀ (j v : Nat), j ≤ D h → tr_ex n src j v → ∃ i : Nat, i < t ∧ V i = v
  | 0, v, _, he => hS v he.1
  | j + 1, v, hj, he => by
    obtain ⟨u, u1, u2⟩ := tr_pre he
    obtain ⟨i, i1, rfl⟩ := tr_disc hI hS hh j u (by omega) u1
    have eD := tr_exu (hI.1 i i1).2.2.2.2 u1
    have hih : i < h := by
      rcases Nat.lt_or_ge i h with e | e
      · exact e
      · have := hI.2.2.1 h i e i1
        omega
    exact hI.2.2.2.1 i v hih u2
/-- the queue is used up: all is reached -/
theorem tr_all {n t : Nat} {src : Nat → Prop} {f q : Nat → Int32} {V D : Nat → Nat} (hI : tr_I n src f q V D t t) (hS : tr_S src V t) : ∀ (j v : Nat), tr_P n src j v → ∃ i : Nat, i < t ∧ V i = v
  | 0, v, he => hS v he
  | j + 1, v, ⟨u, u1, u2⟩ => by
    obtain ⟨i, i1, rfl⟩ := tr_all hI hS j u u1
    exact hI.2.2.2.1 i v i1 u2
/-- one more in the queue -/
theorem tr_put {n h t w e : Nat} {src : Nat → Prop} {f q f' q' : Nat → Int32} {V D : Nat → Nat} (hn : n ≤ 12) (hI : tr_I n src f q V D h t) (hw : w < 2 ^ n) (hf : f w = -1) (he : tr_ex n src e w) (het : e ≤ t) (hD : ∀ j : Nat, j < t → D j ≤ e) (hH : h < t → e ≤ D h + 1) (f1 : f' w = nI e) (f2 : ∀ v : Nat, ¬ v = w → f' v = f v) (q1 : q' t = nI w) (q2 : ∀ i : Nat, ¬ i = t → q' i = q i) : tr_I n src f' q' (fun i => if i = t then w else V i) (fun i => if i = t then e else D i) h (t + 1) := by
  have hp : 2 ^ n ≤ 4096 := Nat.pow_le_pow_right (n := 2) (by decide) hn
  have ht := tr_t1 hI (show w < 4096 by omega) hf
  have hne : ∀ i : Nat, i < t → ¬ V i = w := fun i hi e2 => (tr_f hI hi e2).2 hf
  obtain ⟨a1, a2, a3, a4, a5, a6, a7⟩ := hI
  have hd : h ≤ t := a7
  refine ⟨fun i hi => ?_, fun v hv hnv => ?_, fun i j hij hj => ?_, fun i x hi hx => ?_, fun hh j hj => ?_, ?_, by omega⟩
  · by_cases c : i = t
    · subst c
      simp only [if_true]
      exact ⟨q1, hw, f1, het, he⟩
    · simp only [if_neg c]
      obtain ⟨b1, b2, b3, b4, b5⟩ := a1 i (by omega)
      exact ⟨by rw [q2 i c]; exact b1, b2, by rw [f2 _ (hne i (by omega))]; exact b3, b4, b5⟩
  · by_cases c : v = w
    · exact ⟨t, by omega, by simp only [if_true]; exact c.symm⟩
    · rw [f2 v c] at hnv
      obtain ⟨i, i1, i2⟩ := a2 v hv hnv
      exact ⟨i, by omega, by simp only [if_neg (show ¬ i = t by omega)]; exact i2⟩
  · by_cases c : j = t
    · subst c
      simp only [if_true]
      by_cases c2 : i = j
      · simp only [if_pos c2]
        exact Nat.le_refl _
      · simp only [if_neg c2]
        exact hD i (by omega)
    · simp only [if_neg c, if_neg (show ¬ i = t by omega)]
      exact a3 i j hij (by omega)
  · simp only [if_neg (show ¬ i = t by omega)] at hx
    obtain ⟨j, j1, j2⟩ := a4 i x hi hx
    exact ⟨j, by omega, by simp only [if_neg (show ¬ j = t by omega)]; exact j2⟩
  · by_cases c : h = t
    · have c2 : j ≤ t := by omega
      simp only [if_pos c]
      by_cases c3 : j = t
      · simp only [if_pos c3]
        omega
      · simp only [if_neg c3]
        have := hD j (by omega)
        omega
    · simp only [if_neg c]
      by_cases c3 : j = t
      · simp only [if_pos c3]
        exact hH (by omega)
      · simp only [if_neg c3]
        exact a5 (by omega) j (by omega)
  · rw [th_cn_up (f := f) (x := w) hf (by rw [f1]; exact tr_nn (by omega)) f2 (show w < 4096 by omega), ← a6]
/-- a neighbour of the head -/
theorem tr_put1 {n h t w : Nat} {src : Nat → Prop} {f q f' q' : Nat → Int32} {V D : Nat → Nat} (hn : n ≤ 12) (h3 : 3 ≤ n) (hI : tr_I n src f q V D h t) (hS : tr_S src V t) (hh : h < t) (hw : tr_adj n (V h) w) (hf : f w = -1) (f1 : f' w = nI (D h + 1)) (f2 : ∀ v : Nat, ¬ v = w → f' v = f v) (q1 : q' t = nI w) (q2 : ∀ i : Nat, ¬ i = t → q' i = q i) : tr_I n src f' q' (fun i => if i = t then w else V i) (fun i => if i = t then D h + 1 else D i) h (t + 1) ∧ tr_S src (fun i => if i = t then w else V i) (t + 1) := by
  obtain ⟨-, b2, -, b4, b5⟩ := hI.1 h hh
  refine ⟨tr_put hn hI (tr_adl h3 b2 hw) hf ⟨⟨_, b5.1, hw⟩, fun j hj hp => ?_⟩ (by omega) (fun j hj => hI.2.2.2.2.1 hh j hj) (fun _ => Nat.le_refl _) f1 f2 q1 q2, fun v hv => ?_⟩
  · obtain ⟨i, i1, i2⟩ := tr_least j j (Nat.le_refl _) hp
    obtain ⟨k, k1, k2⟩ := tr_disc hI hS hh i w (by omega) i2
    exact (tr_f hI k1 k2).2 hf
  · obtain ⟨i, i1, i2⟩ := hS v hv
    exact ⟨i, by omega, by simp only [if_neg (show ¬ i = t by omega)]; exact i2⟩
/-- the head is done -/
theorem tr_next {n h t : Nat} {src : Nat → Prop} {f q : Nat → Int32} {V D : Nat → Nat} (hI : tr_I n src f q V D h t) (hh : h < t) (ha : ∀ w : Nat, tr_adj n (V h) w → ∃ j : Nat, j < t ∧ V j = w) : tr_I n src f q V D (h + 1) t := by
  obtain ⟨a1, a2, a3, a4, a5, a6, a7⟩ := hI
  refine ⟨a1, a2, a3, fun i w hi hw => ?_, fun h1 j hj => ?_, a6, hh⟩
  · by_cases c : i = h
    · rw [c] at hw
      exact ha w hw
    · exact a4 i w (by omega) hw
  · have b1 := a5 hh j hj
    have b2 := a3 h (h + 1) (by omega) h1
    omega
/-- nothing is queued -/
theorem tr_I0 {n : Nat} {src : Nat → Prop} {f q : Nat → Int32} (hf : ∀ v : Nat, v < 4096 → f v = -1) (hn : n ≤ 12) : tr_I n src f q (fun _ => 0) (fun _ => 0) 0 0 := by
  have hp : 2 ^ n ≤ 4096 := Nat.pow_le_pow_right (n := 2) (by decide) hn
  refine ⟨fun i hi => absurd hi (by omega), fun v hv hnv => absurd (hf v (by omega)) hnv, fun i j _ hj => absurd hj (by omega), fun i w hi => absurd hi (by omega), fun hh => absurd hh (by omega), (th_cn_all hf).symm, Nat.le_refl _⟩
/-- what road answers for sets of one size -/
def tr_A (n a b : Nat) (z : Int32) : Prop := (∃ d : Nat, z = nI d ∧ tr_ex n (fun v => v ∈ tg_I n 1 b n) d a) ∨ (z = -1 ∧ ∀ k : Nat, ¬ tr_P n (fun v => v ∈ tg_I n 1 b n) k a)
theorem tr_Au {n a b : Nat} {z w : Int32} (h : tr_A n a b z) (k : tr_A n a b w) : z = w := by
  rcases h with ⟨d, rfl, h1⟩ | ⟨rfl, h1⟩
  · rcases k with ⟨e, rfl, k1⟩ | ⟨rfl, k1⟩
    · rw [tr_exu h1 k1]
    · exact absurd h1.1 (k1 d)
  · rcases k with ⟨e, rfl, k1⟩ | ⟨rfl, k1⟩
    · exact absurd k1.1 (h1 e)
    · rfl
/-- the search from the goals: a is found, or all is used up -/
theorem tr_Ax {n a b h t i : Nat} {f q : Nat → Int32} {V D : Nat → Nat} (hI : tr_I n (fun v => v ∈ tg_I n 1 b n) f q V D h t) (ha : a < 2 ^ n) (hi : i < t) (e : V i = a) : tr_A n a b (f a) := by
  obtain ⟨-, -, b3, -, b5⟩ := hI.1 i hi
  rw [e] at b3 b5
  exact Or.inl ⟨D i, b3, b5⟩
theorem tr_Ay {n a b t : Nat} {f q : Nat → Int32} {V D : Nat → Nat} (hI : tr_I n (fun v => v ∈ tg_I n 1 b n) f q V D t t) (hS : tr_S (fun v => v ∈ tg_I n 1 b n) V t) (hf : f a = -1) : tr_A n a b (-1) := Or.inr ⟨rfl, fun k hp => by
  obtain ⟨i, i1, i2⟩ := tr_all hI hS k a hp
  exact (tr_f hI i1 i2).2 hf⟩
/-- the search from a: the head is the first goal, or there is none -/
theorem tr_Am {n a b h t : Nat} {f q : Nat → Int32} {V D : Nat → Nat} (h3 : 3 ≤ n) (hI : tr_I n (fun v => v = a) f q V D h t) (hS : tr_S (fun v => v = a) V t) (hh : h < t) (hg : V h ∈ tg_I n 1 b n) (hb : ∀ i : Nat, i < h → ¬ V i ∈ tg_I n 1 b n) : tr_A n a b (nI (D h)) := by
  obtain ⟨-, -, -, -, b5⟩ := hI.1 h hh
  refine Or.inl ⟨D h, rfl, (tr_turn h3).mpr ⟨V h, hg, b5.1⟩, fun j hj hp => ?_⟩
  obtain ⟨v, v1, v2⟩ := (tr_turn h3).mp hp
  obtain ⟨i, i1, i2⟩ := tr_least j j (Nat.le_refl _) v2
  obtain ⟨k, k1, rfl⟩ := tr_disc hI hS hh i v (by omega) i2
  have eD := tr_exu (hI.1 k k1).2.2.2.2 i2
  rcases Nat.lt_or_ge k h with c | c
  · exact hb k c v1
  · have := hI.2.2.1 h k c k1
    omega
theorem tr_An {n a b t : Nat} {f q : Nat → Int32} {V D : Nat → Nat} (h3 : 3 ≤ n) (hI : tr_I n (fun v => v = a) f q V D t t) (hS : tr_S (fun v => v = a) V t) (hb : ∀ i : Nat, i < t → ¬ V i ∈ tg_I n 1 b n) : tr_A n a b (-1) := Or.inr ⟨rfl, fun k hp => by
  obtain ⟨v, v1, v2⟩ := (tr_turn h3).mp hp
  obtain ⟨i, i1, rfl⟩ := tr_all hI hS k v v2
  exact hb i i1 v1⟩
