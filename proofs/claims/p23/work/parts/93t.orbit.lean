/-! ===== orbit and stabiliser: the images of a set ===== -/
def tg_sub (v b : Nat) : Bool := decide (v &&& b = v)
/-- the images of a in their order, of factors below m -/
def tg_I (n g a : Nat) : Nat → List Nat
  | 0 => []
  | m + 1 => tg_I n g a m ++ (if th_fac n g m = true then (List.range n).map (fun t => th_im n a m t n) else [])
def tg_S (F : Nat → Nat) : Nat → Nat
  | 0 => 0
  | n + 1 => tg_S F n + F n
theorem tg_S_eq {F G : Nat → Nat} : ∀ {n : Nat}, (∀ i : Nat, i < n → F i = G i) → tg_S F n = tg_S G n
  | 0, _ => rfl
  | n + 1, h => by
    show tg_S F n + F n = tg_S G n + G n
    rw [tg_S_eq (n := n) (fun i hi => h i (by omega)), h n (by omega)]
theorem tg_cp {f : Nat → Bool} : ∀ n : Nat, th_sm f n = (List.range n).countP f
  | 0 => rfl
  | n + 1 => by
    rw [List.range_succ, List.countP_append, ← tg_cp n]
    show th_sm f n + cond (f n) 1 0 = _
    rw [List.countP_singleton]
    cases f n <;> rfl
theorem tg_sl {F : Nat → Nat} : ∀ n : Nat, tg_S F n = ((List.range n).map F).sum
  | 0 => rfl
  | n + 1 => by
    rw [List.range_succ, List.map_append, List.sum_append, ← tg_sl n]
    simp [tg_S]
theorem tg_ps {F : Nat → Nat} {l k : List Nat} (h : l.Perm k) : (l.map F).sum = (k.map F).sum := by
  induction h with
  | nil => rfl
  | cons x _ ih => simp [ih]
  | swap x y l => simp; omega
  | trans _ _ h1 h2 => exact h1.trans h2
theorem tg_pk : (List.range 13).all (fun n => (List.range n).all (fun m => (List.range n).all (fun t => !(Nat.beq (Nat.gcd m n) 1) || ((List.range n).map (fun x => (m * x + t) % n)).isPerm (List.range n)))) = true := by decide +kernel
theorem tg_pm {n m t : Nat} (hn : n ≤ 12) (hm : m < n) (ht : t < n) (hg : Nat.gcd m n = 1) : ((List.range n).map (fun x => (m * x + t) % n)).Perm (List.range n) := by
  have h := List.all_eq_true.mp (List.all_eq_true.mp (List.all_eq_true.mp tg_pk n (List.mem_range.mpr (by omega))) m (List.mem_range.mpr hm)) t (List.mem_range.mpr ht)
  rw [hg] at h
  exact List.isPerm_iff.mp h
theorem tg_re {f : Nat → Bool} {n m t : Nat} (hn : n ≤ 12) (hm : m < n) (ht : t < n) (hg : Nat.gcd m n = 1) : th_sm (fun x => f ((m * x + t) % n)) n = th_sm f n := by
  rw [tg_cp, tg_cp, ← (tg_pm hn hm ht hg).countP_eq f, List.countP_map]
  rfl
theorem tg_rs {F : Nat → Nat} {n m : Nat} (hn : n ≤ 12) (hm : m < n) (hg : Nat.gcd m n = 1) : tg_S (fun x => F ((m * x + 0) % n)) n = tg_S F n := by
  rw [tg_sl, tg_sl]
  have h := tg_ps (F := F) (tg_pm hn hm (show 0 < n by omega) hg)
  rw [List.map_map] at h
  exact h
theorem tg_ct {n g a : Nat} {p : Nat → Bool} : ∀ k : Nat, (tg_I n g a k).countP p = tg_S (fun m => if th_fac n g m = true then th_sm (fun t => p (th_im n a m t n)) n else 0) k
  | 0 => rfl
  | k + 1 => by
    show (tg_I n g a k ++ _).countP p = tg_S _ k + _
    rw [List.countP_append, tg_ct k]
    congr 1
    show _ = if th_fac n g k = true then th_sm (fun t => p (th_im n a k t n)) n else 0
    by_cases h : th_fac n g k = true
    · rw [if_pos h, if_pos h, List.countP_map, tg_cp]
      rfl
    · rw [if_neg h, if_neg h]
      rfl
theorem tg_mem {n g a v : Nat} : ∀ {k : Nat}, v ∈ tg_I n g a k → ∃ m : Nat, m < k ∧ th_fac n g m = true ∧ ∃ t : Nat, t < n ∧ v = th_im n a m t n
  | 0, h => nomatch h
  | k + 1, h => by
    rcases List.mem_append.mp h with h | h
    · obtain ⟨m, h1, h2⟩ := tg_mem (k := k) h
      exact ⟨m, by omega, h2⟩
    · by_cases hf : th_fac n g k = true
      · rw [if_pos hf] at h
        obtain ⟨t, h1, h2⟩ := List.mem_map.mp h
        exact ⟨k, by omega, hf, t, List.mem_range.mp h1, h2.symm⟩
      · rw [if_neg hf] at h
        cases h
theorem tg_in {n g a m t : Nat} : ∀ {k : Nat}, m < k → th_fac n g m = true → t < n → th_im n a m t n ∈ tg_I n g a k
  | 0, h, _, _ => absurd h (by omega)
  | k + 1, h, hf, ht => by
    refine List.mem_append.mpr ?_
    by_cases e : m = k
    · subst e
      rw [if_pos hf]
      exact Or.inr (List.mem_map.mpr ⟨t, List.mem_range.mpr ht, rfl⟩)
    · exact Or.inl (tg_in (by omega) hf ht)
theorem tg_lt {n g a v k : Nat} (hn : 0 < n) (h : v ∈ tg_I n g a k) : v < 2 ^ n := by
  obtain ⟨m, -, -, t, -, rfl⟩ := tg_mem h
  exact th_im_lt hn n
theorem tg_comp {n a m t k u : Nat} (hn : 0 < n) : th_im n (th_im n a m t n) k u n = th_im n a (k * m % n) ((k * t + u) % n) n := by
  have key : ∀ x : Nat, (k * ((m * x + t) % n) + u) % n = (k * m % n * x + (k * t + u) % n) % n := fun x => by
    have h1 : (k * ((m * x + t) % n) + u) % n = (k * (m * x + t) + u) % n := by rw [← Nat.mod_add_mod, Nat.mul_mod_mod, Nat.mod_add_mod]
    have h2 : (k * m % n * x + (k * t + u) % n) % n = (k * m * x + (k * t + u)) % n := by rw [Nat.add_mod_mod, ← Nat.mod_add_mod, Nat.mod_mul_mod, Nat.mod_add_mod]
    rw [h1, h2, Nat.mul_add, Nat.mul_assoc, Nat.add_assoc]
  apply Nat.eq_of_testBit_eq
  intro j
  apply Bool.eq_iff_iff.mpr
  rw [th_im_bit, th_im_bit]
  constructor
  · rintro ⟨y, h1, h2, h3⟩
    obtain ⟨x, g1, g2, rfl⟩ := (th_im_bit n).mp h2
    exact ⟨x, g1, g2, by rw [← key]; exact h3⟩
  · rintro ⟨x, g1, g2, g3⟩
    exact ⟨(m * x + t) % n, Nat.mod_lt _ hn, (th_im_bit n).mpr ⟨x, g1, g2, rfl⟩, by rw [key]; exact g3⟩
theorem tg_one {n a : Nat} (ha : a < 2 ^ n) : th_im n a 1 0 n = a := by
  apply Nat.eq_of_testBit_eq
  intro j
  apply Bool.eq_iff_iff.mpr
  rw [th_im_bit]
  constructor
  · rintro ⟨x, h1, h2, h3⟩
    rw [Nat.one_mul, Nat.add_zero, Nat.mod_eq_of_lt h1] at h3
    rw [← h3]
    exact h2
  · intro h
    have hj : j < n := by
      rcases Nat.lt_or_ge j n with e | e
      · exact e
      · rw [Nat.testBit_lt_two_pow (Nat.lt_of_lt_of_le ha (Nat.pow_le_pow_right (by decide) e))] at h
        cases h
    exact ⟨j, hj, h, by rw [Nat.one_mul, Nat.add_zero, Nat.mod_eq_of_lt hj]⟩
def tg_gr (n g m : Nat) : Bool := !(th_fac n g m) || (Nat.beq (Nat.gcd m n) 1 && ((List.range n).all (fun k => th_fac n g (m * k % n) == th_fac n g k) && (List.range n).all (fun t => (List.range n).any (fun k => th_fac n g k && (Nat.beq (k * m % n) 1 && (List.range n).any (fun u => Nat.beq ((k * t + u) % n) 0 && Nat.beq ((m * u + t) % n) 0))))))
theorem tg_gk : (List.range 13).all (fun n => (List.range 3).all (fun g => (List.range n).all (tg_gr n g))) = true := by decide +kernel
theorem tg_grp {n g m : Nat} (hn : n ≤ 12) (hg : g ≤ 2) (hf : th_fac n g m = true) : Nat.gcd m n = 1 ∧ (∀ k : Nat, k < n → th_fac n g (m * k % n) = th_fac n g k) ∧ ∀ t : Nat, t < n → ∃ k u : Nat, k < n ∧ u < n ∧ th_fac n g k = true ∧ k * m % n = 1 ∧ (k * t + u) % n = 0 ∧ (m * u + t) % n = 0 := by
  have hm := th_fac_lt hf
  have h := List.all_eq_true.mp (List.all_eq_true.mp (List.all_eq_true.mp tg_gk n (List.mem_range.mpr (by omega))) g (List.mem_range.mpr (by omega))) m (List.mem_range.mpr hm.2)
  unfold tg_gr at h
  rw [hf, Bool.not_true, Bool.false_or, Bool.and_eq_true, Bool.and_eq_true] at h
  obtain ⟨h1, h2, h3⟩ := h
  refine ⟨Nat.eq_of_beq_eq_true h1, fun k hk => ?_, fun t ht => ?_⟩
  · exact eq_of_beq (List.all_eq_true.mp h2 k (List.mem_range.mpr hk))
  · obtain ⟨k, k1, k2⟩ := List.any_eq_true.mp (List.all_eq_true.mp h3 t (List.mem_range.mpr ht))
    rw [Bool.and_eq_true, Bool.and_eq_true] at k2
    obtain ⟨u, u1, u2⟩ := List.any_eq_true.mp k2.2.2
    rw [Bool.and_eq_true] at u2
    exact ⟨k, u, List.mem_range.mp k1, List.mem_range.mp u1, k2.1, Nat.eq_of_beq_eq_true k2.2.1, Nat.eq_of_beq_eq_true u2.1, Nat.eq_of_beq_eq_true u2.2⟩
/-- each image comes from as many acts as leave the set as it is -/
theorem tg_uni {n g a m t : Nat} (hn : n ≤ 12) (h3 : 3 ≤ n) (hg : g ≤ 2) (ha : a < 2 ^ n) (hf : th_fac n g m = true) (ht : t < n) : (tg_I n g a n).countP (fun x => x == th_im n a m t n) = (tg_I n g a n).countP (fun x => x == a) := by
  obtain ⟨-, -, hi⟩ := tg_grp hn hg hf
  obtain ⟨k, u, hk, hu, fk, e1, e2, e3⟩ := hi t ht
  obtain ⟨gk, ck, -⟩ := tg_grp hn hg fk
  have hn0 : 0 < n := by omega
  have e4 : m * k % n = 1 := by rw [Nat.mul_comm]; exact e1
  rw [tg_ct, tg_ct]
  let G : Nat → Nat := fun q => if th_fac n g q = true then th_sm (fun s => th_im n a q s n == a) n else 0
  show _ = tg_S G n
  rw [← tg_rs (F := G) hn hk gk]
  refine tg_S_eq (fun q hq => ?_)
  show (if th_fac n g q = true then _ else 0) = if th_fac n g ((k * q + 0) % n) = true then _ else 0
  rw [Nat.add_zero, ck q hq]
  by_cases hfq : th_fac n g q = true
  · rw [if_pos hfq, if_pos hfq, ← tg_re (f := fun s => th_im n a (k * q % n) s n == a) hn hk hu gk]
    refine th_sm_eq (fun s hs => ?_)
    apply Bool.eq_iff_iff.mpr
    rw [beq_iff_eq, beq_iff_eq, ← tg_comp hn0]
    constructor
    · intro e
      rw [e, tg_comp hn0, e1, e2, tg_one ha]
    · intro e
      have e5 : th_im n (th_im n (th_im n a q s n) k u n) m t n = th_im n a q s n := by rw [tg_comp hn0 (a := th_im n a q s n), e4, e3, tg_one (th_im_lt hn0 n)]
      rw [← e5, e]
  · rw [if_neg hfq, if_neg hfq]
theorem tg_pos {n g a : Nat} (h3 : 3 ≤ n) (ha : a < 2 ^ n) : 0 < (tg_I n g a n).countP (fun x => x == a) := by
  refine List.countP_pos_iff.mpr ⟨a, ?_, by simp⟩
  have h1 : th_fac n g 1 = true := by
    unfold th_fac
    by_cases h : g = 2
    · subst h
      simp
      omega
    · simp [h]
      omega
  have := tg_in (a := a) (k := n) (t := 0) (show 1 < n by omega) h1 (by omega)
  rw [tg_one ha] at this
  exact this
/-- a part of a set with as many notes is the set -/
theorem tg_sms {f k : Nat → Bool} : ∀ {n : Nat}, (∀ i : Nat, i < n → f i = true → k i = true) → th_sm f n ≤ th_sm k n ∧ (th_sm f n = th_sm k n → ∀ i : Nat, i < n → f i = k i)
  | 0, _ => ⟨Nat.le_refl _, fun _ i hi => absurd hi (by omega)⟩
  | n + 1, h => by
    obtain ⟨h1, h2⟩ := tg_sms (n := n) (fun i hi => h i (by omega))
    have hn := h n (by omega)
    constructor
    · show th_sm f n + cond (f n) 1 0 ≤ th_sm k n + cond (k n) 1 0
      cases hf : f n with
      | false =>
        simp only [cond_false]
        omega
      | true =>
        rw [hn hf]
        simp only [cond_true]
        omega
    · intro e
      change th_sm f n + cond (f n) 1 0 = th_sm k n + cond (k n) 1 0 at e
      have e0 : f n = k n ∧ th_sm f n = th_sm k n := by
        cases hf : f n with
        | true =>
          rw [hf, hn hf] at e
          simp only [cond_true] at e
          exact ⟨(hn hf).symm, by omega⟩
        | false =>
          cases hk : k n with
          | false =>
            rw [hf, hk] at e
            simp only [cond_false] at e
            exact ⟨rfl, by omega⟩
          | true =>
            rw [hf, hk] at e
            simp only [cond_true, cond_false] at e
            omega
      intro i hi
      by_cases q : i = n
      · rw [q]
        exact e0.1
      · exact h2 e0.2 i (by omega)
theorem tg_pim {n g a m t : Nat} (hn : n ≤ 12) (hg : g ≤ 2) (hf : th_fac n g m = true) (ht : t < n) : th_po (th_im n a m t n) n = th_po a n := by
  obtain ⟨gm, -, hi⟩ := tg_grp hn hg hf
  obtain ⟨k, u, hk, hu, fk, e1, e2, e3⟩ := hi t ht
  have hm := th_fac_lt hf
  unfold th_po
  rw [← tg_re (f := (th_im n a m t n).testBit) hn hm.2 ht gm]
  refine th_sm_eq (fun x hx => ?_)
  have hn0 : 0 < n := by omega
  have inv : ∀ y : Nat, y < n → (k * ((m * y + t) % n) + u) % n = y := fun y hy => by
    rw [← Nat.mod_add_mod, Nat.mul_mod_mod, Nat.mod_add_mod, Nat.mul_add, ← Nat.mul_assoc, Nat.add_assoc, ← Nat.mod_add_mod, ← Nat.mod_mul_mod, e1, Nat.one_mul, Nat.mod_eq_of_lt hy, ← Nat.add_mod_mod, e2, Nat.add_zero, Nat.mod_eq_of_lt hy]
  apply Bool.eq_iff_iff.mpr
  rw [th_im_bit]
  constructor
  · rintro ⟨y, h1, h2, h3⟩
    have := inv y h1
    rw [h3, inv x hx] at this
    rw [this]
    exact h2
  · intro h
    exact ⟨x, hx, h, rfl⟩
theorem tg_sb {v b : Nat} (h : tg_sub v b = true) (i : Nat) (hv : v.testBit i = true) : b.testBit i = true := by
  have e : v &&& b = v := of_decide_eq_true h
  rw [← e, Nat.testBit_and, Bool.and_eq_true] at hv
  exact hv.2
theorem tg_self {n g a v : Nat} (hn : n ≤ 12) (h3 : 3 ≤ n) (hg : g ≤ 2) (ha : a < 2 ^ n) (h : v ∈ tg_I n g a n) : tg_sub v a = (v == a) := by
  obtain ⟨m, -, hf, t, ht, rfl⟩ := tg_mem h
  apply Bool.eq_iff_iff.mpr
  rw [beq_iff_eq]
  constructor
  · intro hs
    have h1 := (tg_sms (n := n) (fun i _ hi => tg_sb hs i hi)).2 (tg_pim hn hg hf ht)
    apply Nat.eq_of_testBit_eq
    intro i
    by_cases hi : i < n
    · exact h1 i hi
    · rw [Nat.testBit_lt_two_pow (Nat.lt_of_lt_of_le (th_im_lt (by omega) n) (Nat.pow_le_pow_right (by decide) (by omega))), Nat.testBit_lt_two_pow (Nat.lt_of_lt_of_le ha (Nat.pow_le_pow_right (by decide) (by omega)))]
  · intro e
    rw [e]
    unfold tg_sub
    rw [Nat.and_self]
    exact decide_eq_true rfl
/-- the unlike ones of a list that hold P, in their order -/
def tg_st (P : Nat → Bool) (V : List Nat) (v : Nat) : List Nat := if (V.contains v || !(P v)) = true then V else V ++ [v]
def tg_D (P : Nat → Bool) (l : List Nat) : List Nat := l.foldl (tg_st P) []
theorem tg_Dg {P : Nat → Bool} : ∀ (l V : List Nat), V.Nodup → (∀ x ∈ V, P x = true) → (l.foldl (tg_st P) V).Nodup ∧ ∀ x : Nat, x ∈ l.foldl (tg_st P) V ↔ (x ∈ V ∨ (x ∈ l ∧ P x = true))
  | [], V, h, _ => ⟨h, fun x => by simp⟩
  | v :: l, V, h, hp => by
    show ((l.foldl (tg_st P) (tg_st P V v)).Nodup) ∧ _
    have hs : (tg_st P V v).Nodup ∧ (∀ x ∈ tg_st P V v, P x = true) ∧ ∀ x : Nat, x ∈ tg_st P V v ↔ (x ∈ V ∨ (x = v ∧ P x = true)) := by
      unfold tg_st
      by_cases hc : (V.contains v || !(P v)) = true
      · rw [if_pos hc]
        refine ⟨h, hp, fun x => ⟨Or.inl, fun q => q.elim id (fun q => ?_)⟩⟩
        rw [Bool.or_eq_true] at hc
        rcases hc with hc | hc
        · rw [q.1]
          exact List.contains_iff_mem.mp hc
        · rw [q.1] at q
          rw [q.2] at hc
          cases hc
      · rw [if_neg hc]
        rw [Bool.not_eq_true, Bool.or_eq_false_iff] at hc
        have hv : v ∉ V := fun q => by
          rw [List.contains_iff_mem.mpr q] at hc
          cases hc.1
        have pv : P v = true := by
          have := hc.2
          cases hq : P v with
          | true => rfl
          | false => rw [hq] at this; cases this
        refine ⟨List.nodup_append.mpr ⟨h, by simp, fun x hx y hy => ?_⟩, fun x hx => ?_, fun x => ?_⟩
        · rw [List.mem_singleton.mp hy]
          exact fun e => hv (e ▸ hx)
        · rcases List.mem_append.mp hx with q | q
          · exact hp x q
          · rw [List.mem_singleton.mp q]
            exact pv
        · rw [List.mem_append, List.mem_singleton]
          constructor
          · rintro (q | q)
            · exact Or.inl q
            · exact Or.inr ⟨q, by rw [q]; exact pv⟩
          · rintro (q | q)
            · exact Or.inl q
            · exact Or.inr q.1
    obtain ⟨i1, i2⟩ := tg_Dg l (tg_st P V v) hs.1 hs.2.1
    refine ⟨i1, fun x => ?_⟩
    show x ∈ l.foldl (tg_st P) (tg_st P V v) ↔ _
    rw [i2, hs.2.2, List.mem_cons]
    constructor
    · rintro ((q | q) | q)
      · exact Or.inl q
      · exact Or.inr ⟨Or.inl q.1, q.2⟩
      · exact Or.inr ⟨Or.inr q.1, q.2⟩
    · rintro (q | ⟨q | q, r⟩)
      · exact Or.inl (Or.inl q)
      · exact Or.inl (Or.inr ⟨q, r⟩)
      · exact Or.inr ⟨q, r⟩
theorem tg_Dm {P : Nat → Bool} {l : List Nat} {x : Nat} : x ∈ tg_D P l ↔ (x ∈ l ∧ P x = true) := by
  have := (tg_Dg (P := P) l [] List.nodup_nil (fun x hx => by cases hx)).2 x
  unfold tg_D
  rw [this]
  simp
theorem tg_Dn {P : Nat → Bool} {l : List Nat} : (tg_D P l).Nodup := (tg_Dg (P := P) l [] List.nodup_nil (fun x hx => by cases hx)).1
theorem tg_D1 {P : Nat → Bool} {l : List Nat} {v : Nat} : tg_D P (l ++ [v]) = tg_st P (tg_D P l) v := by
  unfold tg_D
  rw [List.foldl_append]
  rfl
theorem tg_or {p q : Nat → Bool} : ∀ {l : List Nat}, (∀ x ∈ l, (p x && q x) = false) → l.countP (fun x => p x || q x) = l.countP p + l.countP q
  | [], _ => rfl
  | x :: l, h => by
    have ih := tg_or (l := l) (fun y hy => h y (List.mem_cons_of_mem _ hy))
    have hx := h x List.mem_cons_self
    rw [List.countP_cons, List.countP_cons, List.countP_cons, ih]
    cases hp : p x <;> cases hq : q x
    · simp
    · simp
      omega
    · simp
      omega
    · rw [hp, hq] at hx
      cases hx
theorem tg_cv {l : List Nat} {s : Nat} : ∀ {V : List Nat}, V.Nodup → (∀ v ∈ V, l.countP (fun x => x == v) = s) → l.countP (fun x => V.contains x) = V.length * s
  | [], _, _ => by simp
  | v :: V, h, hs => by
    have h1 := List.nodup_cons.mp h
    have e : (fun x => (v :: V).contains x) = fun x => (x == v) || V.contains x := funext fun x => by
      rw [List.contains_cons]
    rw [e, tg_or (fun x _ => ?_), hs v List.mem_cons_self, tg_cv h1.2 (fun w hw => hs w (List.mem_cons_of_mem _ hw)), List.length_cons, Nat.add_mul, Nat.one_mul, Nat.add_comm]
    cases hx : (x == v) with
    | false => rfl
    | true =>
      rw [eq_of_beq hx, Bool.true_and]
      cases hc : V.contains v with
      | false => rfl
      | true => exact absurd (List.contains_iff_mem.mp hc) h1.1
/-- as many acts bring a into b as images in b, times the acts that leave a -/
theorem tg_orb {n g a b : Nat} (hn : n ≤ 12) (h3 : 3 ≤ n) (hg : g ≤ 2) (ha : a < 2 ^ n) : (tg_I n g a n).countP (fun x => tg_sub x b) = (tg_D (fun x => tg_sub x b) (tg_I n g a n)).length * (tg_I n g a n).countP (fun x => tg_sub x a) ∧ 0 < (tg_I n g a n).countP (fun x => tg_sub x a) := by
  have e1 : (tg_I n g a n).countP (fun x => tg_sub x a) = (tg_I n g a n).countP (fun x => x == a) := List.countP_congr (fun x hx => by rw [tg_self hn h3 hg ha hx])
  have e2 : (tg_I n g a n).countP (fun x => tg_sub x b) = (tg_I n g a n).countP (fun x => (tg_D (fun x => tg_sub x b) (tg_I n g a n)).contains x) := List.countP_congr (fun x hx => by
    rw [List.contains_iff_mem, tg_Dm]
    exact ⟨fun q => ⟨hx, q⟩, fun q => q.2⟩)
  rw [e1]
  refine ⟨?_, tg_pos h3 ha⟩
  rw [e2]
  refine tg_cv tg_Dn (fun v hv => ?_)
  obtain ⟨m, -, hf, t, ht, rfl⟩ := tg_mem (tg_Dm.mp hv).1
  exact tg_uni hn h3 hg ha hf ht
