/-! ===== rounds of the reference: bits ===== -/
/-- so many of the first n -/
def th_sm (f : Nat → Bool) : Nat → Nat
  | 0 => 0
  | n + 1 => th_sm f n + cond (f n) 1 0
theorem th_sm_eq {f g : Nat → Bool} : ∀ {n : Nat}, (∀ i : Nat, i < n → f i = g i) → th_sm f n = th_sm g n
  | 0, _ => rfl
  | n + 1, h => by
    unfold th_sm
    rw [th_sm_eq (n := n) (fun i hi => h i (by omega)), h n (by omega)]
theorem th_sm_le {f : Nat → Bool} : ∀ {n : Nat}, th_sm f n ≤ n
  | 0 => Nat.le_refl 0
  | n + 1 => by
    have h := th_sm_le (f := f) (n := n)
    unfold th_sm
    cases f n
    · show th_sm f n + 0 ≤ n + 1
      omega
    · show th_sm f n + 1 ≤ n + 1
      omega
theorem th_sm_add {f g : Nat → Bool} : ∀ {n : Nat}, (∀ i : Nat, i < n → (f i && g i) = false) → th_sm (fun i => f i || g i) n = th_sm f n + th_sm g n
  | 0, _ => rfl
  | n + 1, h => by
    unfold th_sm
    rw [th_sm_add (n := n) (fun i hi => h i (by omega))]
    have h1 := h n (by omega)
    cases hf : f n <;> cases hg : g n
    · simp
    · simp only [Bool.false_or, cond_true, cond_false]
      omega
    · simp only [Bool.or_false, cond_true, cond_false]
      omega
    · rw [hf, hg] at h1
      cases h1
theorem th_sm_sh {f : Nat → Bool} {a : Nat} : ∀ {n : Nat}, th_sm f (a + n) = th_sm f a + th_sm (fun i => f (a + i)) n
  | 0 => rfl
  | n + 1 => by
    show th_sm f (a + n) + cond (f (a + n)) 1 0 = th_sm f a + (th_sm (fun i => f (a + i)) n + cond (f (a + n)) 1 0)
    rw [th_sm_sh (n := n), Nat.add_assoc]
theorem th_sm_rot {f : Nat → Bool} {c s : Nat} (hs : s ≤ c) : th_sm (fun i => f ((i + s) % c)) c = th_sm f c := by
  have e1 : th_sm (fun i => f ((i + s) % c)) ((c - s) + s) = th_sm (fun i => f ((i + s) % c)) (c - s) + th_sm (fun i => f (((c - s) + i + s) % c)) s := th_sm_sh
  have e2 : th_sm f (s + (c - s)) = th_sm f s + th_sm (fun i => f (s + i)) (c - s) := th_sm_sh
  rw [show c - s + s = c by omega] at e1
  rw [show s + (c - s) = c by omega] at e2
  rw [e1, e2, Nat.add_comm]
  congr 1
  · refine th_sm_eq (fun i hi => ?_)
    rw [show c - s + i + s = i + c by omega, Nat.add_mod_right, Nat.mod_eq_of_lt (by omega)]
  · refine th_sm_eq (fun i hi => ?_)
    rw [Nat.mod_eq_of_lt (by omega), Nat.add_comm]
theorem th_sm_low {f : Nat → Bool} {n : Nat} : th_sm f (n + 1) = cond (f 0) 1 0 + th_sm (fun i => f (i + 1)) n := by
  have h := th_sm_sh (f := f) (a := 1) (n := n)
  rw [Nat.add_comm 1 n] at h
  rw [h]
  have e : (fun i => f (1 + i)) = fun i => f (i + 1) := funext fun i => by rw [Nat.add_comm]
  rw [e]
  show 0 + cond (f 0) 1 0 + _ = _
  rw [Nat.zero_add]
theorem th_sm_full {f : Nat → Bool} : ∀ {n : Nat}, th_sm f n = n → ∀ i : Nat, i < n → f i = true
  | 0, _, i, hi => absurd hi (by omega)
  | n + 1, h, i, hi => by
    unfold th_sm at h
    have hl := th_sm_le (f := f) (n := n)
    cases hf : f n
    · rw [hf] at h
      change th_sm f n + 0 = n + 1 at h
      omega
    · by_cases e : i = n
      · rw [e]
        exact hf
      · rw [hf] at h
        change th_sm f n + 1 = n + 1 at h
        exact th_sm_full (n := n) (by omega) i (by omega)
theorem th_sm_mono {f : Nat → Bool} {a b : Nat} (h : a ≤ b) : th_sm f a ≤ th_sm f b := by
  obtain ⟨k, rfl⟩ := Nat.exists_eq_add_of_le h
  rw [th_sm_sh]
  omega
def th_po (a c : Nat) : Nat := th_sm a.testBit c
theorem th_po_or {a b c : Nat} (h : a &&& b = 0) : th_po (a ||| b) c = th_po a c + th_po b c := by
  unfold th_po
  rw [show (a ||| b).testBit = fun i => a.testBit i || b.testBit i from funext fun i => Nat.testBit_or a b i]
  refine th_sm_add (fun i _ => ?_)
  rw [← Nat.testBit_and, h, Nat.zero_testBit]
theorem th_po_rot {a R c e : Nat} (he : e ≤ c) (h : ∀ i : Nat, i < c → R.testBit i = a.testBit ((i + (c - e)) % c)) : th_po R c = th_po a c := by
  unfold th_po
  rw [th_sm_eq h]
  exact th_sm_rot (by omega)
theorem th_fullb {a c : Nat} (ha : a < 2 ^ c) (h : ∀ i : Nat, i < c → a.testBit i = true) : a = 2 ^ c - 1 := by
  apply Nat.eq_of_testBit_eq
  intro i
  rw [Nat.testBit_two_pow_sub_one]
  by_cases hi : i < c
  · rw [h i hi]
    simp [hi]
  · rw [Nat.testBit_lt_two_pow (Nat.lt_of_lt_of_le ha (Nat.pow_le_pow_right (by decide) (by omega)))]
    simp [hi]
theorem th_clear {a c : Nat} (ha : a < 2 ^ c) (h : ¬ a = 2 ^ c - 1) : ∃ b : Nat, b < c ∧ a.testBit b = false := by
  apply Classical.byContradiction
  intro hn
  apply h
  refine th_fullb ha (fun i hi => ?_)
  cases hb : a.testBit i
  · exact absurd ⟨i, hi, hb⟩ hn
  · rfl
theorem th_po_lt {a c : Nat} (ha : a < 2 ^ c) (h : ¬ a = 2 ^ c - 1) : th_po a c < c := by
  have h1 := th_sm_le (f := a.testBit) (n := c)
  rcases Nat.lt_or_ge (th_po a c) c with g | g
  · exact g
  · exact absurd (th_fullb ha (th_sm_full (Nat.le_antisymm h1 g))) h
theorem th_po_fu {c : Nat} : th_po (2 ^ c - 1) c = c := by
  unfold th_po
  have h : ∀ n : Nat, n ≤ c → th_sm (2 ^ c - 1).testBit n = n := by
    intro n
    induction n with
    | zero => intro _; rfl
    | succ n ih =>
      intro hn
      unfold th_sm
      rw [ih (by omega), Nat.testBit_two_pow_sub_one]
      simp [show n < c by omega]
  exact h c (Nat.le_refl c)
theorem th_and2 (a b : Nat) : (a &&& b) / 2 = a / 2 &&& b / 2 := by
  apply Nat.eq_of_testBit_eq
  intro i
  rw [Nat.testBit_and, ← Nat.testBit_add_one, ← Nat.testBit_add_one, ← Nat.testBit_add_one, Nat.testBit_and]
theorem th_po_low {x m : Nat} : th_po x (m + 1) = x % 2 + th_po (x / 2) m := by
  unfold th_po
  rw [th_sm_low, th_sm_eq (g := (x / 2).testBit) (fun i _ => Nat.testBit_add_one x i)]
  congr 1
  rw [Nat.testBit_zero]
  rcases Nat.mod_two_eq_zero_or_one x with e | e <;> rw [e] <;> rfl
theorem th_po_dec : ∀ {m x : Nat}, x < 2 ^ m → 0 < x → th_po (x &&& (x - 1)) m + 1 = th_po x m
  | 0, x, h, h0 => by
    rw [Nat.pow_zero] at h
    omega
  | m + 1, x, h, h0 => by
    rw [th_po_low, th_po_low, th_and2]
    have hb : (x &&& (x - 1)) % 2 = 0 := by
      have e : (x &&& (x - 1)).testBit 0 = false := by
        rw [Nat.testBit_and, Nat.testBit_zero, Nat.testBit_zero]
        rcases Nat.mod_two_eq_zero_or_one x with e | e
        · rw [e]
          rfl
        · rw [show (x - 1) % 2 = 0 by omega]
          simp
      rw [Nat.testBit_zero] at e
      have e2 := of_decide_eq_false e
      omega
    rw [hb]
    rcases Nat.mod_two_eq_zero_or_one x with e | e
    · rw [show (x - 1) / 2 = x / 2 - 1 by omega, e]
      have := th_po_dec (m := m) (x := x / 2) (by rw [Nat.pow_succ] at h; omega) (by omega)
      omega
    · rw [show (x - 1) / 2 = x / 2 by omega, e, Nat.and_self]
      omega
theorem th_nn {a : Nat} (h : a < 2 ^ 31) : (nI a).toBitVec.toNat = a := by
  unfold nI
  rw [Int32.toBitVec_ofNat', BitVec.toNat_ofNat]
  exact Nat.mod_eq_of_lt (by omega)
theorem th_iext {x y : Int32} (h : x.toBitVec.toNat = y.toBitVec.toNat) : x = y := Int32.toBitVec_inj.mp (BitVec.eq_of_toNat_eq h)
theorem th_iof {x : Int32} {a : Nat} (h : x.toBitVec.toNat = a) (ha : a < 2 ^ 31) : x = nI a := th_iext (by rw [h, th_nn ha])
theorem th_shr {a k : Nat} (ha : a < 2 ^ 24) (hk : k < 32) : nI a >>> (nI k &&& 31) = nI (a / 2 ^ k) := by
  have hd : a / 2 ^ k ≤ a := Nat.div_le_self _ _
  refine Int32.toInt_inj.mp ?_
  rw [tn_shr, nI_toInt (by omega), nI_toInt (by omega), th_nn (by omega), Nat.mod_eq_of_lt hk]
  rfl
theorem th_and24 {a b : Nat} (ha : a < 2 ^ 24) (hb : b < 2 ^ 24) : nI a &&& nI b = nI (a &&& b) := by
  have h : a &&& b ≤ a := Nat.and_le_left
  exact th_iof (by rw [tn_and, th_nn (by omega), th_nn (by omega)]) (by omega)
theorem th_or24 {a b : Nat} (ha : a < 2 ^ 24) (hb : b < 2 ^ 24) : nI a ||| nI b = nI (a ||| b) := by
  have h : a ||| b < 2 ^ 24 := Nat.or_lt_two_pow ha hb
  exact th_iof (by rw [tn_or, th_nn (by omega), th_nn (by omega)]) (by omega)
theorem th_p24 : ∀ c : Nat, c ≤ 24 → ((1 : Int32) <<< (nI c &&& 31)) = nI (2 ^ c) := by decide +kernel
theorem th_m24 : ∀ c : Nat, c ≤ 24 → ((1 : Int32) <<< (nI c &&& 31)) - 1 = nI (2 ^ c - 1) := by decide +kernel
theorem th_hs24 {a m : Nat} (ha : a < 2 ^ 24) (hm : m < 32) : th_hs (nI a) (nI m) = bif a.testBit m then 1 else 0 := by
  unfold th_hs
  have hd : a / 2 ^ m ≤ a := Nat.div_le_self _ _
  have e1 : nI (a / 2 ^ m) &&& 1 = nI (a / 2 ^ m % 2) := by
    refine th_iof ?_ (by omega)
    rw [tn_and, th_nn (by omega)]
    exact Nat.and_one_is_mod _
  rw [th_shr ha hm, e1, Nat.testBit_eq_decide_div_mod_eq]
  rcases Nat.mod_two_eq_zero_or_one (a / 2 ^ m) with e | e <;> rw [e] <;> decide
set_option maxRecDepth 100000 in
theorem th_gk2 : (List.range 25).all (fun n => (List.range n).all (fun x => (List.range n).all (fun p => decide ((nI x - nI p + nI n) - (nI x - nI p + nI n) / nI n * nI n = nI ((x + n - p) % n))))) = true := by decide +kernel
theorem th_gap2 {n x p : Nat} (hn : n ≤ 24) (hx : x < n) (hp : p < n) : (nI x - nI p + nI n) - (nI x - nI p + nI n) / nI n * nI n = nI ((x + n - p) % n) := by
  have h1 := List.all_eq_true.mp (List.all_eq_true.mp (List.all_eq_true.mp th_gk2 n (List.mem_range.mpr (by omega))) x (List.mem_range.mpr hx)) p (List.mem_range.mpr hp)
  exact of_decide_eq_true h1
theorem th_rmk : (List.range 25).all (fun c => (List.range 25).all (fun k => Nat.beq k 0 || ((!(decide (nI c - nI c / nI k * nI k = 0)) || Nat.beq (c % k) 0) && (!(Nat.beq (c % k) 0) || Nat.ble (k ^ (c / k)) 6561)))) = true := by decide +kernel
theorem th_rm24 {c k : Nat} (hc : c ≤ 24) (hk : k ≤ 24) (h0 : 1 ≤ k) (h : nI c - nI c / nI k * nI k = 0) : c % k = 0 ∧ k ^ (c / k) ≤ 6561 := by
  have h1 := List.all_eq_true.mp (List.all_eq_true.mp th_rmk c (List.mem_range.mpr (by omega))) k (List.mem_range.mpr (by omega))
  simp only [Bool.or_eq_true, Bool.and_eq_true, Bool.not_eq_true', decide_eq_false_iff_not] at h1
  rcases h1 with e | ⟨e1, e2⟩
  · have := tv_beq e
    omega
  · have e3 : c % k = 0 := by
      rcases e1 with e | e
      · exact absurd h e
      · exact tv_beq e
    refine ⟨e3, ?_⟩
    rcases e2 with e | e
    · rw [e3] at e
      cases e
    · exact Nat.le_of_ble_eq_true e
/-- the motif, so many later -/
def th_R (c mo e : Nat) : Nat := if e = 0 then mo else ((mo * 2 ^ e % 4294967296) ||| mo / 2 ^ (c - e)) % 2 ^ c
theorem th_R_lt {c mo e : Nat} (hm : mo < 2 ^ c) : th_R c mo e < 2 ^ c := by
  unfold th_R
  split
  · exact hm
  · exact Nat.mod_lt _ (Nat.two_pow_pos c)
theorem th_R_bit {c mo e : Nat} (hc : c ≤ 24) (hm : mo < 2 ^ c) (he : e < c) : ∀ i : Nat, i < c → (th_R c mo e).testBit i = mo.testBit ((i + (c - e)) % c) := by
  intro i hi
  unfold th_R
  split
  · rename_i h0
    subst h0
    rw [Nat.sub_zero, Nat.add_mod_right, Nat.mod_eq_of_lt hi]
  · have e32 : (4294967296 : Nat) = 2 ^ 32 := by decide
    rw [Nat.testBit_mod_two_pow, Nat.testBit_or, e32, Nat.testBit_mod_two_pow, ← Nat.shiftLeft_eq, Nat.testBit_shiftLeft, Nat.testBit_div_two_pow]
    by_cases h : e ≤ i
    · have q1 : (i + (c - e)) % c = i - e := by rw [show i + (c - e) = (i - e) + c by omega, Nat.add_mod_right, Nat.mod_eq_of_lt (by omega)]
      have q2 : mo.testBit (i + (c - e)) = false := Nat.testBit_lt_two_pow (Nat.lt_of_lt_of_le hm (Nat.pow_le_pow_right (by decide) (by omega)))
      rw [q1, q2]
      simp [hi, h, show i < 32 by omega]
    · have q1 : (i + (c - e)) % c = i + (c - e) := Nat.mod_eq_of_lt (by omega)
      rw [q1]
      simp [hi, h]
theorem th_sm0 {f : Nat → Bool} : ∀ {n : Nat}, (∀ i : Nat, i < n → f i = false) → th_sm f n = 0
  | 0, _ => rfl
  | n + 1, h => by
    unfold th_sm
    rw [th_sm0 (n := n) (fun i hi => h i (by omega)), h n (by omega)]
    rfl
theorem th_po24 {mo c : Nat} (hm : mo < 2 ^ c) (hc : c ≤ 24) : th_po mo 24 = th_po mo c := by
  unfold th_po
  have e : th_sm mo.testBit (c + (24 - c)) = th_sm mo.testBit c + th_sm (fun i => mo.testBit (c + i)) (24 - c) := th_sm_sh
  rw [show c + (24 - c) = 24 by omega] at e
  rw [e, th_sm0 (f := fun i => mo.testBit (c + i)) (fun i _ => Nat.testBit_lt_two_pow (Nat.lt_of_lt_of_le hm (Nat.pow_le_pow_right (by decide) (by omega)))), Nat.add_zero]
theorem th_po_s {mo m : Nat} : th_po mo (m + 1) = th_po mo m + bif mo.testBit m then 1 else 0 := rfl
theorem th_po1 {mo c : Nat} (hm : mo < 2 ^ c) (h0 : 0 < mo) : 1 ≤ th_po mo c := by
  have := th_po_dec hm h0
  omega
