/-! ===== rounds: the numbers ===== -/
/-- a motif's m-th beat falls on b: its entry -/
def tw_e (c b m : Nat) : Nat := (b + c - m) % c
theorem tw_el {c b m : Nat} (hb : b < c) : tw_e c b m < c := Nat.mod_lt _ (by omega)
theorem tw_eg {c b m : Nat} (hb : b < c) (hm : m < c) : tu_g c m b = tw_e c b m := by
  show cond (Nat.blt b m) (b + c - m) (b - m) = _
  unfold tw_e
  by_cases h : b < m
  · rw [show Nat.blt b m = true from Nat.ble_eq_true_of_le h, Nat.mod_eq_of_lt (by omega)]
    rfl
  · rw [show Nat.blt b m = false from Bool.eq_false_iff.mpr (fun q => h (Nat.le_of_ble_eq_true q)), show b + c - m = (b - m) + c by omega, Nat.add_mod_right, Nat.mod_eq_of_lt (by omega)]
    rfl
/-- what one choice leads to -/
def tw_p (c S cv ch b : Nat) (rec : Nat → Nat → List Nat) (m : Nat) : List Nat :=
  if th_R c S (tw_e c b m) &&& cv = 0 then rec (cv ||| th_R c S (tw_e c b m)) (ch ||| 2 ^ tw_e c b m) else []
/-- what the last r choices lead to -/
def tw_G (c S cv ch b : Nat) (rec : Nat → Nat → List Nat) (rest : Nat) : Nat → List Nat
  | 0 => []
  | r + 1 => (if rest.testBit (c - (r + 1)) = true then tw_p c S cv ch b rec (c - (r + 1)) else []) ++ tw_G c S cv ch b rec rest r
/-- all that fill a round, with w entries more at most -/
def tw_T (c S : Nat) : Nat → Nat → Nat → List Nat
  | 0, cv, ch => if cv = 2 ^ c - 1 then [ch] else []
  | w + 1, cv, ch => if cv = 2 ^ c - 1 then [ch] else tw_G c S cv ch (tw_op c cv) (tw_T c S w) S c
theorem tw_Gc {c S cv ch b x y : Nat} {rec : Nat → Nat → List Nat} : ∀ r : Nat, (∀ m : Nat, c - r ≤ m → x.testBit m = y.testBit m) → tw_G c S cv ch b rec x r = tw_G c S cv ch b rec y r
  | 0, _ => rfl
  | r + 1, h => by
    show (if x.testBit (c - (r + 1)) = true then tw_p c S cv ch b rec (c - (r + 1)) else []) ++ tw_G c S cv ch b rec x r = (if y.testBit (c - (r + 1)) = true then tw_p c S cv ch b rec (c - (r + 1)) else []) ++ tw_G c S cv ch b rec y r
    rw [h _ (Nat.le_refl _), tw_Gc r (fun m hm => h m (by omega))]
theorem tw_G0 {c S cv ch b : Nat} {rec : Nat → Nat → List Nat} : ∀ r : Nat, tw_G c S cv ch b rec 0 r = []
  | 0 => rfl
  | r + 1 => by
    show (if (0 : Nat).testBit (c - (r + 1)) = true then tw_p c S cv ch b rec (c - (r + 1)) else []) ++ tw_G c S cv ch b rec 0 r = []
    rw [Nat.zero_testBit, tw_G0 r]
    rfl
/-- the least member first -/
theorem tw_Gl {c S cv ch b x y : Nat} {rec : Nat → Nat → List Nat} (hy : y < c) (h0 : x.testBit y = true) (hl : ∀ i : Nat, i < y → x.testBit i = false) : ∀ r : Nat, r ≤ c → c - r ≤ y → tw_G c S cv ch b rec x r = tw_p c S cv ch b rec y ++ tw_G c S cv ch b rec (x ^^^ 2 ^ y) r
  | 0, _, h => absurd h (by omega)
  | r + 1, hr, h => by
    show (if x.testBit (c - (r + 1)) = true then tw_p c S cv ch b rec (c - (r + 1)) else []) ++ tw_G c S cv ch b rec x r = tw_p c S cv ch b rec y ++ ((if (x ^^^ 2 ^ y).testBit (c - (r + 1)) = true then tw_p c S cv ch b rec (c - (r + 1)) else []) ++ tw_G c S cv ch b rec (x ^^^ 2 ^ y) r)
    rw [Nat.testBit_xor, Nat.testBit_two_pow]
    by_cases e : c - (r + 1) = y
    · rw [e, h0, if_pos rfl, tw_Gc (x := x) (y := x ^^^ 2 ^ y) r (fun m hm => by
        rw [Nat.testBit_xor, Nat.testBit_two_pow]
        simp [show ¬ y = m by omega])]
      simp
    · rw [hl _ (by omega), tw_Gl hy h0 hl r (by omega) (by omega)]
      simp [show ¬ y = c - (r + 1) from fun q => e q.symm]
theorem tw_Gr {c S cv ch b x : Nat} {rec rec2 : Nat → Nat → List Nat} (h : ∀ m : Nat, m < c → th_R c S (tw_e c b m) &&& cv = 0 → rec (cv ||| th_R c S (tw_e c b m)) (ch ||| 2 ^ tw_e c b m) = rec2 (cv ||| th_R c S (tw_e c b m)) (ch ||| 2 ^ tw_e c b m)) : ∀ r : Nat, r ≤ c → tw_G c S cv ch b rec x r = tw_G c S cv ch b rec2 x r
  | 0, _ => rfl
  | r + 1, hr => by
    show (if x.testBit (c - (r + 1)) = true then tw_p c S cv ch b rec (c - (r + 1)) else []) ++ tw_G c S cv ch b rec x r = (if x.testBit (c - (r + 1)) = true then tw_p c S cv ch b rec2 (c - (r + 1)) else []) ++ tw_G c S cv ch b rec2 x r
    rw [tw_Gr h r (by omega)]
    congr 1
    by_cases q : x.testBit (c - (r + 1)) = true
    · rw [if_pos q, if_pos q]
      unfold tw_p
      by_cases z : th_R c S (tw_e c b (c - (r + 1))) &&& cv = 0
      · rw [if_pos z, if_pos z, h _ (by omega) z]
      · rw [if_neg z, if_neg z]
    · rw [if_neg q, if_neg q]
/-- a place more is taken -/
theorem tw_up {c S cv e L : Nat} (hc : c ≤ 24) (hS : S < 2 ^ c) (hcv : cv < 2 ^ c) (he : e < c) (hd : th_R c S e &&& cv = 0) (hp : th_po cv c = L * th_po S c) : cv ||| th_R c S e < 2 ^ c ∧ th_po (cv ||| th_R c S e) c = (L + 1) * th_po S c := by
  refine ⟨Nat.or_lt_two_pow hcv (th_R_lt hS), ?_⟩
  rw [th_po_or (by rw [Nat.and_comm]; exact hd), hp, th_po_rot (Nat.le_of_lt he) (th_R_bit hc hS he), Nat.add_mul, Nat.one_mul]
theorem tw_fl {c cv : Nat} (hcv : cv < 2 ^ c) (h : th_po cv c = c) : cv = 2 ^ c - 1 := th_fullb hcv (th_sm_full h)
/-- more room changes nothing -/
theorem tw_Tf {c S D : Nat} (hc : c ≤ 24) (hS : S < 2 ^ c) (hD : D * th_po S c = c) : ∀ (w L cv ch k : Nat), cv < 2 ^ c → th_po cv c = L * th_po S c → L + w = D → tw_T c S (w + k) cv ch = tw_T c S w cv ch
  | 0, L, cv, ch, k, hcv, hp, hL => by
    have hf : cv = 2 ^ c - 1 := tw_fl hcv (by rw [hp, show L = D by omega]; exact hD)
    cases k with
    | zero => rfl
    | succ k =>
      show (if cv = 2 ^ c - 1 then [ch] else tw_G c S cv ch (tw_op c cv) (tw_T c S (0 + k)) S c) = (if cv = 2 ^ c - 1 then [ch] else [])
      rw [if_pos hf, if_pos hf]
  | w + 1, L, cv, ch, k, hcv, hp, hL => by
    rw [show w + 1 + k = (w + k) + 1 by omega]
    show (if cv = 2 ^ c - 1 then [ch] else tw_G c S cv ch (tw_op c cv) (tw_T c S (w + k)) S c) = (if cv = 2 ^ c - 1 then [ch] else tw_G c S cv ch (tw_op c cv) (tw_T c S w) S c)
    by_cases hf : cv = 2 ^ c - 1
    · rw [if_pos hf, if_pos hf]
    · rw [if_neg hf, if_neg hf]
      have ho := (tw_opk hcv hf).1
      refine tw_Gr (fun m hm hd => ?_) c (Nat.le_refl _)
      obtain ⟨u1, u2⟩ := tw_up hc hS hcv (tw_el ho) hd hp
      exact tw_Tf hc hS hD w (L + 1) _ _ k u1 u2 (by omega)
theorem tw_Gn {c S cv ch b x : Nat} {rec : Nat → Nat → List Nat} (h : ∀ m : Nat, m < c → th_R c S (tw_e c b m) &&& cv = 0 → rec (cv ||| th_R c S (tw_e c b m)) (ch ||| 2 ^ tw_e c b m) = []) : ∀ r : Nat, r ≤ c → tw_G c S cv ch b rec x r = []
  | 0, _ => rfl
  | r + 1, hr => by
    show (if x.testBit (c - (r + 1)) = true then tw_p c S cv ch b rec (c - (r + 1)) else []) ++ tw_G c S cv ch b rec x r = []
    rw [tw_Gn h r (by omega), List.append_nil]
    by_cases q : x.testBit (c - (r + 1)) = true
    · rw [if_pos q]
      unfold tw_p
      by_cases z : th_R c S (tw_e c b (c - (r + 1))) &&& cv = 0
      · rw [if_pos z, h _ (by omega) z]
      · rw [if_neg z]
    · rw [if_neg q]
/-- a motif whose size does not divide the round fills none -/
theorem tw_Tn {c S : Nat} (hc : c ≤ 24) (hS : S < 2 ^ c) (hD : ∀ D : Nat, ¬ D * th_po S c = c) : ∀ (w L cv ch : Nat), cv < 2 ^ c → th_po cv c = L * th_po S c → tw_T c S w cv ch = []
  | 0, L, cv, ch, hcv, hp => by
    show (if cv = 2 ^ c - 1 then [ch] else []) = []
    rw [if_neg (fun e => hD L (by rw [← hp, e, th_po_fu]))]
  | w + 1, L, cv, ch, hcv, hp => by
    show (if cv = 2 ^ c - 1 then [ch] else tw_G c S cv ch (tw_op c cv) (tw_T c S w) S c) = []
    have hf : ¬ cv = 2 ^ c - 1 := fun e => hD L (by rw [← hp, e, th_po_fu])
    rw [if_neg hf]
    have ho := (tw_opk hcv hf).1
    refine tw_Gn (fun m hm hd => ?_) c (Nat.le_refl _)
    obtain ⟨u1, u2⟩ := tw_up hc hS hcv (tw_el ho) hd hp
    exact tw_Tn hc hS hD w (L + 1) _ _ u1 u2
theorem tw_Gb {c S cv ch b x B : Nat} {rec : Nat → Nat → List Nat} (h : ∀ m : Nat, m < c → (rec (cv ||| th_R c S (tw_e c b m)) (ch ||| 2 ^ tw_e c b m)).length ≤ B) : ∀ r : Nat, r ≤ c → (tw_G c S cv ch b rec x r).length + th_po x (c - r) * B ≤ th_po x c * B
  | 0, _ => by
    show 0 + _ ≤ _
    rw [Nat.sub_zero, Nat.zero_add]
    exact Nat.le_refl _
  | r + 1, hr => by
    have ih := tw_Gb (x := x) h r (by omega)
    have e : th_po x (c - r) = th_po x (c - (r + 1)) + bif x.testBit (c - (r + 1)) then 1 else 0 := by
      rw [show c - r = (c - (r + 1)) + 1 by omega]
      rfl
    show ((if x.testBit (c - (r + 1)) = true then tw_p c S cv ch b rec (c - (r + 1)) else []) ++ tw_G c S cv ch b rec x r).length + _ ≤ _
    rw [List.length_append]
    rw [e, Nat.add_mul] at ih
    cases q : x.testBit (c - (r + 1)) with
    | false =>
      rw [q] at ih
      simp only [Bool.false_eq_true, if_false, List.length_nil]
      simp only [cond_false, Nat.zero_mul] at ih
      omega
    | true =>
      rw [q] at ih
      simp only [cond_true, Nat.one_mul] at ih
      have hp : (tw_p c S cv ch b rec (c - (r + 1))).length ≤ B := by
        unfold tw_p
        split
        · exact h _ (by omega)
        · exact Nat.zero_le _
      simp only [if_true]
      omega
theorem tw_Tb {c S : Nat} (k1 : 1 ≤ th_po S c) : ∀ (w cv ch : Nat), (tw_T c S w cv ch).length ≤ th_po S c ^ w
  | 0, cv, ch => by
    show (if cv = 2 ^ c - 1 then [ch] else []).length ≤ 1
    split
    · exact Nat.le_refl _
    · exact Nat.zero_le _
  | w + 1, cv, ch => by
    show (if cv = 2 ^ c - 1 then [ch] else tw_G c S cv ch (tw_op c cv) (tw_T c S w) S c).length ≤ _
    split
    · exact Nat.pow_pos k1
    · have h := tw_Gb (c := c) (S := S) (cv := cv) (ch := ch) (b := tw_op c cv) (x := S) (B := th_po S c ^ w) (rec := tw_T c S w) (fun m _ => tw_Tb k1 w _ _) c (Nat.le_refl _)
      rw [Nat.pow_succ, Nat.mul_comm]
      omega
theorem tw_Gm {c S cv ch b x B : Nat} {rec : Nat → Nat → List Nat} (h : ∀ m : Nat, m < c → ∀ v ∈ rec (cv ||| th_R c S (tw_e c b m)) (ch ||| 2 ^ tw_e c b m), v < B) : ∀ r : Nat, r ≤ c → ∀ v ∈ tw_G c S cv ch b rec x r, v < B
  | 0, _, v, hv => absurd hv List.not_mem_nil
  | r + 1, hr, v, hv => by
    rcases List.mem_append.mp (show v ∈ (if x.testBit (c - (r + 1)) = true then tw_p c S cv ch b rec (c - (r + 1)) else []) ++ tw_G c S cv ch b rec x r from hv) with q | q
    · by_cases z : x.testBit (c - (r + 1)) = true
      · rw [if_pos z] at q
        unfold tw_p at q
        by_cases z2 : th_R c S (tw_e c b (c - (r + 1))) &&& cv = 0
        · rw [if_pos z2] at q
          exact h _ (by omega) v q
        · rw [if_neg z2] at q
          exact absurd q List.not_mem_nil
      · rw [if_neg z] at q
        exact absurd q List.not_mem_nil
    · exact tw_Gm h r (by omega) v q
theorem tw_Tm {c S : Nat} (hS : S < 2 ^ c) : ∀ (w cv ch : Nat), cv < 2 ^ c → ch < 2 ^ c → ∀ v ∈ tw_T c S w cv ch, v < 2 ^ c
  | 0, cv, ch, _, hch, v, hv => by
    have hv2 : v ∈ (if cv = 2 ^ c - 1 then [ch] else []) := hv
    split at hv2
    · rw [List.mem_singleton.mp hv2]
      exact hch
    · exact absurd hv2 List.not_mem_nil
  | w + 1, cv, ch, hcv, hch, v, hv => by
    have hv2 : v ∈ (if cv = 2 ^ c - 1 then [ch] else tw_G c S cv ch (tw_op c cv) (tw_T c S w) S c) := hv
    by_cases hf : cv = 2 ^ c - 1
    · rw [if_pos hf] at hv2
      rw [List.mem_singleton.mp hv2]
      exact hch
    · rw [if_neg hf] at hv2
      have ho := (tw_opk hcv hf).1
      exact tw_Gm (fun m hm => tw_Tm hS w _ _ (Nat.or_lt_two_pow hcv (th_R_lt hS)) (Nat.or_lt_two_pow hch (Nat.pow_lt_pow_right (by decide) (tw_el ho)))) c (Nat.le_refl _) v hv2
/-- all fills of a round -/
def tw_A (c S : Nat) : List Nat := tw_T c S 24 0 0
theorem tw_Ad {c S : Nat} (hc : c ≤ 24) (hS : S < 2 ^ c) (k1 : 1 ≤ th_po S c) (hd : c % th_po S c = 0) : tw_A c S = tw_T c S (c / th_po S c) 0 0 := by
  have hD : c / th_po S c * th_po S c = c := Nat.div_mul_cancel (Nat.dvd_of_mod_eq_zero hd)
  have h24 : c / th_po S c ≤ 24 := Nat.le_trans (Nat.div_le_self _ _) hc
  have hz : th_po 0 c = 0 * th_po S c := by rw [Nat.zero_mul]; exact th_sm0 (fun i _ => Nat.zero_testBit i)
  have := tw_Tf hc hS hD (c / th_po S c) 0 0 0 (24 - c / th_po S c) (Nat.two_pow_pos c) hz (by omega)
  rw [show c / th_po S c + (24 - c / th_po S c) = 24 by omega] at this
  exact this
theorem tw_An {c S : Nat} (hc : c ≤ 24) (hS : S < 2 ^ c) (hd : ¬ c % th_po S c = 0) : tw_A c S = [] := by
  have hz : th_po 0 c = 0 * th_po S c := by rw [Nat.zero_mul]; exact th_sm0 (fun i _ => Nat.zero_testBit i)
  exact tw_Tn hc hS (fun D e => hd (by
    have h2 : (D * th_po S c) % th_po S c = 0 := Nat.mul_mod_left D _
    rw [e] at h2
    exact h2)) 24 0 0 0 (Nat.two_pow_pos c) hz
theorem tw_rk : (List.range 25).all (fun c => (List.range 25).all (fun k => Nat.beq k 0 || !(Nat.beq (c % k) 0) || Nat.ble (k ^ (c / k)) 6561)) = true := by decide +kernel
theorem tw_Al {c S : Nat} (hc : c ≤ 24) (hS : S < 2 ^ c) (k1 : 1 ≤ th_po S c) : (tw_A c S).length ≤ 6561 := by
  have kc : th_po S c ≤ c := th_sm_le
  by_cases hd : c % th_po S c = 0
  · rw [tw_Ad hc hS k1 hd]
    have h1 := tw_Tb (c := c) (S := S) k1 (c / th_po S c) 0 0
    have h2 := List.all_eq_true.mp (List.all_eq_true.mp tw_rk c (List.mem_range.mpr (by omega))) (th_po S c) (List.mem_range.mpr (by omega))
    rw [hd, show Nat.beq (th_po S c) 0 = false from Bool.eq_false_iff.mpr (fun e => by have := Nat.eq_of_beq_eq_true e; omega)] at h2
    have h3 : th_po S c ^ (c / th_po S c) ≤ 6561 := Nat.le_of_ble_eq_true (by simpa using h2)
    omega
  · rw [tw_An hc hS hd]
    exact Nat.zero_le _
theorem tw_Av {c S : Nat} (hS : S < 2 ^ c) : ∀ v ∈ tw_A c S, v < 2 ^ c := tw_Tm hS 24 0 0 (Nat.two_pow_pos c) (Nat.two_pow_pos c)
/-- sorted rows of the same things are the same -/
theorem tw_sp : ∀ {l k : List Nat}, l.Perm k → l.Pairwise (· ≤ ·) → k.Pairwise (· ≤ ·) → l = k
  | [], k, h, _, _ => (List.nil_perm.mp h).symm
  | a :: l, [], h, _, _ => absurd (List.Perm.length_eq h) (by simp)
  | a :: l, b :: k, h, hl, hk => by
    have e1 : a ≤ b := by
      rcases List.mem_cons.mp (h.mem_iff.mpr (List.mem_cons_self)) with q | q
      · omega
      · exact (List.pairwise_cons.mp hl).1 b q
    have e2 : b ≤ a := by
      rcases List.mem_cons.mp (h.mem_iff.mp (List.mem_cons_self)) with q | q
      · omega
      · exact (List.pairwise_cons.mp hk).1 a q
    obtain rfl : a = b := by omega
    rw [tw_sp ((List.perm_cons a).mp h) (List.pairwise_cons.mp hl).2 (List.pairwise_cons.mp hk).2]
