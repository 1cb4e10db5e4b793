/-! ===== the checker is right: a context ===== -/
section TVX
variable {T : tv_TT} {cx : Nat → List tv_C} {c : tv_C} {As : List Value} {σ0 : tm_S} {ρ0 : List Int} {rc : tv_rc} {pc : Nat} {E : tv_E} {L S : List tv_A} {F : tv_F}
set_option maxHeartbeats 4000000 in
theorem tv_step_ok (hva : tv_va c.2.1 As) (hck : ∀ q ∈ c.2.2.2.1, tv_rk (tt_r c.1) q.1 = true ∧ ∀ w ∈ q.2, (∀ i, (tv_po c.2.1 0)[w.1]? = some i → tv_kp c.1 i = true) ∧ ∀ t, c.2.1[w.1]? = some t → t.1 = 1) (HC : ∀ a, ∀ c2 ∈ cx a, c2.2.2.2.2.2 < c.2.2.2.2.2 → tv_Snd T c2 ∧ ∀ q ∈ c2.2.2.2.1, tv_tok q.1 = true)
    (R : ∀ pc E L S F, rc pc E L S F = true → tv_SD T c (lv_args 0 As) σ0 ρ0 (tv_Qc T c As σ0) pc E L S F) (h : tv_step T cx c rc pc E L S F = true) : tv_SD T c (lv_args 0 As) σ0 ρ0 (tv_Qc T c As σ0) pc E L S F := by
  unfold tv_step at h
  cases hat : tt_at c.1 pc with
  | none => rw [hat] at h; cases h
  | some x =>
    obtain ⟨⟨t, a, z, zz⟩, n⟩ := x
    rw [hat] at h
    dsimp only at h
    split at h
    · exact ts_ldi R hat h
    · exact ts_ldl R hat h
    · exact ts_lda R hat h
    · exact ts_sti R hat h
    · exact ts_stl R hat h
    · exact ts_sta R hat h
    · exact ts_inc R hat h
    · exact ts_con R hat h
    · exact fun ρ ls st σ g => wp_lco hat (R _ _ _ _ _ h ρ ls _ σ (tv_push g (tv_long _)))
    · exact ts_ib R hat h
    · exact ts_div R hat h
    · exact ts_rem R hat h
    · exact ts_neg R hat h
    · exact ts_lb R hat h
    · exact ts_ls R hat h
    · exact ts_cmp R hat h
    · exact ts_cv R hat h
    · exact ts_dup R hat h
    · exact ts_pop R hat h
    · exact ts_get R hat h
    · exact ts_put R hat h
    · exact ts_ald R hat h
    · exact ts_ast R hat h
    · exact ts_len R hat h
    · exact fun ρ ls st σ g => wp_go hat (R _ _ _ _ _ h ρ ls _ σ g)
    · exact ts_if R hat h
    · exact ts_ic R hat h
    · exact ts_ac R hat h
    · exact ts_sw R hat h
    · exact ts_ret hva hck hat h
    · exact ts_call R (HC a) hat h
    · exact fun ρ ls st σ g => wp_gsE hat (R _ _ _ _ _ h ρ ls _ σ (tv_push g (tv_ref _)))
    · exact fun ρ ls st σ g => wp_str hat (R _ _ _ _ _ h ρ ls _ σ (tv_push g (tv_ref _)))
    · exact ts_mth R hat h
    · cases h
theorem tv_run_ok {src : Option tv_M} (hva : tv_va c.2.1 As) (hck : ∀ q ∈ c.2.2.2.1, tv_rk (tt_r c.1) q.1 = true ∧ ∀ w ∈ q.2, (∀ i, (tv_po c.2.1 0)[w.1]? = some i → tv_kp c.1 i = true) ∧ ∀ t, c.2.1[w.1]? = some t → t.1 = 1) (HC : ∀ a, ∀ c2 ∈ cx a, c2.2.2.2.2.2 < c.2.2.2.2.2 → tv_Snd T c2 ∧ ∀ q ∈ c2.2.2.2.1, tv_tok q.1 = true)
    (HH : ∀ h ∈ c.2.2.1, ∀ (E : tv_E) (L : List tv_A) (F : tv_F) (ρ : List Int) (ls : List (Nat × Value)) (σ : tm_S), tv_edge src E L h = true → tv_g T c (lv_args 0 As) σ0 ρ0 ρ E L [] F ls [] σ → WP c.2.2.2.2.2 c.1 h.1 ls [] σ (tv_Qc T c As σ0)) :
    ∀ (f pc : Nat) (E : tv_E) (L S : List tv_A) (F : tv_F), tv_run T cx c src f pc E L S F = true → tv_SD T c (lv_args 0 As) σ0 ρ0 (tv_Qc T c As σ0) pc E L S F := by
  intro f
  induction f with
  | zero => intro pc E L S F h; cases h
  | succ f ih =>
    intro pc E L S F h
    refine tv_step_ok hva hck HC ?_ h
    intro pc E L S F h
    split at h
    · rename_i hd hh
      have m1 := List.mem_of_find?_eq_some hh
      have m2 : hd.1 = pc := tv_beq (List.find?_some (p := fun h : tv_H => Nat.beq h.1 pc) hh)
      split at h
      · intro ρ ls st σ g
        cases st with
        | cons x t => exact g.2.2.2.1.elim
        | nil =>
          rw [← m2]
          exact HH hd m1 E L F ρ ls σ h g
      · cases h
    · exact ih pc E L S F h
end TVX
theorem tv_L0_at : ∀ {ts : List tv_T} (i0 : Nat) {k : Nat} {a : tv_A}, (tv_L0 ts i0)[k]? = some a → ∃ t, ts[k]? = some t ∧ a = tv_L1 t (i0 + k)
  | [], _, _, _, h => by simp [tv_L0] at h
  | t :: ts, i0, 0, a, h => ⟨t, rfl, by simpa [tv_L0] using h.symm⟩
  | t :: ts, i0, k + 1, a, h => by
    obtain ⟨u, h1, h2⟩ := tv_L0_at (ts := ts) (i0 + 1) (k := k) (a := a) (by simpa [tv_L0] using h)
    exact ⟨u, by simpa using h1, by rw [h2, show i0 + 1 + k = i0 + (k + 1) by omega]⟩
theorem tv_E0_at : ∀ {ts : List tv_T} {k : Nat} {q : Int × Int}, (tv_E0 ts)[k]? = some q → (∃ t, ts[k]? = some t ∧ q = cond (Nat.beq t.1 1) (t.2.1, t.2.2) (0, 0)) ∨ (k = ts.length ∧ q = (0, 0))
  | [], 0, q, h => Or.inr ⟨rfl, by simpa [tv_E0] using h.symm⟩
  | [], k + 1, q, h => by simp [tv_E0] at h
  | t :: ts, 0, q, h => Or.inl ⟨t, rfl, by simpa [tv_E0] using h.symm⟩
  | t :: ts, k + 1, q, h => by
    rcases tv_E0_at (ts := ts) (k := k) (q := q) (by simpa [tv_E0] using h) with ⟨u, h1, h2⟩ | ⟨h1, h2⟩
    · exact Or.inl ⟨u, by simpa using h1, h2⟩
    · exact Or.inr ⟨by simp [h1], h2⟩
theorem tv_E0_len : ∀ ts : List tv_T, (tv_E0 ts).length = ts.length + 1
  | [] => rfl
  | t :: ts => by simp [tv_E0, tv_E0_len ts]
def tv_r0 (V : Nat → Int) : List tv_T → Nat → List Int
  | [], _ => [0]
  | t :: ts, i => cond (Nat.beq t.1 1) (V i) 0 :: tv_r0 V ts (i + 1)
theorem tv_r0_len (V : Nat → Int) : ∀ (ts : List tv_T) (i : Nat), (tv_r0 V ts i).length = ts.length + 1
  | [], _ => rfl
  | t :: ts, i => by simp [tv_r0, tv_r0_len V ts]
theorem tv_r0_at (V : Nat → Int) : ∀ {ts : List tv_T} (i0 : Nat) {k : Nat} {t : tv_T}, ts[k]? = some t → (tv_r0 V ts i0)[k]? = some (cond (Nat.beq t.1 1) (V (i0 + k)) 0)
  | [], _, _, _, h => by simp at h
  | t :: ts, i0, 0, u, h => by
    have e : t = u := by simpa using h
    subst e
    rfl
  | t :: ts, i0, k + 1, u, h => by
    have h1 := tv_r0_at V (ts := ts) (i0 + 1) (k := k) (t := u) (by simpa using h)
    show (tv_r0 V ts (i0 + 1))[k]? = _
    rw [h1, show i0 + 1 + k = i0 + (k + 1) by omega]
theorem tv_r0_end (V : Nat → Int) : ∀ (ts : List tv_T) (i0 : Nat), (tv_r0 V ts i0)[ts.length]? = some 0
  | [], _ => rfl
  | t :: ts, i0 => by
    show (tv_r0 V ts (i0 + 1))[ts.length]? = some 0
    exact tv_r0_end V ts (i0 + 1)
/-- what holds at a head, or at the entry: locals of these types -/
def tv_inv (T : tv_TT) (c : tv_C) (A0 : List (Nat × Value)) (σ0 : tm_S) (ts : List tv_T) (ls : List (Nat × Value)) (σ : tm_S) : Prop :=
  (∀ (i : Nat) (t : tv_T), ts[i]? = some t → t.1 ≠ 0 → ∃ x, (i, x) ∈ ls ∧ tv_vt t x) ∧ (tv_TY T σ ∧ tv_un σ0 σ c.2.2.2.2.1) ∧ (∀ q ∈ A0, tv_kp c.1 q.1 = true → ¬ q.2.category = 2 → q ∈ ls) ∧ (∀ (i : Nat) (x y : Value), (i, x) ∈ ls → (i, y) ∈ ls → x = y)
def tv_mt (V : Nat → Int) (ls : List (Nat × Value)) : Prop := ∀ (i : Nat) (x : Int32), (i, Value.int x) ∈ ls → V i = x.toInt
theorem tv_mt_ex {ls : List (Nat × Value)} (h : ∀ (i : Nat) (x y : Value), (i, x) ∈ ls → (i, y) ∈ ls → x = y) : ∃ V, tv_mt V ls := by
  have key : ∀ i : Nat, ∃ m : Int, ∀ x : Int32, (i, Value.int x) ∈ ls → m = x.toInt := by
    intro i
    by_cases hx : ∃ x : Int32, (i, Value.int x) ∈ ls
    · obtain ⟨x, hx⟩ := hx
      refine ⟨x.toInt, fun y hy => ?_⟩
      have e := h i _ _ hx hy
      cases e
      rfl
    · exact ⟨0, fun x hy => absurd ⟨x, hy⟩ hx⟩
  obtain ⟨V, hV⟩ := Classical.axiomOfChoice key
  exact ⟨V, hV⟩
theorem tv_start {T : tv_TT} {c : tv_C} {A0 : List (Nat × Value)} {σ0 : tm_S} {ts : List tv_T} {ls : List (Nat × Value)} {σ : tm_S} {V : Nat → Int} (hI : tv_inv T c A0 σ0 ts ls σ) (hV : tv_mt V ls) (htok : ∀ t ∈ ts, tv_tok t = true) : tv_g T c A0 σ0 (tv_r0 V ts 0) (tv_r0 V ts 0) (tv_E0 ts) (tv_L0 ts 0) [] [] ls [] σ := by
  refine ⟨⟨by rw [tv_r0_len, tv_E0_len], fun v m q hm hq => ?_⟩, fun i m h => h, fun i a ha hn => ?_, trivial, (fun q hq => nomatch hq), hI.2.1, hI.2.2⟩
  · rcases tv_E0_at hq with ⟨t, h1, h2⟩ | ⟨h1, h2⟩
    · rw [tv_r0_at V 0 h1] at hm
      cases hb : Nat.beq t.1 1 with
      | false =>
        rw [hb] at hm h2
        cases hm
        rw [h2]
        exact ⟨Int.le_refl _, Int.le_refl _⟩
      | true =>
        rw [hb] at hm h2
        cases hm
        rw [h2, Nat.zero_add]
        have ht : t.1 = 1 := tv_beq hb
        obtain ⟨x, x1, x2⟩ := hI.1 v t h1 (by omega)
        obtain ⟨t1, lo, hi⟩ := t
        dsimp only at ht
        subst ht
        obtain ⟨n, rfl, l1, l2⟩ := x2
        rw [hV v n x1]
        exact ⟨l1, l2⟩
    · rw [h1, tv_r0_end] at hm
      cases hm
      rw [h2]
      exact ⟨Int.le_refl _, Int.le_refl _⟩
  · obtain ⟨t, h1, h2⟩ := tv_L0_at 0 ha
    rw [Nat.zero_add] at h2
    have htk := htok t (List.mem_of_getElem? h1)
    obtain ⟨t1, lo, hi⟩ := t
    match t1, h1, h2, htk with
    | 0, h1, h2, _ => rw [h2] at hn; exact absurd rfl hn
    | 1, h1, h2, _ =>
      obtain ⟨x, x1, n, rfl, l1, l2⟩ := hI.1 i _ h1 (by intro e; cases e)
      refine ⟨_, x1, ?_⟩
      rw [h2]
      refine Or.inl ⟨rfl, n, V i, rfl, ?_, ?_⟩
      · have := tv_r0_at V 0 h1
        rw [Nat.zero_add] at this
        exact this
      · show n.toInt = V i + 0
        rw [hV i n x1]
        omega
    | 2, h1, h2, _ =>
      obtain ⟨x, x1, n, rfl⟩ := hI.1 i _ h1 (by intro e; cases e)
      refine ⟨_, x1, ?_⟩
      rw [h2]
      exact tv_long n
    | 3, h1, h2, htk =>
      obtain ⟨x, x1, n, rfl, l1, l2⟩ := hI.1 i _ h1 (by intro e; cases e)
      refine ⟨_, x1, ?_⟩
      rw [h2]
      have h0 := (tv_le_iff 0 lo).mp htk
      exact Or.inr (Or.inr ⟨rfl, n, rfl, by show lo.toNat ≤ n; omega, l2⟩)
    | k + 4, h1, h2, _ => rw [h2] at hn; exact absurd rfl hn
theorem tv_gT_at {E : tv_E} : ∀ {ts : List tv_T} {L : List tv_A}, tv_gT ts L E = true → ∀ (i : Nat) (t : tv_T), ts[i]? = some t → ∃ a, L[i]? = some a ∧ tv_sub E a t = true
  | [], _, _, i, t, h => by simp at h
  | u :: ts, [], h, _, _, _ => by cases h
  | u :: ts, a :: L, h, 0, t, ht => by
    unfold tv_gT at h
    rw [Bool.and_eq_true] at h
    have e : u = t := by simpa using ht
    subst e
    exact ⟨a, rfl, h.1⟩
  | u :: ts, a :: L, h, i + 1, t, ht => by
    unfold tv_gT at h
    rw [Bool.and_eq_true] at h
    obtain ⟨b, h1, h2⟩ := tv_gT_at h.2 i t (by simpa using ht)
    exact ⟨b, by simpa using h1, h2⟩
theorem tv_sub_tag {E : tv_E} {a : tv_A} {t : tv_T} (h : tv_sub E a t = true) (ht : t.1 ≠ 0) : a.1 ≠ 0 := by
  obtain ⟨t1, lo, hi⟩ := t
  match t1, h, ht with
  | 0, _, ht => exact absurd rfl ht
  | 1, h, _ =>
    change (match tv_iv E a with
      | some q => tv_le lo q.1 && tv_le q.2 hi
      | none => false) = true at h
    split at h
    · rename_i q hq
      rw [tv_iv_tag hq]
      decide
    · cases h
  | 2, h, _ => have e : a.1 = 2 := tv_beq h; omega
  | 3, h, _ =>
    change (Nat.beq a.1 3 && tv_le lo (a.2.1 : Int) && tv_le a.2.2 hi) = true at h
    simp only [Bool.and_eq_true] at h
    have e : a.1 = 3 := tv_beq h.1.1
    omega
  | k + 4, h, _ => cases h
theorem tv_inv_of {T : tv_TT} {c : tv_C} {A0 : List (Nat × Value)} {σ0 : tm_S} {ρ0 ρ : List Int} {E : tv_E} {L : List tv_A} {F : tv_F} {ls : List (Nat × Value)} {st : List Value} {S : List tv_A} {σ : tm_S} {ts : List tv_T} (g : tv_g T c A0 σ0 ρ0 ρ E L S F ls st σ) (h : tv_gT ts L E = true) : tv_inv T c A0 σ0 ts ls σ := by
  refine ⟨fun i t h1 h2 => ?_, g.2.2.2.2.2⟩
  obtain ⟨a, a1, a2⟩ := tv_gT_at h i t h1
  obtain ⟨x, x1, x2⟩ := g.2.2.1 i a a1 (tv_sub_tag a2 h2)
  exact ⟨x, x1, tv_sub_vt g.1 x2 a2 h2⟩
/-! measures -/
def tv_tv (V : Nat → Int) (t : Int × Nat × Int) : Int := if t.1 = 0 then t.2.2 else if t.1 = 1 then V t.2.1 + t.2.2 else t.2.2 - V t.2.1
def tv_B : Int := 4398046511104
def tv_me (V : Nat → Int) : tv_M → Int
  | [] => 0
  | t :: ts => tv_tv V t * tv_B ^ ts.length + tv_me V ts
theorem tv_Bp (n : Nat) : 0 < tv_B ^ n := Int.pow_pos (by decide)
theorem tv_me_rng {V : Nat → Int} : ∀ {m : tv_M}, (∀ t ∈ m, 0 ≤ tv_tv V t ∧ tv_tv V t < tv_B) → 0 ≤ tv_me V m ∧ tv_me V m < tv_B ^ m.length
  | [], _ => ⟨Int.le_refl _, by show (0 : Int) < tv_B ^ 0; decide⟩
  | t :: ts, h => by
    obtain ⟨h1, h2⟩ := tv_me_rng (m := ts) (fun u hu => h u (List.mem_cons_of_mem _ hu))
    obtain ⟨h3, h4⟩ := h t List.mem_cons_self
    have hp := tv_Bp ts.length
    show 0 ≤ tv_tv V t * tv_B ^ ts.length + tv_me V ts ∧ tv_tv V t * tv_B ^ ts.length + tv_me V ts < tv_B ^ (ts.length + 1)
    have m1 : 0 ≤ tv_tv V t * tv_B ^ ts.length := Int.mul_nonneg h3 (Int.le_of_lt hp)
    have m2 : (tv_tv V t + 1) * tv_B ^ ts.length ≤ tv_B * tv_B ^ ts.length := Int.mul_le_mul_of_nonneg_right (by omega) (Int.le_of_lt hp)
    rw [Int.add_mul, Int.one_mul] at m2
    rw [Int.pow_succ, Int.mul_comm (tv_B ^ ts.length) tv_B]
    omega
theorem tv_lex_ok {ρ : List Int} {E : tv_E} {L : List tv_A} {ls : List (Nat × Value)} {V V2 : Nat → Int} (hE : tv_gE ρ E) (hL : ∀ (i : Nat) (a : tv_A), L[i]? = some a → a.1 ≠ 0 → ∃ x, (i, x) ∈ ls ∧ tv_gv ρ a x) (hV2 : tv_mt V2 ls) :
    ∀ {m m2 : tv_M}, tv_lex E L m m2 = true → m.length = m2.length → (∀ s ∈ m, s.1 ≠ 0 → (s.1 = 1 ∨ s.1 = -1) ∧ ρ[s.2.1]? = some (V s.2.1)) → (∀ t ∈ m2, t.1 = 0 ∨ t.1 = 1 ∨ t.1 = -1) → (∀ t ∈ m, 0 ≤ tv_tv V t ∧ tv_tv V t < tv_B) → (∀ t ∈ m2, 0 ≤ tv_tv V2 t ∧ tv_tv V2 t < tv_B) → tv_me V2 m2 < tv_me V m
  | [], [], h, _, _, _, _, _ => by cases h
  | [], _ :: _, h, _, _, _, _, _ => by cases h
  | _ :: _, [], h, _, _, _, _, _ => by cases h
  | s :: ss, t :: ts, h, hl, hs, ht, b1, b2 => by
    unfold tv_lex at h
    split at h
    · rename_i b hb
      have hs0 := hs s List.mem_cons_self
      have ht0 := ht t List.mem_cons_self
      -- the target's local, where it is an int
      have hloc : b.1 = 1 → ∃ mb, ρ[b.2.1]? = some mb ∧ V2 t.2.1 = mb + b.2.2 := by
        intro e
        obtain ⟨x, x1, x2⟩ := hL _ b hb (by omega)
        obtain ⟨n, mb, rfl, h1, h2⟩ := tv_gi x2 e
        exact ⟨mb, h1, by rw [hV2 _ n x1]; exact h2⟩
      have hD : ∀ D : Int × Int, (cond (tv_eq s.1 t.1 && !(tv_eq s.1 0) && Nat.beq b.1 1 && Nat.beq b.2.1 s.2.1 && (tv_eq s.1 1 || tv_eq s.1 (-1)))
          (some (s.1 * b.2.2 + t.2.2 - s.2.2, s.1 * b.2.2 + t.2.2 - s.2.2))
          (match tv_tm E (1, s.2.1, 0) s.1 s.2.2, tv_tm E b t.1 t.2.2 with
            | some S1, some T1 => some (T1.1 - S1.2, T1.2 - S1.1)
            | _, _ => none)) = some D → D.1 ≤ tv_tv V2 t - tv_tv V s ∧ tv_tv V2 t - tv_tv V s ≤ D.2 := by
        intro D hD
        cases hc : (tv_eq s.1 t.1 && !(tv_eq s.1 0) && Nat.beq b.1 1 && Nat.beq b.2.1 s.2.1 && (tv_eq s.1 1 || tv_eq s.1 (-1))) with
        | true =>
          rw [hc] at hD
          cases hD
          simp only [Bool.and_eq_true, Bool.or_eq_true, tv_eq_iff] at hc
          obtain ⟨⟨⟨⟨c1, c2⟩, c3⟩, c4⟩, c5⟩ := hc
          obtain ⟨mb, g1, g2⟩ := hloc (tv_beq c3)
          have hs1 : s.1 ≠ 0 := by omega
          have g3 := (hs0 hs1).2
          rw [tv_beq c4, g3] at g1
          cases g1
          unfold tv_tv
          rw [← c1]
          rcases c5 with c5 | c5
          · rw [c5, if_neg (by decide), if_pos rfl, if_neg (by decide), if_pos rfl]
            dsimp only
            omega
          · rw [c5, if_neg (by decide), if_neg (by decide), if_neg (by decide), if_neg (by decide)]
            dsimp only
            omega
        | false =>
          rw [hc] at hD
          simp only [cond_false] at hD
          split at hD
          · rename_i S1 T1 hS1 hT1
            cases hD
            have hSv : S1.1 ≤ tv_tv V s ∧ tv_tv V s ≤ S1.2 := by
              unfold tv_tm at hS1
              cases h0 : tv_eq s.1 0 with
              | true =>
                rw [h0] at hS1
                cases hS1
                rw [tv_eq_iff] at h0
                unfold tv_tv
                rw [if_pos h0]
                exact ⟨Int.le_refl _, Int.le_refl _⟩
              | false =>
                rw [h0] at hS1
                simp only [cond_false] at hS1
                have hs1 : s.1 ≠ 0 := fun e => by rw [(tv_eq_iff _ _).mpr e] at h0; cases h0
                obtain ⟨g1, g2⟩ := hs0 hs1
                split at hS1
                · rename_i q hq
                  have hq2 : ∃ r, E[s.2.1]? = some r ∧ q = (r.1 + 0, r.2 + 0) := by
                    change (match E[s.2.1]? with
                      | some q => some (q.1 + 0, q.2 + 0)
                      | none => none) = some q at hq
                    split at hq
                    · rename_i r hr
                      exact ⟨r, hr, (Option.some.inj hq).symm⟩
                    · cases hq
                  obtain ⟨r, hr, rfl⟩ := hq2
                  have g3 := hE.2 _ _ _ g2 hr
                  unfold tv_tv
                  rcases g1 with g1 | g1
                  · rw [(tv_eq_iff s.1 1).mpr g1] at hS1
                    cases hS1
                    rw [if_neg hs1, if_pos g1]
                    dsimp only
                    omega
                  · have e1 : tv_eq s.1 1 = false := by
                      cases e : tv_eq s.1 1 with
                      | false => rfl
                      | true => rw [tv_eq_iff] at e; omega
                    rw [e1, (tv_eq_iff s.1 (-1)).mpr g1] at hS1
                    cases hS1
                    rw [if_neg hs1, if_neg (by omega)]
                    dsimp only
                    omega
                · cases hS1
            have hTv : T1.1 ≤ tv_tv V2 t ∧ tv_tv V2 t ≤ T1.2 := by
              unfold tv_tm at hT1
              cases h0 : tv_eq t.1 0 with
              | true =>
                rw [h0] at hT1
                cases hT1
                rw [tv_eq_iff] at h0
                unfold tv_tv
                rw [if_pos h0]
                exact ⟨Int.le_refl _, Int.le_refl _⟩
              | false =>
                rw [h0] at hT1
                simp only [cond_false] at hT1
                have ht1 : t.1 ≠ 0 := fun e => by rw [(tv_eq_iff _ _).mpr e] at h0; cases h0
                split at hT1
                · rename_i q hq
                  have hb1 := tv_iv_tag hq
                  obtain ⟨mb, g1, g2⟩ := hloc hb1
                  have hq2 : ∃ r, E[b.2.1]? = some r ∧ q = (r.1 + b.2.2, r.2 + b.2.2) := by
                    unfold tv_iv at hq
                    split at hq
                    · rename_i v o
                      split at hq
                      · rename_i r hr
                        exact ⟨r, hr, (Option.some.inj hq).symm⟩
                      · cases hq
                    · cases hq
                  obtain ⟨r, hr, rfl⟩ := hq2
                  have g3 := hE.2 _ _ _ g1 hr
                  unfold tv_tv
                  rcases ht0 with e | e | e
                  · exact absurd e ht1
                  · rw [(tv_eq_iff t.1 1).mpr e] at hT1
                    cases hT1
                    rw [if_neg ht1, if_pos e]
                    dsimp only
                    omega
                  · have e1 : tv_eq t.1 1 = false := by
                      cases e2 : tv_eq t.1 1 with
                      | false => rfl
                      | true => rw [tv_eq_iff] at e2; omega
                    rw [e1, (tv_eq_iff t.1 (-1)).mpr e] at hT1
                    cases hT1
                    rw [if_neg ht1, if_neg (by omega)]
                    dsimp only
                    omega
                · cases hT1
            dsimp only
            omega
          · cases hD
      split at h
      · rename_i D hDe
        have hd := hD D hDe
        have hl2 : ss.length = ts.length := by simpa using hl
        have r1 := tv_me_rng (V := V) (m := ss) (fun u hu => b1 u (List.mem_cons_of_mem _ hu))
        have r2 := tv_me_rng (V := V2) (m := ts) (fun u hu => b2 u (List.mem_cons_of_mem _ hu))
        have hp := tv_Bp ss.length
        show tv_tv V2 t * tv_B ^ ts.length + tv_me V2 ts < tv_tv V s * tv_B ^ ss.length + tv_me V ss
        rw [← hl2] at r2 ⊢
        cases hc : tv_le (D.2 + 1) 0 with
        | true =>
          rw [tv_le_iff] at hc
          have m2 : (tv_tv V2 t + 1) * tv_B ^ ss.length ≤ tv_tv V s * tv_B ^ ss.length := Int.mul_le_mul_of_nonneg_right (by omega) (Int.le_of_lt hp)
          rw [Int.add_mul, Int.one_mul] at m2
          omega
        | false =>
          rw [hc] at h
          simp only [cond_false, Bool.and_eq_true, tv_eq_iff] at h
          have e : tv_tv V2 t = tv_tv V s := by omega
          have ih := tv_lex_ok hE hL hV2 (V := V) (m := ss) (m2 := ts) h.2 hl2 (fun u hu => hs u (List.mem_cons_of_mem _ hu)) (fun u hu => ht u (List.mem_cons_of_mem _ hu)) (fun u hu => b1 u (List.mem_cons_of_mem _ hu)) (fun u hu => b2 u (List.mem_cons_of_mem _ hu))
          rw [e]
          omega
      · cases h
    · cases h
theorem tv_mok_ok {h : tv_H} (hm : tv_mok h = true) : h.2.2.length = 5 ∧ (∀ t ∈ h.2.2, t.1 = 0 ∨ t.1 = 1 ∨ t.1 = -1) ∧ (∀ t ∈ h.2.2, t.1 ≠ 0 → ∃ lo hi, h.2.1[t.2.1]? = some (1, lo, hi)) ∧
    ∀ V : Nat → Int, (∀ i lo hi, h.2.1[i]? = some (1, lo, hi) → lo ≤ V i ∧ V i ≤ hi ∧ -2147483648 ≤ V i ∧ V i ≤ 2147483647) → ∀ t ∈ h.2.2, 0 ≤ tv_tv V t ∧ tv_tv V t < tv_B := by
  unfold tv_mok at hm
  rw [Bool.and_eq_true, List.all_eq_true] at hm
  have hB : tv_B = 4398046511104 := rfl
  have key : ∀ t ∈ h.2.2, (t.1 = 0 ∧ 0 ≤ t.2.2 ∧ t.2.2 ≤ 1099511627775) ∨ ((t.1 = 1 ∨ t.1 = -1) ∧ t.2.2 ≤ 1099511627775 ∧ ∃ lo hi, h.2.1[t.2.1]? = some (1, lo, hi) ∧ (t.1 = 1 → 0 ≤ lo + t.2.2) ∧ (t.1 = -1 → 0 ≤ t.2.2 - hi)) := by
    intro t ht
    have h1 := hm.1 t ht
    rw [Bool.and_eq_true, tv_le_iff] at h1
    obtain ⟨h1, h2⟩ := h1
    cases h0 : tv_eq t.1 0 with
    | true =>
      rw [h0] at h1
      rw [tv_eq_iff] at h0
      simp only [cond_true, tv_le_iff] at h1
      exact Or.inl ⟨h0, h1, h2⟩
    | false =>
      rw [h0] at h1
      simp only [cond_false] at h1
      split at h1
      · rename_i lo hi hlh
        cases e1 : tv_eq t.1 1 with
        | true =>
          rw [e1] at h1
          rw [tv_eq_iff] at e1
          simp only [cond_true, tv_le_iff] at h1
          exact Or.inr ⟨Or.inl e1, h2, lo, hi, hlh, fun _ => h1, fun e => by omega⟩
        | false =>
          rw [e1] at h1
          simp only [cond_false] at h1
          cases e2 : tv_eq t.1 (-1) with
          | true =>
            rw [e2] at h1
            rw [tv_eq_iff] at e2
            simp only [cond_true, tv_le_iff] at h1
            exact Or.inr ⟨Or.inr e2, h2, lo, hi, hlh, fun e => by omega, fun _ => h1⟩
          | false => rw [e2] at h1; cases h1
      · cases h1
  refine ⟨tv_beq hm.2, fun t ht => ?_, fun t ht hne => ?_, fun V hV t ht => ?_⟩
  · rcases key t ht with ⟨e, -⟩ | ⟨e, -⟩
    · exact Or.inl e
    · exact Or.inr e
  · rcases key t ht with ⟨e, -⟩ | ⟨-, -, lo, hi, e, -⟩
    · exact absurd e hne
    · exact ⟨lo, hi, e⟩
  · unfold tv_tv
    rcases key t ht with ⟨e, e1, e2⟩ | ⟨e, e1, lo, hi, e2, e3, e4⟩
    · rw [if_pos e]
      omega
    · have hv := hV _ _ _ e2
      rcases e with e | e
      · rw [if_neg (by omega), if_pos e]
        have := e3 e
        omega
      · rw [if_neg (by omega), if_neg (by omega)]
        have := e4 e
        omega
theorem tv_inv_V {T : tv_TT} {c : tv_C} {A0 : List (Nat × Value)} {σ0 : tm_S} {ts : List tv_T} {ls : List (Nat × Value)} {σ : tm_S} {V : Nat → Int} (hI : tv_inv T c A0 σ0 ts ls σ) (hV : tv_mt V ls) : ∀ i lo hi, ts[i]? = some (1, lo, hi) → lo ≤ V i ∧ V i ≤ hi ∧ -2147483648 ≤ V i ∧ V i ≤ 2147483647 := by
  intro i lo hi h
  obtain ⟨x, x1, n, rfl, l1, l2⟩ := hI.1 i _ h (by intro e; cases e)
  have r := tn_rng n
  rw [hV i n x1]
  omega
theorem tv_en_at : ∀ {ts : List tv_T} {As : List Value} {n i0 : Nat}, tv_va ts As → ∀ (i : Nat) (t : tv_T), (tv_en n ts)[i]? = some t → t.1 ≠ 0 → ∃ x, (i0 + i, x) ∈ lv_args i0 As ∧ tv_vt t x
  | [], [], n, i0, _, i, t, h, hn => by
    have h1 := List.mem_of_getElem? h
    rw [List.eq_of_mem_replicate h1] at hn
    exact absurd rfl hn
  | u :: ts, x :: As, n, i0, hv, i, t, h, hn => by
    unfold tv_en at h
    show ∃ y, (i0 + i, y) ∈ (i0, x) :: lv_args (if x.category = 2 then i0 + 2 else i0 + 1) As ∧ tv_vt t y
    rcases tv_vt_cat hv.1 with ⟨e1, e2⟩ | ⟨e1, e2⟩
    · rw [e1] at h
      simp only [cond_true] at h
      rw [if_pos e2]
      match i, h with
      | 0, h =>
        cases h
        refine ⟨x, List.mem_cons_self, ?_⟩
        obtain ⟨u1, lo, hi⟩ := u
        have e : u1 = 2 := tv_beq e1
        subst e
        exact hv.1
      | 1, h => cases h; exact absurd rfl hn
      | i + 2, h =>
        obtain ⟨y, y1, y2⟩ := tv_en_at (i0 := i0 + 2) hv.2 i t (by simpa using h) hn
        exact ⟨y, List.mem_cons_of_mem _ (by rw [show i0 + (i + 2) = i0 + 2 + i by omega]; exact y1), y2⟩
    · rw [e1] at h
      simp only [cond_false] at h
      rw [if_neg (by omega)]
      match i, h with
      | 0, h =>
        cases h
        exact ⟨x, List.mem_cons_self, hv.1⟩
      | i + 1, h =>
        obtain ⟨y, y1, y2⟩ := tv_en_at (i0 := i0 + 1) hv.2 i t (by simpa using h) hn
        exact ⟨y, List.mem_cons_of_mem _ (by rw [show i0 + (i + 1) = i0 + 1 + i by omega]; exact y1), y2⟩
  | [], _ :: _, _, _, hv, _, _, _, _ => hv.elim
  | _ :: _, [], _, _, hv, _, _, _, _ => hv.elim
theorem tv_args_ge : ∀ {As : List Value} {i0 i : Nat} {x : Value}, (i, x) ∈ lv_args i0 As → i0 ≤ i
  | [], _, _, _, h => by cases h
  | v :: vs, i0, i, x, h => by
    rcases List.mem_cons.mp h with e | e
    · cases e; exact Nat.le_refl _
    · have := tv_args_ge e
      split at this <;> omega
theorem tv_args_fn : ∀ {As : List Value} {i0 : Nat} (i : Nat) (x y : Value), (i, x) ∈ lv_args i0 As → (i, y) ∈ lv_args i0 As → x = y
  | [], _, _, _, _, h, _ => by cases h
  | v :: vs, i0, i, x, y, hx, hy => by
    have step : ∀ w, (i, w) ∈ lv_args i0 (v :: vs) → (i = i0 ∧ w = v) ∨ (i0 < i ∧ (i, w) ∈ lv_args (if v.category = 2 then i0 + 2 else i0 + 1) vs) := by
      intro w hw
      rcases List.mem_cons.mp hw with e | e
      · cases e; exact Or.inl ⟨rfl, rfl⟩
      · refine Or.inr ⟨?_, e⟩
        have := tv_args_ge e
        split at this <;> omega
    rcases step x hx with ⟨a1, a2⟩ | ⟨a1, a2⟩ <;> rcases step y hy with ⟨b1, b2⟩ | ⟨b1, b2⟩
    · rw [a2, b2]
    · omega
    · omega
    · exact tv_args_fn i x y a2 b2
set_option maxHeartbeats 4000000 in
/-- A CHECKED CONTEXT IS SOUND -/
theorem tv_ctx {T : tv_TT} {cx : Nat → List tv_C} {f : Nat} {c : tv_C} (hc : tv_ck T cx f c = true) (HC : ∀ a, ∀ c2 ∈ cx a, c2.2.2.2.2.2 < c.2.2.2.2.2 → tv_Snd T c2 ∧ ∀ q ∈ c2.2.2.2.1, tv_tok q.1 = true) : tv_Snd T c ∧ ∀ q ∈ c.2.2.2.1, tv_tok q.1 = true := by
  unfold tv_ck at hc
  simp only [Bool.and_eq_true, List.all_eq_true] at hc
  obtain ⟨⟨⟨⟨⟨c1, c2⟩, c3⟩, c4⟩, c5⟩, c6⟩ := hc
  have hck : ∀ q ∈ c.2.2.2.1, tv_rk (tt_r c.1) q.1 = true ∧ ∀ w ∈ q.2, (∀ i, (tv_po c.2.1 0)[w.1]? = some i → tv_kp c.1 i = true) ∧ ∀ t, c.2.1[w.1]? = some t → t.1 = 1 := by
    intro q hq
    refine ⟨(c3 q hq).1.1, fun w hw => ?_⟩
    obtain ⟨e1, e2⟩ := (c3 q hq).2 w hw
    refine ⟨fun i hi => ?_, fun t ht => ?_⟩
    · rw [hi] at e1
      exact e1
    · rw [ht] at e2
      exact tv_beq e2
  refine ⟨fun As σ0 hva hT => ?_, fun q hq => (c3 q hq).1.2⟩
  have head : ∀ (μ : Nat), ∀ h ∈ c.2.2.1, ∀ (ls : List (Nat × Value)) (σ : tm_S) (V : Nat → Int), tv_inv T c (lv_args 0 As) σ0 h.2.1 ls σ → tv_mt V ls → (tv_me V h.2.2).toNat < μ → WP c.2.2.2.2.2 c.1 h.1 ls [] σ (tv_Qc T c As σ0) := by
    intro μ
    induction μ with
    | zero => intro h _ ls σ V _ _ hm; omega
    | succ μ ih =>
      intro h hh ls σ V hI hV hm
      obtain ⟨⟨d1, d2⟩, d3⟩ := c2 h hh
      obtain ⟨k1, k2, k3, k4⟩ := tv_mok_ok d2
      have g := tv_start hI hV d1
      have b1 := k4 V (tv_inv_V hI hV)
      refine tv_run_ok (ρ0 := tv_r0 V h.2.1 0) (src := some h.2.2) hva hck HC ?_ f h.1 _ _ _ _ (c6 h hh) _ ls [] σ g
      intro h2 hh2 E L F ρ ls2 σ2 he g2
      unfold tv_edge at he
      rw [Bool.and_eq_true] at he
      obtain ⟨⟨f1, f2⟩, f3⟩ := c2 h2 hh2
      obtain ⟨j1, j2, j3, j4⟩ := tv_mok_ok f2
      have hI2 := tv_inv_of g2 he.1
      obtain ⟨V2, hV2⟩ := tv_mt_ex hI2.2.2.2
      have b2 := j4 V2 (tv_inv_V hI2 hV2)
      have hlt := tv_lex_ok (V := V) g2.1 g2.2.2.1 hV2 he.2 (k1.trans j1.symm) (fun s hs hne => by
        refine ⟨(k2 s hs).resolve_left hne, ?_⟩
        obtain ⟨lo, hi, e⟩ := k3 s hs hne
        refine g2.2.1 _ _ ?_
        have := tv_r0_at V 0 e
        rw [Nat.zero_add] at this
        exact this) j2 b1 b2
      have r1 := tv_me_rng b1
      have r2 := tv_me_rng b2
      exact ih h2 hh2 ls2 σ2 V2 hI2 hV2 (by omega)
  have hI : tv_inv T c (lv_args 0 As) σ0 (tv_en (tt_n c.1) c.2.1) (lv_args 0 As) σ0 := by
    refine ⟨fun i t h1 h2 => ?_, ⟨hT, fun _ _ _ _ _ => rfl, fun _ _ _ _ => ⟨rfl, rfl⟩⟩, fun q hq _ _ => hq, tv_args_fn⟩
    have := tv_en_at (i0 := 0) hva i t h1 h2
    rw [Nat.zero_add] at this
    exact this
  obtain ⟨V, hV⟩ := tv_mt_ex hI.2.2.2
  have htok : ∀ t ∈ tv_en (tt_n c.1) c.2.1, tv_tok t = true := by
    have key : ∀ (ts : List tv_T) (n : Nat), (∀ t ∈ ts, tv_tok t = true) → ∀ t ∈ tv_en n ts, tv_tok t = true := by
      intro ts
      induction ts with
      | nil => intro n _ t ht; rw [List.eq_of_mem_replicate ht]; rfl
      | cons u us ih =>
        intro n h t ht
        unfold tv_en at ht
        cases hb : Nat.beq u.1 2 with
        | true =>
          rw [hb] at ht
          simp only [cond_true] at ht
          rcases List.mem_cons.mp ht with rfl | ht
          · rfl
          rcases List.mem_cons.mp ht with rfl | ht
          · rfl
          · exact ih _ (fun w hw => h w (List.mem_cons_of_mem _ hw)) t ht
        | false =>
          rw [hb] at ht
          simp only [cond_false] at ht
          rcases List.mem_cons.mp ht with rfl | ht
          · exact h t List.mem_cons_self
          · exact ih _ (fun w hw => h w (List.mem_cons_of_mem _ hw)) t ht
    exact key _ _ c1
  have g := tv_start hI hV htok
  refine tv_run_ok (src := none) hva hck HC ?_ f 0 _ _ _ _ c5 _ _ [] σ0 g
  intro h2 hh2 E L F ρ ls2 σ2 he g2
  unfold tv_edge at he
  rw [Bool.and_eq_true] at he
  have hI2 := tv_inv_of g2 he.1
  obtain ⟨V2, hV2⟩ := tv_mt_ex hI2.2.2.2
  exact head ((tv_me V2 h2.2.2).toNat + 1) h2 hh2 ls2 σ2 V2 hI2 hV2 (Nat.lt_succ_self _)
