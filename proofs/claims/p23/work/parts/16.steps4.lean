/-! ===== handlers: returns and calls ===== -/
def tv_vt (t : tv_T) (x : Value) : Prop := match t with
  | (1, lo, hi) => ∃ n : Int32, x = .int n ∧ lo ≤ n.toInt ∧ n.toInt ≤ hi
  | (2, _, _) => ∃ n : Int64, x = .long n
  | (3, lo, hi) => ∃ k : Nat, x = .ref k ∧ lo ≤ (k : Int) ∧ (k : Int) ≤ hi
  | _ => False
def tv_va : List tv_T → List Value → Prop
  | [], [] => True
  | t :: ts, x :: xs => tv_vt t x ∧ tv_va ts xs
  | _, _ => False
def tv_rv (r : Option Value) (t : tv_T) : Prop := (t.1 = 0 ∧ r = none) ∨ ∃ x, r = some x ∧ tv_vt t x
def tv_Qc (T : tv_TT) (c : tv_C) (As : List Value) (σ0 : tm_S) (r : Option Value) (σ' : tm_S) : Prop := tv_TY T σ' ∧ tv_un σ0 σ' c.2.2.2.2.1 ∧ ∃ q ∈ c.2.2.2.1, tv_rv r q.1 ∧ ∀ w ∈ q.2, ∃ x : Int32, As[w.1]? = some (.int x) ∧ w.2.1 ≤ x.toInt ∧ x.toInt ≤ w.2.2
/-- a context is sound -/
def tv_Snd (T : tv_TT) (c : tv_C) : Prop := ∀ (As : List Value) (σ : tm_S), tv_va c.2.1 As → tv_TY T σ → WM c.2.2.2.2.2 c.1 As σ (tv_Qc T c As σ)
theorem tv_sub_vt {ρ : List Int} {E : tv_E} {b : tv_A} {x : Value} {t : tv_T} (hE : tv_gE ρ E) (hv : tv_gv ρ b x) (h : tv_sub E b t = true) (ht : t.1 ≠ 0) : tv_vt t x := by
  obtain ⟨t1, lo, hi⟩ := t
  match t1, h, ht with
  | 0, _, ht => exact absurd rfl ht
  | 1, h, _ => exact tv_sub_int hE hv h
  | 2, h, _ => exact tv_gl hv (tv_beq h)
  | 3, h, _ => exact tv_sub_ref hv h
  | k + 4, h, _ => cases h
theorem tv_gA_va {ρ : List Int} {E : tv_E} (hE : tv_gE ρ E) : ∀ {ts : List tv_T} {S : List tv_A} {st : List Value}, tv_gA ts S E = true → tv_gs ρ S st → tv_va ts st
  | [], [], [], _, _ => trivial
  | [], [], _ :: _, _, h => h.elim
  | t :: ts, a :: S, x :: st, h, hs => by
    unfold tv_gA at h
    rw [Bool.and_eq_true, Bool.and_eq_true] at h
    exact ⟨tv_sub_vt hE hs.1 h.1.2 (by have := Nat.blt_eq.mp h.1.1; omega), tv_gA_va hE h.2 hs.2⟩
  | _ :: _, _ :: _, [], _, h => h.elim
  | [], _ :: _, _, h, _ => by cases h
  | _ :: _, [], _, h, _ => by cases h
theorem tv_vt_cat {t : tv_T} {x : Value} (h : tv_vt t x) : (Nat.beq t.1 2 = true ∧ x.category = 2) ∨ (Nat.beq t.1 2 = false ∧ x.category = 1) := by
  obtain ⟨t1, lo, hi⟩ := t
  match t1, h with
  | 1, h => obtain ⟨n, rfl, -⟩ := h; exact Or.inr ⟨rfl, rfl⟩
  | 2, h => obtain ⟨n, rfl⟩ := h; exact Or.inl ⟨rfl, rfl⟩
  | 3, h => obtain ⟨n, rfl, -⟩ := h; exact Or.inr ⟨rfl, rfl⟩
  | 0, h => exact h.elim
  | k + 4, h => exact h.elim
theorem tv_po_ok : ∀ {ts : List tv_T} {As : List Value} (i0 : Nat) {w i : Nat}, tv_va ts As → (tv_po ts i0)[w]? = some i → ∃ x, As[w]? = some x ∧ (i, x) ∈ lv_args i0 As
  | [], [], i0, w, i, _, h => by simp [tv_po] at h
  | t :: ts, x :: As, i0, 0, i, _, h => by
    have e : i0 = i := by simpa [tv_po] using h
    subst e
    exact ⟨x, rfl, List.mem_cons_self⟩
  | t :: ts, x :: As, i0, w + 1, i, hv, h => by
    have h1 : (tv_po ts (cond (Nat.beq t.1 2) (i0 + 2) (i0 + 1)))[w]? = some i := by simpa [tv_po] using h
    obtain ⟨y, h2, h3⟩ := tv_po_ok _ hv.2 h1
    refine ⟨y, h2, ?_⟩
    show (i, y) ∈ (i0, x) :: lv_args (if x.category = 2 then i0 + 2 else i0 + 1) As
    refine List.mem_cons_of_mem _ ?_
    rcases tv_vt_cat hv.1 with ⟨e1, e2⟩ | ⟨e1, e2⟩
    · rw [e1] at h3; rw [if_pos e2]; exact h3
    · rw [e1] at h3; rw [if_neg (by omega)]; exact h3
  | [], _ :: _, _, _, _, hv, _ => hv.elim
  | _ :: _, [], _, _, _, hv, _ => hv.elim
theorem tv_retv_ok {E : tv_E} {L : List tv_A} {po : List Nat} {b : tv_A} : ∀ {cs : List (tv_T × List (Nat × Int × Int))}, tv_retv E L po b cs = true → ∃ q ∈ cs, tv_sub E b q.1 = true ∧ ∀ w ∈ q.2, ∃ (i : Nat) (d : tv_A) (I : Int × Int), po[w.1]? = some i ∧ L[i]? = some d ∧ tv_iv E d = some I ∧ w.2.1 ≤ I.1 ∧ I.2 ≤ w.2.2
  | [], h => by cases h
  | q :: t, h => by
    unfold tv_retv at h
    rw [Bool.or_eq_true] at h
    rcases h with h | h
    · rw [Bool.and_eq_true, List.all_eq_true] at h
      refine ⟨q, List.mem_cons_self, h.1, fun w hw => ?_⟩
      have h1 := h.2 w hw
      split at h1
      · rename_i i hi
        split at h1
        · rename_i d hd
          split at h1
          · rename_i I hI
            rw [Bool.and_eq_true, tv_le_iff, tv_le_iff] at h1
            exact ⟨i, d, I, hi, hd, hI, h1.1, h1.2⟩
          · cases h1
        · cases h1
      · cases h1
    · obtain ⟨r, h1, h2⟩ := tv_retv_ok h
      exact ⟨r, List.mem_cons_of_mem _ h1, h2⟩
theorem tv_iv_tag {E : tv_E} {b : tv_A} {q : Int × Int} (h : tv_iv E b = some q) : b.1 = 1 := by
  unfold tv_iv at h
  split at h
  · rfl
  · cases h
section TVS
variable {T : tv_TT} {c : tv_C} {As : List Value} {σ0 : tm_S} {ρ0 : List Int} {rc : tv_rc} {pc n a : Nat} {z : Int} {zz : List (Int × Nat)} {E : tv_E} {L S : List tv_A} {F : tv_F}
/-- the conditions on the arguments, at a return -/
theorem tv_va_at : ∀ {ts : List tv_T} {As : List Value} {k : Nat} {y : Value}, tv_va ts As → As[k]? = some y → ∃ t, ts[k]? = some t ∧ tv_vt t y
  | [], [], _, _, _, h => by simp at h
  | t :: ts, x :: xs, 0, y, hv, h => ⟨t, rfl, by simp at h; subst h; exact hv.1⟩
  | t :: ts, x :: xs, k + 1, y, hv, h => tv_va_at (ts := ts) (As := xs) (k := k) hv.2 (by simpa using h)
  | [], _ :: _, _, _, hv, _ => hv.elim
  | _ :: _, [], _, _, hv, _ => hv.elim
theorem tv_ret_args {ρ : List Int} {ls : List (Nat × Value)} {st : List Value} {σ : tm_S} {q : tv_T × List (Nat × Int × Int)} (hva : tv_va c.2.1 As) (hkp : ∀ w ∈ q.2, (∀ i, (tv_po c.2.1 0)[w.1]? = some i → tv_kp c.1 i = true) ∧ ∀ t, c.2.1[w.1]? = some t → t.1 = 1) (g : tv_g T c (lv_args 0 As) σ0 ρ0 ρ E L S F ls st σ)
    (h : ∀ w ∈ q.2, ∃ (i : Nat) (d : tv_A) (I : Int × Int), (tv_po c.2.1 0)[w.1]? = some i ∧ L[i]? = some d ∧ tv_iv E d = some I ∧ w.2.1 ≤ I.1 ∧ I.2 ≤ w.2.2) : ∀ w ∈ q.2, ∃ x : Int32, As[w.1]? = some (.int x) ∧ w.2.1 ≤ x.toInt ∧ x.toInt ≤ w.2.2 := by
  intro w hw
  obtain ⟨i, d, I, h1, h2, h3, h4, h5⟩ := h w hw
  obtain ⟨y, y1, y2⟩ := tv_po_ok 0 hva h1
  have y3 := g.2.2.2.2.2.2.1 _ y2 ((hkp w hw).1 i h1) (by
    obtain ⟨t, t1, t2⟩ := tv_va_at hva y1
    have t3 := (hkp w hw).2 t t1
    rcases tv_vt_cat t2 with ⟨e, -⟩ | ⟨-, e⟩
    · rw [t3] at e; cases e
    · show ¬ y.category = 2
      omega)
  obtain ⟨x, x1, x2⟩ := g.2.2.1 i d h2 (by rw [tv_iv_tag h3]; decide)
  have e := g.2.2.2.2.2.2.2 i x y x1 y3
  subst e
  obtain ⟨-, n0, m, rfl, -, -, l1, l2⟩ := tv_iv_ok h3 g.1 x2
  exact ⟨n0, y1, by omega, by omega⟩
theorem ts_ret (hva : tv_va c.2.1 As) (hck : ∀ q ∈ c.2.2.2.1, tv_rk (tt_r c.1) q.1 = true ∧ ∀ w ∈ q.2, (∀ i, (tv_po c.2.1 0)[w.1]? = some i → tv_kp c.1 i = true) ∧ ∀ t, c.2.1[w.1]? = some t → t.1 = 1) (h : tt_at c.1 pc = some ((29, a, z, zz), n)) (hk : tv_hret c a E L S = true) : tv_SD T c (lv_args 0 As) σ0 ρ0 (tv_Qc T c As σ0) pc E L S F := by
  intro ρ ls st σ g
  unfold tv_hret at hk
  split at hk
  · rw [Bool.and_eq_true] at hk
    obtain ⟨k1, k2⟩ := hk
    have e := tv_beq k1
    subst e
    obtain ⟨q, hq, h1, h2⟩ := tv_retv_ok k2
    have ht : q.1.1 = 0 := by
      unfold tv_sub at h1
      split at h1
      · rename_i e; rw [e]
      · cases h1
      · cases h1
      · cases h1
      · cases h1
    cases st with
    | nil => exact wp_retv h ⟨g.2.2.2.2.2.1.1, g.2.2.2.2.2.1.2, q, hq, Or.inl ⟨ht, rfl⟩, tv_ret_args hva (hck q hq).2 g h2⟩
    | cons x t => exact g.2.2.2.1.elim
  · rename_i b
    obtain ⟨x, st2, rfl, hg, g2⟩ := tv_pop g
    cases st2 with
    | cons x t => exact g2.2.2.2.1.elim
    | nil =>
    have fin : tv_retv E L (tv_po c.2.1 0) b c.2.2.2.1 = true → (∀ q ∈ c.2.2.2.1, q.1.1 ≠ 0) → tv_Qc T c As σ0 (some x) σ := by
      intro k2 hne
      obtain ⟨q, hq, h1, h2⟩ := tv_retv_ok k2
      exact ⟨g.2.2.2.2.2.1.1, g.2.2.2.2.2.1.2, q, hq, Or.inr ⟨x, rfl, tv_sub_vt g.1 hg h1 (hne q hq)⟩, tv_ret_args hva (hck q hq).2 g h2⟩
    have hne : ∀ ty, tt_r c.1 = some ty → ∀ q ∈ c.2.2.2.1, q.1.1 ≠ 0 := by
      intro ty hty q hq e
      have h1 := (hck q hq).1
      rw [hty] at h1
      unfold tv_rk at h1
      rw [e] at h1
      cases ty <;> cases h1
    split at hk
    · rw [Bool.and_eq_true] at hk
      obtain ⟨k1, k2⟩ := hk
      split at k1
      · rename_i hty
        obtain ⟨n0, m, rfl, -⟩ := tv_gi hg (tv_beq k1)
        refine wp_reti h (fun ty e => ?_) (fin k2 (hne _ hty))
        rw [hty] at e
        cases e
        rfl
      · rename_i hty
        obtain ⟨n0, rfl, l1, l2⟩ := tv_sub_int g.1 hg k1
        refine wp_reti h (fun ty e => ?_) (fin k2 (hne _ hty))
        rw [hty] at e
        cases e
        rcases (show n0.toInt = 0 ∨ n0.toInt = 1 by omega) with e | e
        · rw [Int32.toInt_inj.mp (e.trans (show (0 : Int) = (0 : Int32).toInt from rfl))]; rfl
        · rw [Int32.toInt_inj.mp (e.trans (show (1 : Int) = (1 : Int32).toInt from rfl))]; rfl
      · cases k1
    · rw [Bool.and_eq_true] at hk
      obtain ⟨n0, rfl⟩ := tv_gl hg (tv_beq hk.1)
      cases hty : tt_r c.1 with
      | none =>
        obtain ⟨i, hd, hi⟩ := tb_ok h
        change tb_ret (tt_r c.1) 2 n i = true at hi
        rw [hty] at hi
        cases i <;> first | (cases hi; done) | (simp [tb_ret] at hi; done)
      | some ty => exact wp_retl h (fin hk.2 (hne ty hty))
    · rw [Bool.and_eq_true] at hk
      obtain ⟨n0, rfl, -⟩ := tv_gr hg (tv_beq hk.1)
      cases hty : tt_r c.1 with
      | none =>
        obtain ⟨i, hd, hi⟩ := tb_ok h
        change tb_ret (tt_r c.1) 3 n i = true at hi
        rw [hty] at hi
        cases i <;> first | (cases hi; done) | (simp [tb_ret, tb_isO] at hi; done)
      | some ty => exact wp_retr h (fin hk.2 (hne ty hty))
    · cases hk
  · cases hk
theorem tv_pick_ok {j : Nat} {ar : List tv_A} {rk : Nat} {c2 : tv_C} : ∀ {cs : List tv_C}, tv_pick j cs E ar rk = some c2 → c2 ∈ cs ∧ c2.1 = j ∧ tv_gA c2.2.1 ar E = true ∧ c2.2.2.2.2.2 < rk
  | [], h => by cases h
  | c :: t, h => by
    unfold tv_pick at h
    cases hc : (Nat.beq c.1 j && tv_gA c.2.1 ar E && Nat.blt c.2.2.2.2.2 rk) with
    | false =>
      rw [hc] at h
      obtain ⟨h1, h2⟩ := tv_pick_ok h
      exact ⟨List.mem_cons_of_mem _ h1, h2⟩
    | true =>
      rw [hc] at h
      cases h
      simp only [Bool.and_eq_true] at hc
      exact ⟨List.mem_cons_self, tv_beq hc.1.1, hc.1.2, Nat.blt_eq.mp hc.2⟩
theorem tv_gs_split {ρ : List Int} : ∀ {S1 S2 : List tv_A} {st : List Value}, tv_gs ρ (S1 ++ S2) st → ∃ s1 s2, st = s1 ++ s2 ∧ tv_gs ρ S1 s1 ∧ tv_gs ρ S2 s2
  | [], S2, st, h => ⟨[], st, rfl, trivial, h⟩
  | a :: S1, S2, [], h => h.elim
  | a :: S1, S2, x :: st, h => by
    obtain ⟨s1, s2, e, h1, h2⟩ := tv_gs_split h.2
    exact ⟨x :: s1, s2, by rw [e]; rfl, ⟨h.1, h1⟩, h2⟩
theorem tv_gs_app {ρ : List Int} : ∀ {S1 S2 : List tv_A} {s1 s2 : List Value}, tv_gs ρ S1 s1 → tv_gs ρ S2 s2 → tv_gs ρ (S1 ++ S2) (s1 ++ s2)
  | [], _, [], _, _, h => h
  | _ :: _, _, _ :: _, _, h1, h2 => ⟨h1.1, tv_gs_app h1.2 h2⟩
  | [], _, _ :: _, _, h, _ => h.elim
  | _ :: _, _, [], _, h, _ => h.elim
theorem tv_gs_rev {ρ : List Int} : ∀ {S1 : List tv_A} {s1 : List Value}, tv_gs ρ S1 s1 → tv_gs ρ S1.reverse s1.reverse
  | [], [], _ => trivial
  | a :: S, x :: s, h => by
    rw [List.reverse_cons, List.reverse_cons]
    exact tv_gs_app (tv_gs_rev h.2) ⟨h.1, trivial⟩
  | [], _ :: _, h => h.elim
  | _ :: _, [], h => h.elim
theorem tv_gs_len {ρ : List Int} : ∀ {S1 : List tv_A} {s1 : List Value}, tv_gs ρ S1 s1 → s1.length = S1.length
  | [], [], _ => rfl
  | a :: S, x :: s, h => by rw [List.length_cons, List.length_cons, tv_gs_len h.2]
  | [], _ :: _, h => h.elim
  | _ :: _, [], h => h.elim
theorem tv_gv_cat {ρ : List Int} {b : tv_A} {x : Value} (h : tv_gv ρ b x) : x.category = cond (Nat.beq b.1 2) 2 1 := by
  rcases h with ⟨e, n, m, rfl, -⟩ | ⟨e, n, rfl⟩ | ⟨e, k, rfl, -⟩ <;> (rw [e]; rfl)
theorem tv_cat_sum {ρ : List Int} : ∀ {S1 : List tv_A} {s1 : List Value}, tv_gs ρ S1 s1 → (s1.map fun v => v.category).sum = tv_cat S1
  | [], [], _ => rfl
  | a :: S, x :: s, h => by
    rw [List.map_cons, List.sum_cons, tv_cat_sum h.2, tv_gv_cat h.1]
    rfl
  | [], _ :: _, h => h.elim
  | _ :: _, [], h => h.elim
theorem tv_cat_sl {ρ : List Int} : ∀ {S1 : List tv_A} {s1 : List Value}, tv_gs ρ S1 s1 → (lg_sl s1).length = tv_cat S1
  | [], [], _ => rfl
  | a :: S, x :: s, h => by
    have h1 := tv_cat_sl h.2
    unfold lg_sl at h1 ⊢
    rw [List.flatMap_cons, List.length_append, h1]
    show _ = cond (Nat.beq a.1 2) 2 1 + tv_cat S
    rcases tv_gv_cat h.1 ▸ (show (cond (Nat.beq a.1 2) 2 1 = 2 ∨ cond (Nat.beq a.1 2) 2 1 = 1) by cases Nat.beq a.1 2 <;> simp) with e | e
    · rw [if_pos e, ← tv_gv_cat h.1, e]; rfl
    · rw [if_neg (by omega), ← tv_gv_cat h.1, e]; rfl
  | [], _ :: _, h => h.elim
  | _ :: _, [], h => h.elim
theorem tv_isA_ok {b : tv_A} {k : Nat} {cls : String} (h : tv_isA b cls = true) (h1 : b.2.1 ≤ k) (h2 : (k : Int) ≤ b.2.2) : tm_isA k cls := by
  unfold tv_isA at h
  simp only [Bool.and_eq_true, tv_eq_iff] at h
  obtain ⟨⟨k1, k2⟩, k3⟩ := h
  have e : k = b.2.1 := by omega
  subst e
  split at k3
  · rename_i q hq
    split at k3
    · rename_i r hr
      exact Or.inl ⟨q.1, q.2, r, hq, hr, of_decide_eq_true k3⟩
    · cases k3
  · cases k3
  · simp only [Bool.and_eq_true, decide_eq_true_eq] at k3
    have g1 := Nat.le_of_ble_eq_true k3.1.2
    have g2 := Nat.blt_eq.mp k3.2
    exact Or.inr ⟨k3.1.1, b.2.1 - tt_ST, by omega, by omega⟩
theorem tv_nr_ok {ρ : List Int} {ar : List tv_A} {s1 : List Value} (hs : ∀ (i : Nat) (b : tv_A), ar[i]? = some b → ∃ x, s1[i]? = some x ∧ tv_gv ρ b x) : ∀ {l : List (Nat × Int × Int)} {E : tv_E}, tv_gE ρ E → (∀ w ∈ l, ∃ x : Int32, s1[w.1]? = some (.int x) ∧ w.2.1 ≤ x.toInt ∧ x.toInt ≤ w.2.2) → ∃ E1, tv_nr E ar l = some E1 ∧ tv_gE ρ E1
  | [], E, hE, _ => ⟨E, rfl, hE⟩
  | w :: t, E, hE, h => by
    obtain ⟨x, x1, x2, x3⟩ := h w List.mem_cons_self
    have ht := fun u hu => h u (List.mem_cons_of_mem _ hu)
    unfold tv_nr
    cases ha : ar[w.1]? with
    | none => exact tv_nr_ok hs hE ht
    | some b =>
      simp only
      cases hb : Nat.beq b.1 1 with
      | false => exact tv_nr_ok hs hE ht
      | true =>
        obtain ⟨y, y1, y2⟩ := hs _ b ha
        obtain ⟨n0, m, rfl, hm, hn⟩ := tv_gi y2 (tv_beq hb)
        rw [x1] at y1
        cases y1
        obtain ⟨E1, e1, g1⟩ := tv_cut_ok hE hm hn x2 x3
        simp only [cond_true, e1]
        exact tv_nr_ok hs g1 ht
theorem tv_gs_at {ρ : List Int} : ∀ {S1 : List tv_A} {s1 : List Value}, tv_gs ρ S1 s1 → ∀ (i : Nat) (b : tv_A), S1[i]? = some b → ∃ x, s1[i]? = some x ∧ tv_gv ρ b x
  | [], [], _, i, b, h => by simp at h
  | a :: S, x :: s, h, 0, b, hb => by
    have e : a = b := by simpa using hb
    subst e
    exact ⟨x, rfl, h.1⟩
  | a :: S, x :: s, h, i + 1, b, hb => tv_gs_at h.2 i b (by simpa using hb)
  | [], _ :: _, h, _, _, _ => h.elim
  | _ :: _, [], h, _, _, _ => h.elim
end TVS
section TVC
variable {T : tv_TT} {c : tv_C} {A0 : List (Nat × Value)} {σ0 : tm_S} {ρ0 : List Int} {Q : Option Value → tm_S → Prop} {rc : tv_rc} {pc n a : Nat} {z : Int} {zz : List (Int × Nat)} {E : tv_E} {L S : List tv_A} {F : tv_F}
theorem tv_cs_ok (R : ∀ pc E L S F, rc pc E L S F = true → tv_SD T c A0 σ0 ρ0 Q pc E L S F) {ρ : List Int} {ls : List (Nat × Value)} {st s1 : List Value} {σ : tm_S} {ar : List tv_A} {r : Option Value} {q : tv_T × List (Nat × Int × Int)} (g : tv_g T c A0 σ0 ρ0 ρ E L S F ls st σ) (hs : tv_gs ρ ar s1) (htok : tv_tok q.1 = true)
    (hr : tv_rv r q.1) (hw : ∀ w ∈ q.2, ∃ x : Int32, s1[w.1]? = some (.int x) ∧ w.2.1 ≤ x.toInt ∧ x.toInt ≤ w.2.2) : ∀ {cs : List (tv_T × List (Nat × Int × Int))}, tv_cs rc pc E L ar S F cs = true → q ∈ cs → WP c.2.2.2.2.2 c.1 pc ls (r.toList ++ st) σ Q
  | [], _, hq => by cases hq
  | p :: t, h, hq => by
    unfold tv_cs at h
    rw [Bool.and_eq_true] at h
    rcases List.mem_cons.mp hq with e | e
    · subst e
      obtain ⟨E1, e1, g1⟩ := tv_nr_ok (tv_gs_at hs) g.1 hw
      have h1 := tv_opt_ok h.1 e1
      have g2 := tv_newE g g1
      obtain ⟨⟨t1, lo, hi⟩, nr⟩ := q
      rcases hr with ⟨e, rfl⟩ | ⟨x, rfl, hx⟩
      · dsimp only at e
        subst e
        exact R _ _ _ _ _ h1 ρ ls _ σ g2
      · match t1, hx, h1, htok with
        | 0, hx, _, _ => exact hx.elim
        | 1, hx, h1, _ =>
          obtain ⟨y, rfl, y1, y2⟩ := hx
          exact R _ _ _ _ _ h1 _ ls _ σ (tv_new (r := (lo, hi)) g2 y1 y2)
        | 2, hx, h1, _ =>
          obtain ⟨y, rfl⟩ := hx
          exact R _ _ _ _ _ h1 ρ ls _ σ (tv_push g2 (tv_long _))
        | 3, hx, h1, htok =>
          obtain ⟨y, rfl, y1, y2⟩ := hx
          have h0 := (tv_le_iff 0 lo).mp htok
          exact R _ _ _ _ _ h1 ρ ls _ σ (tv_push g2 (Or.inr (Or.inr ⟨rfl, y, rfl, by dsimp only; omega, y2⟩)))
        | k + 4, hx, _, _ => exact hx.elim
    · exact tv_cs_ok R g hs htok hr hw h.2 e
theorem ts_call {cx : Nat → List tv_C} (R : ∀ pc E L S F, rc pc E L S F = true → tv_SD T c A0 σ0 ρ0 Q pc E L S F) (HC : ∀ c2 ∈ cx a, c2.2.2.2.2.2 < c.2.2.2.2.2 → tv_Snd T c2 ∧ ∀ q ∈ c2.2.2.2.1, tv_tok q.1 = true) (h : tt_at c.1 pc = some ((30, a, z, zz), n))
    (hk : tv_hcal cx c a rc (pc + n) E L (S.take (tt_p a + cond (tt_s a) 0 1)).reverse (S.drop (tt_p a + cond (tt_s a) 0 1)) F = true) : tv_SD T c A0 σ0 ρ0 Q pc E L S F := by
  intro ρ ls st σ g
  generalize hkk : tt_p a + cond (tt_s a) 0 1 = k at hk
  have hS : S.take k ++ S.drop k = S := List.take_append_drop k S
  have gs := g.2.2.2.1
  rw [← hS] at gs
  obtain ⟨s1, s2, rfl, gs1, gs2⟩ := tv_gs_split gs
  unfold tv_hcal at hk
  rw [hkk] at hk
  simp only [Bool.and_eq_true] at hk
  obtain ⟨⟨⟨⟨k1, k2⟩, k3⟩, k4⟩, k5⟩ := hk
  split at k5
  · rename_i c2 hp
    obtain ⟨p1, p2, p3, p4⟩ := tv_pick_ok hp
    obtain ⟨HS, HT⟩ := HC c2 p1 p4
    rw [Bool.and_eq_true, List.all_eq_true] at k5
    have gr := tv_gs_rev gs1
    have hva := tv_gA_va g.1 p3 gr
    obtain ⟨d, hd⟩ : ∃ d, c.2.2.2.2.2 = d + 1 := ⟨c.2.2.2.2.2 - 1, by omega⟩
    have hM := HS s1.reverse σ hva g.2.2.2.2.2.1.1
    rw [p2] at hM
    have hM2 : WM d a s1.reverse σ (tv_Qc T c2 s1.reverse σ) := hM.deep (by omega)
    rw [hd]
    refine wp_call (As := s1.reverse) (st := s2) h (by rw [List.reverse_reverse]) ?_ ?_ ?_ ?_ hM2 (fun r σ' hq => ?_)
    · rw [tv_gs_len gr, tv_beq k1, hkk]
    · rw [tv_cat_sl gr]
      exact Nat.le_of_ble_eq_true k3
    · intro e
      rw [e] at k4
      simp only [Bool.false_or] at k4
      cases har : (S.take k).reverse with
      | nil => rw [har] at k4; cases k4
      | cons b t =>
        rw [har] at k4 gr
        cases hs : s1.reverse with
        | nil => rw [hs] at gr; exact gr.elim
        | cons x t2 =>
          rw [hs] at gr
          simp only at k4
          have hb : b.1 = 3 := by
            unfold tv_isA at k4
            simp only [Bool.and_eq_true] at k4
            exact tv_beq k4.1.1
          obtain ⟨q, rfl, q1, q2⟩ := tv_gr gr.1 hb
          exact ⟨q, t2, rfl, tv_isA_ok k4 q1 q2⟩
    · rw [tv_cat_sum gs2]
      exact Nat.le_of_ble_eq_true k2
    · obtain ⟨hT, hU, q, q1, q2, q3⟩ := hq
      rw [← hd]
      have g3 : tv_g T c A0 σ0 ρ0 ρ E L (S.drop k) (F.filter (fun q => !(tv_mem c2.2.2.2.2.1 q.1.1 q.1.2))) ls s2 σ' := by
        refine ⟨g.1, g.2.1, g.2.2.1, gs2, fun u hu kd hkd => ?_, ⟨hT, fun k9 j9 kd h1 h2 => ?_, fun k9 q9 h1 h2 => ?_⟩, g.2.2.2.2.2.2⟩
        · obtain ⟨u1, u2⟩ := List.mem_filter.mp hu
          rw [hU.1 _ _ _ hkd (by simpa using u2)]
          exact g.2.2.2.2.1 u u1 kd hkd
        · have h3 : tv_mem c2.2.2.2.2.1 k9 j9 = false := by
            cases hm : tv_mem c2.2.2.2.2.1 k9 j9 with
            | false => rfl
            | true =>
              have := k5.1 _ (tv_mem_iff.mp hm)
              dsimp only at this
              rw [this] at h2
              cases h2
          rw [hU.1 _ _ _ h1 h3]
          exact g.2.2.2.2.2.1.2.1 k9 j9 kd h1 h2
        · have h3 : tv_mem c2.2.2.2.2.1 k9 64 = false := by
            cases hm : tv_mem c2.2.2.2.2.1 k9 64 with
            | false => rfl
            | true =>
              have := k5.1 _ (tv_mem_iff.mp hm)
              dsimp only at this
              rw [this] at h2
              cases h2
          have a1 := hU.2 k9 q9 h1 h3
          have a2 := g.2.2.2.2.2.1.2.2 k9 q9 h1 h2
          exact ⟨a1.1.trans a2.1, a1.2.trans a2.2⟩
      exact tv_cs_ok R g3 gr (HT q q1) q2 q3 k5.2 q1
  · cases k5
end TVC
/-! Math.abs, min, max -/
theorem tv_mabs_ok {X Y : Int × Int} {x : Int32} (h1 : X.1 ≤ x.toInt) (h2 : x.toInt ≤ X.2) : (tv_mi 0 X Y).1 ≤ (if 0 ≤ x then x else 0 - x : Int32).toInt ∧ (if 0 ≤ x then x else 0 - x : Int32).toInt ≤ (tv_mi 0 X Y).2 := by
  show (cond (tv_le 0 X.1) X (cond (tv_le (tv_lo + 1) X.1) (0, tv_mx (-X.1) X.2) tv_any)).1 ≤ _ ∧ _ ≤ (cond (tv_le 0 X.1) X (cond (tv_le (tv_lo + 1) X.1) (0, tv_mx (-X.1) X.2) tv_any)).2
  have c1 : tv_lo = -2147483648 := rfl
  have c0 : (0 : Int32).toInt = 0 := rfl
  cases e1 : tv_le 0 X.1 with
  | true =>
    have e2 := (tv_le_iff _ _).mp e1
    rw [if_pos (Int32.le_iff_toInt_le.mpr (by rw [c0]; omega))]
    exact ⟨h1, h2⟩
  | false =>
    cases e3 : tv_le (tv_lo + 1) X.1 with
    | false => exact tv_any_ok _
    | true =>
      have e4 := (tv_le_iff _ _).mp e3
      simp only [cond_false, cond_true, tv_mx_eq]
      by_cases hx : 0 ≤ x
      · rw [if_pos hx]
        have e5 := Int32.le_iff_toInt_le.mp hx
        rw [c0] at e5
        omega
      · rw [if_neg hx]
        have e5 : ¬ (0 : Int32).toInt ≤ x.toInt := fun h => hx (Int32.le_iff_toInt_le.mpr h)
        rw [c0] at e5
        rw [tn_sub (by rw [c0]; omega) (by rw [c0]; omega), c0]
        omega
theorem tv_mmin_ok {X Y : Int × Int} {x y : Int32} (h1 : X.1 ≤ x.toInt) (h2 : x.toInt ≤ X.2) (h3 : Y.1 ≤ y.toInt) (h4 : y.toInt ≤ Y.2) : (tv_mi 1 X Y).1 ≤ (if y < x then y else x : Int32).toInt ∧ (if y < x then y else x : Int32).toInt ≤ (tv_mi 1 X Y).2 := by
  show tv_mn X.1 Y.1 ≤ _ ∧ _ ≤ tv_mn X.2 Y.2
  rw [tv_mn_eq, tv_mn_eq]
  by_cases h : y < x
  · rw [if_pos h]
    have e := Int32.lt_iff_toInt_lt.mp h
    omega
  · rw [if_neg h]
    have e : ¬ y.toInt < x.toInt := fun g => h (Int32.lt_iff_toInt_lt.mpr g)
    omega
theorem tv_mmax_ok {X Y : Int × Int} {x y : Int32} (h1 : X.1 ≤ x.toInt) (h2 : x.toInt ≤ X.2) (h3 : Y.1 ≤ y.toInt) (h4 : y.toInt ≤ Y.2) : (tv_mi 2 X Y).1 ≤ (if x < y then y else x : Int32).toInt ∧ (if x < y then y else x : Int32).toInt ≤ (tv_mi 2 X Y).2 := by
  show tv_mx X.1 Y.1 ≤ _ ∧ _ ≤ tv_mx X.2 Y.2
  rw [tv_mx_eq, tv_mx_eq]
  by_cases h : x < y
  · rw [if_pos h]
    have e := Int32.lt_iff_toInt_lt.mp h
    omega
  · rw [if_neg h]
    have e : ¬ x.toInt < y.toInt := fun g => h (Int32.lt_iff_toInt_lt.mpr g)
    omega
section TVM
variable {T : tv_TT} {c : tv_C} {A0 : List (Nat × Value)} {σ0 : tm_S} {ρ0 : List Int} {Q : Option Value → tm_S → Prop} {rc : tv_rc} {pc n a : Nat} {z : Int} {zz : List (Int × Nat)} {E : tv_E} {L S : List tv_A} {F : tv_F}
theorem ts_mth (R : ∀ pc E L S F, rc pc E L S F = true → tv_SD T c A0 σ0 ρ0 Q pc E L S F) (h : tt_at c.1 pc = some ((36, a, z, zz), n)) (hk : tv_hmth c.2.2.2.2.2 a rc (pc + n) E L S F = true) : tv_SD T c A0 σ0 ρ0 Q pc E L S F := by
  intro ρ ls st σ g
  unfold tv_hmth at hk
  rw [Bool.and_eq_true] at hk
  obtain ⟨hr0, hk⟩ := hk
  have hrk : 1 ≤ c.2.2.2.2.2 := Nat.blt_eq.mp hr0
  split at hk
  · split at hk
    · rename_i xb S1
      obtain ⟨xv, st2, rfl, hgx, g2⟩ := tv_pop g
      split at hk
      · rename_i X hX
        obtain ⟨hx1, x, mx, rfl, hmx, hnx, lx1, lx2⟩ := tv_iv_ok hX g.1 hgx
        rw [Bool.and_eq_true] at hk
        have hr := tv_mabs_ok (Y := X) lx1 lx2
        exact wp_mabs h hrk (by rw [tv_cat_sum g2.2.2.2.1]; exact Nat.le_of_ble_eq_true hk.1) (R _ _ _ _ _ hk.2 _ ls _ σ (tv_new g2 hr.1 hr.2))
      · cases hk
    · cases hk
  · split at hk
    · rename_i yb xb S1
      obtain ⟨yv, st1, rfl, hgy, g1⟩ := tv_pop g
      obtain ⟨xv, st2, rfl, hgx, g2⟩ := tv_pop g1
      split at hk
      · rename_i X Y hX hY
        obtain ⟨hx1, x, mx, rfl, hmx, hnx, lx1, lx2⟩ := tv_iv_ok hX g.1 hgx
        obtain ⟨hy1, y, my, rfl, hmy, hny, ly1, ly2⟩ := tv_iv_ok hY g.1 hgy
        rw [Bool.and_eq_true] at hk
        have hr := tv_mmin_ok lx1 lx2 ly1 ly2
        exact wp_mmin h hrk (by rw [tv_cat_sum g2.2.2.2.1]; exact Nat.le_of_ble_eq_true hk.1) (R _ _ _ _ _ hk.2 _ ls _ σ (tv_new g2 hr.1 hr.2))
      · cases hk
    · cases hk
  · split at hk
    · rename_i yb xb S1
      obtain ⟨yv, st1, rfl, hgy, g1⟩ := tv_pop g
      obtain ⟨xv, st2, rfl, hgx, g2⟩ := tv_pop g1
      split at hk
      · rename_i X Y hX hY
        obtain ⟨hx1, x, mx, rfl, hmx, hnx, lx1, lx2⟩ := tv_iv_ok hX g.1 hgx
        obtain ⟨hy1, y, my, rfl, hmy, hny, ly1, ly2⟩ := tv_iv_ok hY g.1 hgy
        rw [Bool.and_eq_true] at hk
        have hr := tv_mmax_ok lx1 lx2 ly1 ly2
        exact wp_mmax h hrk (by rw [tv_cat_sum g2.2.2.2.1]; exact Nat.le_of_ble_eq_true hk.1) (R _ _ _ _ _ hk.2 _ ls _ σ (tv_new g2 hr.1 hr.2))
      · cases hk
    · cases hk
  · cases hk
end TVM
