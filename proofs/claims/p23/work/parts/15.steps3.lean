/-! ===== handlers: arrays, branches, returns ===== -/
theorem tv_ix_ok {E : tv_E} {i b : tv_A} {q : Nat × Nat} (h : tv_ix E i b = some q) : b.1 = 3 ∧ tt_shp[b.2.1]? = some (.inr q) ∧ ∃ I, tv_iv E i = some I ∧ 0 ≤ I.1 ∧ I.2 + 1 ≤ (q.2 : Int) := by
  unfold tv_ix at h
  cases hb : Nat.beq b.1 3 with
  | false => rw [hb] at h; cases h
  | true =>
    rw [hb] at h
    simp only [cond_true] at h
    split at h
    · rename_i I r hI hr
      cases hc : (tv_le 0 I.1 && tv_le (I.2 + 1) (r.2 : Int)) with
      | false => rw [hc] at h; cases h
      | true =>
        rw [hc] at h
        cases h
        rw [Bool.and_eq_true, tv_le_iff, tv_le_iff] at hc
        exact ⟨tv_beq hb, hr, I, hI, hc.1, hc.2⟩
    · cases h
theorem tv_ar_ok {T : tv_TT} {t N : Nat} {ty : Int × Int} : ∀ (n p : Nat), tv_ar T t N ty p n = true → ∀ r, p ≤ r → r < p + n → tt_shp[r]? = some (.inr (t, N)) ∧ ∀ j, tv_ti T r j = ty
  | 0, p, _, r, h1, h2 => by omega
  | n + 1, p, h, r, h1, h2 => by
    unfold tv_ar at h
    rw [Bool.and_eq_true, Bool.and_eq_true] at h
    obtain ⟨⟨ha, hb⟩, hc⟩ := h
    by_cases e : r = p
    · subst e
      split at ha
      · rename_i q hq
        simp only [Bool.and_eq_true, tv_eq_iff] at ha
        obtain ⟨⟨⟨a1, a2⟩, a3⟩, a4⟩ := ha
        refine ⟨?_, fun j => ?_⟩
        · rw [hq, ← tv_beq a1, ← tv_beq a2]
        · have e1 : tv_ti T r j = tv_ti T r 0 := by
            unfold tv_ti
            split at hb
            · cases hb
            · rename_i hno
              cases hT : T[r]? with
              | none => rfl
              | some x =>
                cases x with
                | inl l => exact absurd hT (hno l)
                | inr y => rfl
          rw [e1]
          exact Prod.ext a3 a4
      · cases ha
    · exact tv_ar_ok n (p + 1) hc r (by omega) (by omega)
theorem tv_all_ok {T : tv_TT} {b : tv_A} {t N r : Nat} (h : tv_all T b t N = true) (h1 : b.2.1 ≤ r) (h2 : (r : Int) ≤ b.2.2) : tt_shp[r]? = some (.inr (t, N)) ∧ ∀ j, tv_ti T r j = tv_ti T b.2.1 0 := tv_ar_ok _ _ h r h1 (by omega)
theorem tv_kd_arr {p k kd : Nat} {q : Nat × Nat} (h : tt_shp[p]? = some (.inr q)) : tv_kd p k ≠ some kd := by
  unfold tv_kd
  rw [h]
  intro e
  cases e
section TVS
variable {T : tv_TT} {c : tv_C} {A0 : List (Nat × Value)} {σ0 : tm_S} {ρ0 : List Int} {Q : Option Value → tm_S → Prop} {rc : tv_rc} {pc n a : Nat} {z : Int} {zz : List (Int × Nat)} {E : tv_E} {L S : List tv_A} {F : tv_F}
theorem ts_ald (R : ∀ pc E L S F, rc pc E L S F = true → tv_SD T c A0 σ0 ρ0 Q pc E L S F) (h : tt_at c.1 pc = some ((21, a, z, zz), n)) (hk : tv_hald T a rc (pc + n) E L S F = true) : tv_SD T c A0 σ0 ρ0 Q pc E L S F := by
  intro ρ ls st σ g
  unfold tv_hald at hk
  split at hk
  · rename_i i b S1
    obtain ⟨iv, st1, rfl, hgi, g1⟩ := tv_pop g
    obtain ⟨bv, st2, rfl, hgb, g2⟩ := tv_pop g1
    split at hk
    · rename_i q hix
      obtain ⟨o1, o3, I, hI, l1, l2⟩ := tv_ix_ok hix
      obtain ⟨p, rfl, q1, q2⟩ := tv_gr hgb o1
      obtain ⟨-, x, m, rfl, -, -, x1, x2⟩ := tv_iv_ok hI g.1 hgi
      have hin : ∀ N : Nat, N = q.2 → vp_in x N := fun N e => tn_in (by omega) (by rw [e]; omega)
      split at hk
      · rw [Bool.and_eq_true] at hk
        obtain ⟨s1, s2⟩ := tv_all_ok hk.1 q1 q2
        have hty := g.2.2.2.2.2.1.1.1 p x.toNatClampNeg
        rw [s2] at hty
        exact wp_iald h s1 (hin _ rfl) (R _ _ _ _ _ hk.2 _ ls _ σ (tv_new g2 hty.1 hty.2))
      · rw [Bool.and_eq_true] at hk
        obtain ⟨s1, s2⟩ := tv_all_ok hk.1 q1 q2
        exact wp_lald h s1 (hin _ rfl) (R _ _ _ _ _ hk.2 ρ ls _ σ (tv_push g2 (tv_long _)))
      · rw [Bool.and_eq_true] at hk
        obtain ⟨s1, s2⟩ := tv_all_ok hk.1 q1 q2
        have hty := g.2.2.2.2.2.1.1.1 p x.toNatClampNeg
        rw [s2] at hty
        exact wp_zald h s1 (hin _ rfl) (R _ _ _ _ _ hk.2 _ ls _ σ (tv_new g2 hty.1 hty.2))
      · rw [Bool.and_eq_true, Bool.and_eq_true, tv_eq_iff] at hk
        have hp : p = b.2.1 := by omega
        subst hp
        have h3 := Nat.le_of_ble_eq_true hk.1.1
        have hs : tt_shp[b.2.1]? = some (.inr (q.1 - 3 + 3, q.2)) := by rw [show q.1 - 3 + 3 = q.1 by omega]; exact o3
        have hcl := tn_cl (x := x) (by omega)
        exact wp_aald h hs (hin _ rfl) (R _ _ _ _ _ hk.2 ρ ls _ σ (tv_push g2 (Or.inr (Or.inr ⟨rfl, _, rfl, by dsimp only; omega, by dsimp only; omega⟩))))
      · cases hk
    · cases hk
  · cases hk
theorem tv_TY_row {σ : tm_S} {p k : Nat} {x : Int32} {ty : Int × Int} (hT : tv_TY T σ) (hu : ∀ j, tv_ti T p j = ty) (h1 : ty.1 ≤ x.toInt) (h2 : x.toInt ≤ ty.2) : tv_TY T (tm_sI σ p k x) := tv_TY_sI hT (by rw [hu]; exact h1) (by rw [hu]; exact h2)
/-- an array is changed: what the state knows stays -/
theorem tv_setA {ρ : List Int} {ls : List (Nat × Value)} {st : List Value} {σ σ' : tm_S} (g : tv_g T c A0 σ0 ρ0 ρ E L S F ls st σ) (hT : tv_TY T σ') (ho : ∀ p' k' kd, tv_kd p' k' = some kd → tm_val σ' p' k' kd = tm_val σ p' k' kd) (ha : ∀ (k' : Nat), tv_mem c.2.2.2.2.1 k' 64 = false → σ'.1 k' = σ.1 k' ∧ σ'.2.1 k' = σ.2.1 k') : tv_g T c A0 σ0 ρ0 ρ E L S F ls st σ' := by
  refine ⟨g.1, g.2.1, g.2.2.1, g.2.2.2.1, fun q hq kd hkd => ?_, ⟨hT, fun k1 j1 kd h1 h2 => ?_, fun k1 q1 h1 h2 => ?_⟩, g.2.2.2.2.2.2⟩
  · rw [ho _ _ _ hkd]
    exact g.2.2.2.2.1 q hq kd hkd
  · rw [ho _ _ _ h1]
    exact g.2.2.2.2.2.1.2.1 k1 j1 kd h1 h2
  · have a1 := ha k1 h2
    have a2 := g.2.2.2.2.2.1.2.2 k1 q1 h1 h2
    exact ⟨a1.1.trans a2.1, a1.2.trans a2.2⟩
theorem tv_mk_ok {w : List (Nat × Nat)} {p x : Nat} : ∀ {n : Nat}, tv_mk w p n = true → p ≤ x → x < p + n → tv_mem w x 64 = true
  | 0, _, h1, h2 => by omega
  | n + 1, h, h1, h2 => by
    unfold tv_mk at h
    rw [Bool.and_eq_true] at h
    by_cases e : x = p + n
    · rw [e]
      exact h.1
    · exact tv_mk_ok h.2 h1 (by omega)
theorem tv_keepI {σ : tm_S} {p k : Nat} {x : Int32} {q : Nat × Nat} (h : tt_shp[p]? = some (.inr q)) : ∀ p' k' kd, tv_kd p' k' = some kd → tm_val (tm_sI σ p k x) p' k' kd = tm_val σ p' k' kd := by
  intro p' k' kd hkd
  refine tv_val_sI ?_ kd
  rintro ⟨rfl, -⟩
  exact tv_kd_arr h hkd
theorem tv_keepJ {σ : tm_S} {p k : Nat} {x : Int64} {q : Nat × Nat} (h : tt_shp[p]? = some (.inr q)) : ∀ p' k' kd, tv_kd p' k' = some kd → tm_val (tm_sJ σ p k x) p' k' kd = tm_val σ p' k' kd := by
  intro p' k' kd hkd
  have hp : p' ≠ p := by
    rintro rfl
    exact tv_kd_arr h hkd
  match kd with
  | 0 => rfl
  | 1 => rfl
  | 2 => show Value.long _ = Value.long _; rw [tm_sJ_ne _ _ hp]
  | 3 => rfl
  | _ + 4 => rfl
theorem ts_ast (R : ∀ pc E L S F, rc pc E L S F = true → tv_SD T c A0 σ0 ρ0 Q pc E L S F) (h : tt_at c.1 pc = some ((22, a, z, zz), n)) (hk : tv_hast T c.2.2.2.2.1 a rc (pc + n) E L S F = true) : tv_SD T c A0 σ0 ρ0 Q pc E L S F := by
  intro ρ ls st σ g
  unfold tv_hast at hk
  split at hk
  · rename_i v i b S1
    obtain ⟨vv, st0, rfl, hgv, g0⟩ := tv_pop g
    obtain ⟨iv, st1, rfl, hgi, g1⟩ := tv_pop g0
    obtain ⟨bv, st2, rfl, hgb, g2⟩ := tv_pop g1
    split at hk
    · rename_i q hix
      obtain ⟨o1, o3, I, hI, l1, l2⟩ := tv_ix_ok hix
      obtain ⟨p, rfl, q1, q2⟩ := tv_gr hgb o1
      obtain ⟨-, x, m, rfl, -, -, x1, x2⟩ := tv_iv_ok hI g.1 hgi
      have hin : ∀ N : Nat, N = q.2 → vp_in x N := fun N e => tn_in (by omega) (by rw [e]; omega)
      rw [Bool.and_eq_true] at hk
      obtain ⟨hmk, hk⟩ := hk
      have hmp : tv_mem c.2.2.2.2.1 p 64 = true := tv_mk_ok hmk (by omega) (by omega)
      have hne : ∀ k' : Nat, tv_mem c.2.2.2.2.1 k' 64 = false → ¬ k' = p := fun k' h e => by rw [e, hmp] at h; cases h
      split at hk
      · rw [Bool.and_eq_true, Bool.and_eq_true] at hk
        obtain ⟨s1, s2⟩ := tv_all_ok hk.1.1 q1 q2
        obtain ⟨y, rfl, y1, y2⟩ := tv_sub_int g.1 hgv hk.1.2
        exact wp_iast h s1 (hin _ rfl) (R _ _ _ _ _ hk.2 ρ ls _ _ (tv_setA g2 (tv_TY_row g.2.2.2.2.2.1.1 s2 y1 y2) (tv_keepI s1) (fun k' h => tm_sI_ar (hne k' h))))
      · rw [Bool.and_eq_true, Bool.and_eq_true] at hk
        obtain ⟨s1, s2⟩ := tv_all_ok hk.1.1 q1 q2
        obtain ⟨y, rfl⟩ := tv_gl hgv (tv_beq hk.1.2)
        exact wp_last h s1 (hin _ rfl) (R _ _ _ _ _ hk.2 ρ ls _ _ (tv_setA g2 ⟨g.2.2.2.2.2.1.1.1, g.2.2.2.2.2.1.1.2⟩ (tv_keepJ s1) (fun k' h => tm_sJ_ar (hne k' h))))
      · simp only [Bool.and_eq_true] at hk
        obtain ⟨⟨⟨k1, k2⟩, k3⟩, k4⟩ := hk
        obtain ⟨s1, s2⟩ := tv_all_ok k1 q1 q2
        obtain ⟨y, rfl, y1, y2⟩ := tv_sub_int g.1 hgv k2
        obtain ⟨y', e2, y3, y4⟩ := tv_sub_int g.1 hgv k3
        cases e2
        have hy : y = 0 ∨ y = 1 := by
          rcases (show y.toInt = 0 ∨ y.toInt = 1 by omega) with e | e
          · exact Or.inl (Int32.toInt_inj.mp e)
          · exact Or.inr (Int32.toInt_inj.mp e)
        exact wp_zast h s1 (hin _ rfl) hy (R _ _ _ _ _ k4 ρ ls _ _ (tv_setA g2 (tv_TY_row g.2.2.2.2.2.1.1 s2 y1 y2) (tv_keepI s1) (fun k' h => tm_sI_ar (hne k' h))))
      · cases hk
    · cases hk
  · cases hk
theorem ts_len (R : ∀ pc E L S F, rc pc E L S F = true → tv_SD T c A0 σ0 ρ0 Q pc E L S F) (h : tt_at c.1 pc = some ((23, a, z, zz), n)) (hk : tv_hlen T (tt_n c.1) rc (pc + n) E L S F = true) : tv_SD T c A0 σ0 ρ0 Q pc E L S F := by
  intro ρ ls st σ g
  unfold tv_hlen at hk
  split at hk
  · rename_i b S1
    obtain ⟨bv, st2, rfl, hgb, g2⟩ := tv_pop g
    simp only [Bool.and_eq_true] at hk
    obtain ⟨⟨k1, k3⟩, k4⟩ := hk
    obtain ⟨p, rfl, q1, q2⟩ := tv_gr hgb (tv_beq k1)
    split at k4
    · rename_i q hq
      rw [Bool.and_eq_true, Bool.and_eq_true, tv_le_iff] at k4
      have c2 : tv_hi = 2147483647 := rfl
      have hs := (tv_all_ok k4.1.1 q1 q2).1
      have k5 := k4.1.2
      exact wp_len (t := q.1) (L := q.2) h hs (R _ _ _ _ _ k4.2 ρ ls _ σ (tv_push g2 (Or.inl ⟨rfl, Int32.ofNat q.2, 0, rfl, tv_zero_ok k3 g.1, by rw [tn_ofNat (by omega)]; simp⟩)))
    · cases k4
  · cases hk
/-- conditions, over the integers -/
def tv_cn (k : Nat) (x y : Int) : Prop := match k with
  | 0 => x = y
  | 1 => x ≠ y
  | 2 => x < y
  | 3 => y ≤ x
  | 4 => y < x
  | _ => x ≤ y
theorem tv_cn_of {z : Int} (h0 : 0 ≤ z) (h5 : z ≤ 5) {x y : Int32} : (tm_cd z x y → tv_cn z.toNat x.toInt y.toInt) ∧ (¬ tm_cd z x y → tv_cn (tv_ng z.toNat) x.toInt y.toInt) := by
  have e : z = 0 ∨ z = 1 ∨ z = 2 ∨ z = 3 ∨ z = 4 ∨ z = 5 := by omega
  rcases e with rfl | rfl | rfl | rfl | rfl | rfl
  · exact ⟨fun h => congrArg Int32.toInt h, fun h w => h (Int32.toInt_inj.mp w)⟩
  · exact ⟨fun h w => h (Int32.toInt_inj.mp w), fun h => congrArg Int32.toInt (Classical.byContradiction h)⟩
  · exact ⟨fun h => Int32.lt_iff_toInt_lt.mp h, fun h => Int.not_lt.mp (fun w => h (Int32.lt_iff_toInt_lt.mpr w))⟩
  · exact ⟨fun h => Int32.le_iff_toInt_le.mp h, fun h => Int.not_le.mp (fun w => h (Int32.le_iff_toInt_le.mpr w))⟩
  · exact ⟨fun h => Int32.lt_iff_toInt_lt.mp h, fun h => Int.not_lt.mp (fun w => h (Int32.lt_iff_toInt_lt.mpr w))⟩
  · exact ⟨fun h => Int32.le_iff_toInt_le.mp h, fun h => Int.not_le.mp (fun w => h (Int32.le_iff_toInt_le.mpr w))⟩
theorem tv_cut2_ok {ρ : List Int} {x y : tv_A} {xn yn : Int32} {mx my a1 b1 c1 d1 : Int} (hE : tv_gE ρ E) (hmx : ρ[x.2.1]? = some mx) (hnx : xn.toInt = mx + x.2.2) (hmy : ρ[y.2.1]? = some my) (hny : yn.toInt = my + y.2.2) (h1 : a1 ≤ xn.toInt) (h2 : xn.toInt ≤ b1) (h3 : c1 ≤ yn.toInt) (h4 : yn.toInt ≤ d1) : ∃ E1, tv_cut2 E x a1 b1 y c1 d1 = some E1 ∧ tv_gE ρ E1 := by
  obtain ⟨E1, e1, g1⟩ := tv_cut_ok hE hmx hnx h1 h2
  obtain ⟨E2, e2, g2⟩ := tv_cut_ok g1 hmy hny h3 h4
  refine ⟨E2, ?_, g2⟩
  unfold tv_cut2
  rw [e1]
  exact e2
theorem tv_rf_ok {ρ : List Int} {x y : tv_A} {xn yn : Int32} {mx my : Int} {X Y : Int × Int} {k : Nat} (hE : tv_gE ρ E) (hmx : ρ[x.2.1]? = some mx) (hnx : xn.toInt = mx + x.2.2) (hmy : ρ[y.2.1]? = some my) (hny : yn.toInt = my + y.2.2) (x1 : X.1 ≤ xn.toInt) (x2 : xn.toInt ≤ X.2) (y1 : Y.1 ≤ yn.toInt) (y2 : yn.toInt ≤ Y.2) (hc : tv_cn k xn.toInt yn.toInt) : ∃ E1, tv_rf E k x y X Y = some E1 ∧ tv_gE ρ E1 := by
  match k, hc with
  | 0, hc =>
    have hc : xn.toInt = yn.toInt := hc
    exact tv_cut2_ok hE hmx hnx hmy hny (by omega) (by omega) (by omega) (by omega)
  | 1, hc =>
    have hc : xn.toInt ≠ yn.toInt := hc
    simp only [tv_rf]
    cases h1 : tv_eq Y.1 Y.2 with
    | true =>
      rw [tv_eq_iff] at h1
      simp only [cond_true]
      cases h2 : tv_eq X.1 Y.1 with
      | true => rw [tv_eq_iff] at h2; exact tv_cut_ok hE hmx hnx (by omega) (by omega)
      | false =>
        simp only [cond_false]
        cases h3 : tv_eq X.2 Y.1 with
        | true => rw [tv_eq_iff] at h3; exact tv_cut_ok hE hmx hnx (by omega) (by omega)
        | false => exact ⟨E, rfl, hE⟩
    | false =>
      simp only [cond_false]
      cases h2 : tv_eq X.1 X.2 with
      | true =>
        rw [tv_eq_iff] at h2
        simp only [cond_true]
        cases h3 : tv_eq Y.1 X.1 with
        | true => rw [tv_eq_iff] at h3; exact tv_cut_ok hE hmy hny (by omega) (by omega)
        | false =>
          simp only [cond_false]
          cases h4 : tv_eq Y.2 X.1 with
          | true => rw [tv_eq_iff] at h4; exact tv_cut_ok hE hmy hny (by omega) (by omega)
          | false => exact ⟨E, rfl, hE⟩
      | false => exact ⟨E, rfl, hE⟩
  | 2, hc =>
    have hc : xn.toInt < yn.toInt := hc
    exact tv_cut2_ok hE hmx hnx hmy hny (by omega) (by omega) (by omega) (by omega)
  | 3, hc =>
    have hc : yn.toInt ≤ xn.toInt := hc
    exact tv_cut2_ok hE hmy hny hmx hnx (by omega) (by omega) (by omega) (by omega)
  | 4, hc =>
    have hc : yn.toInt < xn.toInt := hc
    exact tv_cut2_ok hE hmy hny hmx hnx (by omega) (by omega) (by omega) (by omega)
  | k + 5, hc =>
    have hc : xn.toInt ≤ yn.toInt := hc
    exact tv_cut2_ok hE hmx hnx hmy hny (by omega) (by omega) (by omega) (by omega)
theorem tv_opt_ok {r : Option tv_E} {f : tv_E → Bool} {E1 : tv_E} (h : tv_opt r f = true) (e : r = some E1) : f E1 = true := by
  rw [e] at h
  exact h
theorem tv_newE {ρ : List Int} {E1 : tv_E} {ls : List (Nat × Value)} {st : List Value} {σ : tm_S} (g : tv_g T c A0 σ0 ρ0 ρ E L S F ls st σ) (h : tv_gE ρ E1) : tv_g T c A0 σ0 ρ0 ρ E1 L S F ls st σ := ⟨h, g.2⟩
theorem ts_if (R : ∀ pc E L S F, rc pc E L S F = true → tv_SD T c A0 σ0 ρ0 Q pc E L S F) (h : tt_at c.1 pc = some ((25, a, z, zz), n)) (hk : tv_hif (tt_n c.1) z rc a (pc + n) E L S F = true) : tv_SD T c A0 σ0 ρ0 Q pc E L S F := by
  intro ρ ls st σ g
  unfold tv_hif at hk
  split at hk
  · rename_i xb S1
    obtain ⟨xv, st2, rfl, hgx, g2⟩ := tv_pop g
    split at hk
    · rename_i X hX
      obtain ⟨hx1, x, mx, rfl, hmx, hnx, lx1, lx2⟩ := tv_iv_ok hX g.1 hgx
      simp only [Bool.and_eq_true, tv_le_iff] at hk
      obtain ⟨⟨⟨⟨k1, k2⟩, k3⟩, k4⟩, k5⟩ := hk
      have hz := tv_zero_ok k1 g.1
      have cn := tv_cn_of (x := x) (y := 0) k2 k3
      have e0 : (0 : Int32).toInt = 0 := rfl
      refine wp_if h (fun q => ?_) (fun q => ?_)
      · obtain ⟨E1, e1, g1⟩ := tv_rf_ok (y := (1, tt_n c.1, 0)) (yn := 0) (my := 0) (X := X) (Y := (0, 0)) g.1 hmx hnx hz rfl lx1 lx2 (Int.le_refl _) (Int.le_refl _) (cn.1 q)
        exact R _ _ _ _ _ (tv_opt_ok k4 e1) ρ ls _ σ (tv_newE g2 g1)
      · obtain ⟨E1, e1, g1⟩ := tv_rf_ok (y := (1, tt_n c.1, 0)) (yn := 0) (my := 0) (X := X) (Y := (0, 0)) g.1 hmx hnx hz rfl lx1 lx2 (Int.le_refl _) (Int.le_refl _) (cn.2 q)
        exact R _ _ _ _ _ (tv_opt_ok k5 e1) ρ ls _ σ (tv_newE g2 g1)
    · cases hk
  · cases hk
theorem ts_ic (R : ∀ pc E L S F, rc pc E L S F = true → tv_SD T c A0 σ0 ρ0 Q pc E L S F) (h : tt_at c.1 pc = some ((26, a, z, zz), n)) (hk : tv_hic z rc a (pc + n) E L S F = true) : tv_SD T c A0 σ0 ρ0 Q pc E L S F := by
  intro ρ ls st σ g
  unfold tv_hic at hk
  split at hk
  · rename_i yb xb S1
    obtain ⟨yv, st1, rfl, hgy, g1⟩ := tv_pop g
    obtain ⟨xv, st2, rfl, hgx, g2⟩ := tv_pop g1
    split at hk
    · rename_i X Y hX hY
      obtain ⟨hx1, x, mx, rfl, hmx, hnx, lx1, lx2⟩ := tv_iv_ok hX g.1 hgx
      obtain ⟨hy1, y, my, rfl, hmy, hny, ly1, ly2⟩ := tv_iv_ok hY g.1 hgy
      simp only [Bool.and_eq_true, tv_le_iff] at hk
      obtain ⟨⟨⟨k2, k3⟩, k4⟩, k5⟩ := hk
      have cn := tv_cn_of (x := x) (y := y) k2 k3
      refine wp_ic h (fun q => ?_) (fun q => ?_)
      · obtain ⟨E1, e1, g3⟩ := tv_rf_ok g.1 hmx hnx hmy hny lx1 lx2 ly1 ly2 (cn.1 q)
        exact R _ _ _ _ _ (tv_opt_ok k4 e1) ρ ls _ σ (tv_newE g2 g3)
      · obtain ⟨E1, e1, g3⟩ := tv_rf_ok g.1 hmx hnx hmy hny lx1 lx2 ly1 ly2 (cn.2 q)
        exact R _ _ _ _ _ (tv_opt_ok k5 e1) ρ ls _ σ (tv_newE g2 g3)
    · cases hk
  · cases hk
theorem ts_ac (R : ∀ pc E L S F, rc pc E L S F = true → tv_SD T c A0 σ0 ρ0 Q pc E L S F) (h : tt_at c.1 pc = some ((27, a, z, zz), n)) (hk : tv_hac z rc a (pc + n) E L S F = true) : tv_SD T c A0 σ0 ρ0 Q pc E L S F := by
  intro ρ ls st σ g
  unfold tv_hac at hk
  split at hk
  · rename_i yb xb S1
    obtain ⟨yv, st1, rfl, hgy, g1⟩ := tv_pop g
    obtain ⟨xv, st2, rfl, hgx, g2⟩ := tv_pop g1
    simp only [Bool.and_eq_true, tv_le_iff] at hk
    obtain ⟨⟨⟨⟨k1, k2⟩, k3⟩, k4⟩, k5⟩ := hk
    obtain ⟨y, rfl, y1, y2⟩ := tv_gr hgy (tv_beq k1)
    obtain ⟨x, rfl, x1, x2⟩ := tv_gr hgx (tv_beq k2)
    have dj : x = y → tv_dj xb yb = true → False := by
      intro e w
      unfold tv_dj at w
      rw [Bool.or_eq_true, tv_le_iff, tv_le_iff] at w
      omega
    have sm : ¬ x = y → tv_sm xb yb = true → False := by
      intro e w
      unfold tv_sm at w
      simp only [Bool.and_eq_true, tv_eq_iff] at w
      have := tv_beq w.2
      omega
    refine wp_ac h (by omega) (by omega) (fun q => ?_) (fun q => ?_)
    · cases hz : tv_eq z 0 with
      | true =>
        rw [hz] at k5
        rw [tv_eq_iff] at hz
        simp only [cond_true, Bool.and_eq_true, Bool.or_eq_true] at k5
        rcases k5.1 with w | w
        · exact (dj (q.mp hz) w).elim
        · exact R _ _ _ _ _ w ρ ls _ σ g2
      | false =>
        rw [hz] at k5
        have hz' : ¬ z = 0 := fun e => by rw [(tv_eq_iff z 0).mpr e] at hz; cases hz
        simp only [cond_false, Bool.and_eq_true, Bool.or_eq_true] at k5
        rcases k5.1 with w | w
        · exact (sm (fun e => hz' (q.mpr e)) w).elim
        · exact R _ _ _ _ _ w ρ ls _ σ g2
    · cases hz : tv_eq z 0 with
      | true =>
        rw [hz] at k5
        rw [tv_eq_iff] at hz
        simp only [cond_true, Bool.and_eq_true, Bool.or_eq_true] at k5
        rcases k5.2 with w | w
        · exact (sm (fun e => q ⟨fun _ => e, fun _ => hz⟩) w).elim
        · exact R _ _ _ _ _ w ρ ls _ σ g2
      | false =>
        rw [hz] at k5
        have hz' : ¬ z = 0 := fun e => by rw [(tv_eq_iff z 0).mpr e] at hz; cases hz
        simp only [cond_false, Bool.and_eq_true, Bool.or_eq_true] at k5
        rcases k5.2 with w | w
        · by_cases e : x = y
          · exact (dj e w).elim
          · exact (q ⟨fun u => absurd u hz', fun u => absurd u e⟩).elim
        · exact R _ _ _ _ _ w ρ ls _ σ g2
  · cases hk
theorem tb_sw_or : ∀ (l : List (Int × Nat)) (k : Nat) (x : Int), tb_sw l k x = k ∨ ∃ q ∈ l, q.1 = x ∧ tb_sw l k x = q.2
  | [], k, x => Or.inl rfl
  | q :: t, k, x => by
    rw [tb_sw]
    by_cases e : q.1 = x
    · rw [if_pos e]
      exact Or.inr ⟨q, List.mem_cons_self, e, rfl⟩
    · rw [if_neg e]
      rcases tb_sw_or t k x with h | ⟨r, h1, h2⟩
      · exact Or.inl h
      · exact Or.inr ⟨r, List.mem_cons_of_mem _ h1, h2⟩
theorem ts_sw (R : ∀ pc E L S F, rc pc E L S F = true → tv_SD T c A0 σ0 ρ0 Q pc E L S F) (h : tt_at c.1 pc = some ((28, a, z, zz), n)) (hk : tv_hsw zz rc a E L S F = true) : tv_SD T c A0 σ0 ρ0 Q pc E L S F := by
  intro ρ ls st σ g
  unfold tv_hsw at hk
  split at hk
  · rename_i xb S1
    obtain ⟨xv, st2, rfl, hgx, g2⟩ := tv_pop g
    simp only [Bool.and_eq_true, List.all_eq_true] at hk
    obtain ⟨⟨k1, k2⟩, k3⟩ := hk
    obtain ⟨x, m, rfl, hm, hn⟩ := tv_gi hgx (tv_beq k1)
    refine wp_sw h ?_
    rcases tb_sw_or zz a x.toInt with e | ⟨q, q1, q2, e⟩
    · rw [e]
      exact R _ _ _ _ _ k3 ρ ls _ σ g2
    · rw [e]
      obtain ⟨E1, e1, g1⟩ := tv_cut_ok (a := xb) (lo := q.1) (hi := q.1) g.1 hm hn (by omega) (by omega)
      exact R _ _ _ _ _ (tv_opt_ok (k2 q q1) e1) ρ ls _ σ (tv_newE g2 g1)
  · cases hk
end TVS
