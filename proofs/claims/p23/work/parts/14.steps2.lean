/-! ===== handlers: fields, arrays, branches ===== -/
theorem tv_ob_ok {b : tv_A} {ci : Nat} {ks : List Nat} (h : tv_ob b ci = some ks) : b.1 = 3 ∧ (b.2.1 : Int) = b.2.2 ∧ tt_shp[b.2.1]? = some (.inl (ci, ks)) := by
  unfold tv_ob at h
  cases hb : (Nat.beq b.1 3 && tv_eq (b.2.1 : Int) b.2.2) with
  | false => rw [hb] at h; cases h
  | true =>
    rw [hb] at h
    rw [Bool.and_eq_true, tv_eq_iff] at hb
    simp only [cond_true] at h
    split at h
    · rename_i q hq
      cases hc : Nat.beq q.1 ci with
      | false => rw [hc] at h; cases h
      | true =>
        rw [hc] at h
        cases h
        refine ⟨tv_beq hb.1, hb.2, ?_⟩
        rw [hq, ← tv_beq hc]
    · cases h
theorem tv_kd_of {p ci k kd : Nat} {ks : List Nat} (h : tt_shp[p]? = some (.inl (ci, ks))) (hk : ks[k]? = some kd) : tv_kd p k = some kd := by
  unfold tv_kd
  rw [h]
  exact hk
theorem tv_fl_in {p k : Nat} {b : tv_A} : ∀ {F : tv_F}, tv_fl F p k = some b → ((p, k), b) ∈ F
  | [], h => by cases h
  | q :: t, h => by
    unfold tv_fl at h
    cases hc : (Nat.beq q.1.1 p && Nat.beq q.1.2 k) with
    | false => rw [hc] at h; exact List.mem_cons_of_mem _ (tv_fl_in h)
    | true =>
      rw [hc] at h
      cases h
      rw [Bool.and_eq_true] at hc
      have e : q = ((p, k), q.2) := by
        rw [← tv_beq hc.1, ← tv_beq hc.2]
      rw [← e]
      exact List.mem_cons_self
theorem tv_rg_in {p k : Nat} {q : Nat × Nat × Bool} (h : tv_rg p k = some q) : ((p, k), q) ∈ tv_rt := by
  unfold tv_rg at h
  split at h
  · rename_i r hr
    cases h
    have h1 := List.find?_some hr
    have h2 := List.mem_of_find?_eq_some hr
    rw [Bool.and_eq_true] at h1
    have e : r = ((p, k), r.2) := by rw [← tv_beq h1.1, ← tv_beq h1.2]
    rw [← e]
    exact h2
  · cases h
theorem tv_each_ok {rc : tv_rc} {pc : Nat} {E : tv_E} {L S : List tv_A} {F : tv_F} {p k : Nat} : ∀ (n q : Nat), tv_each rc pc E L S F p k q n = true → ∀ r, q ≤ r → r < q + n → rc pc E L ((3, r, (r : Int)) :: S) (((p, k), (3, r, (r : Int))) :: F) = true
  | 0, q, _, r, h1, h2 => by omega
  | n + 1, q, h, r, h1, h2 => by
    unfold tv_each at h
    rw [Bool.and_eq_true] at h
    by_cases e : r = q
    · rw [e]; exact h.1
    · exact tv_each_ok n (q + 1) h.2 r (by omega) (by omega)
theorem tv_rt_fn : ∀ q ∈ tv_rt, ∀ r ∈ tv_rt, q.1.1 = r.1.1 → q.1.2 = r.1.2 → q.2 = r.2 := by decide +kernel
section TVS
variable {T : tv_TT} {c : tv_C} {A0 : List (Nat × Value)} {σ0 : tm_S} {ρ0 : List Int} {Q : Option Value → tm_S → Prop} {rc : tv_rc} {pc n a : Nat} {z : Int} {zz : List (Int × Nat)} {E : tv_E} {L S : List tv_A} {F : tv_F}
theorem tv_addF {ρ : List Int} {ls : List (Nat × Value)} {st : List Value} {σ : tm_S} {q : (Nat × Nat) × tv_A} (g : tv_g T c A0 σ0 ρ0 ρ E L S F ls st σ) (h : tv_gF ρ q σ) : tv_g T c A0 σ0 ρ0 ρ E L S (q :: F) ls st σ :=
  ⟨g.1, g.2.1, g.2.2.1, g.2.2.2.1, fun r hr => (List.mem_cons.mp hr).elim (fun e => e ▸ h) (g.2.2.2.2.1 r), g.2.2.2.2.2⟩
theorem ts_get (R : ∀ pc E L S F, rc pc E L S F = true → tv_SD T c A0 σ0 ρ0 Q pc E L S F) (h : tt_at c.1 pc = some ((19, a, z, zz), n)) (hk : tv_hget T a rc (pc + n) E L S F = true) : tv_SD T c A0 σ0 ρ0 Q pc E L S F := by
  intro ρ ls st σ g
  unfold tv_hget at hk
  split at hk
  · rename_i b S1
    obtain ⟨bv, st2, rfl, hgb, g2⟩ := tv_pop g
    split at hk
    · rename_i ks hob
      obtain ⟨o1, o2, o3⟩ := tv_ob_ok hob
      obtain ⟨p, rfl, q1, q2⟩ := tv_gr hgb o1
      have hp : p = b.2.1 := by omega
      subst hp
      split at hk
      · rename_i kd hkd
        have hK := tv_kd_of o3 hkd
        have gi : ∀ (e : kd = 0 ∨ kd = 1), tv_hgi T b.2.1 (a % 64) rc (pc + n) E L S1 F = true → WP c.2.2.2.2.2 c.1 (pc + n) ls (tm_val σ b.2.1 (a % 64) kd :: st2) σ Q := by
          intro e hk
          have ev : tm_val σ b.2.1 (a % 64) kd = .int (σ.1 b.2.1 (a % 64)) := by rcases e with rfl | rfl <;> rfl
          unfold tv_hgi at hk
          split at hk
          · rename_i b2 hfl
            rw [Bool.and_eq_true] at hk
            exact R _ _ _ _ _ hk.2 ρ ls _ σ (tv_push g2 (g.2.2.2.2.1 _ (tv_fl_in hfl) kd hK))
          · rw [ev]
            have hty := g.2.2.2.2.2.1.1.1 b.2.1 (a % 64)
            have g3 := tv_new (x := σ.1 b.2.1 (a % 64)) (r := tv_ti T b.2.1 (a % 64)) g2 hty.1 hty.2
            refine R _ _ _ _ _ hk _ ls _ σ (tv_addF g3 (fun kd2 hkd2 => ?_))
            have e2 : kd2 = kd := Option.some.inj (hkd2.symm.trans hK)
            rw [e2]
            show tv_gv _ (1, E.length, 0) (tm_val σ b.2.1 (a % 64) kd)
            rw [ev]
            exact tv_gv_new g.1 _
        refine wp_get h o3 hkd ?_
        split at hk
        · exact gi (Or.inl rfl) hk
        · exact gi (Or.inr rfl) hk
        · cases hk
        · unfold tv_hgr at hk
          split at hk
          · rename_i b2 hfl
            rw [Bool.and_eq_true] at hk
            exact R _ _ _ _ _ hk.2 ρ ls _ σ (tv_push g2 (g.2.2.2.2.1 _ (tv_fl_in hfl) 3 hK))
          · split at hk
            · rename_i r hr
              have hty := g.2.2.2.2.2.1.1.2 _ (tv_rg_in hr)
              dsimp only at hty
              show WP _ _ _ _ (.ref (σ.2.2 b.2.1 (a % 64)) :: st2) _ _
              cases hc : r.2.2 with
              | true =>
                rw [hc] at hk
                have h5 := tv_each_ok _ _ hk (σ.2.2 b.2.1 (a % 64)) hty.1 (by omega)
                refine R _ _ _ _ _ h5 ρ ls _ σ (tv_addF (tv_push g2 (tv_ref _)) (fun kd2 hkd2 => ?_))
                have e2 : kd2 = 3 := Option.some.inj (hkd2.symm.trans hK)
                rw [e2]
                exact tv_ref _
              | false =>
                rw [hc] at hk
                exact R _ _ _ _ _ hk ρ ls _ σ (tv_push g2 (Or.inr (Or.inr ⟨rfl, _, rfl, hty.1, by dsimp only; omega⟩)))
            · cases hk
        · exact R _ _ _ _ _ hk ρ ls _ σ (tv_push g2 (tv_ref _))
      · cases hk
    · cases hk
  · cases hk
theorem tv_val_sI {σ : tm_S} {p k p' k' : Nat} {x : Int32} (h : ¬ (p' = p ∧ k' = k)) : ∀ kd : Nat, tm_val (tm_sI σ p k x) p' k' kd = tm_val σ p' k' kd := by
  have e : (tm_sI σ p k x).1 p' k' = σ.1 p' k' := by
    unfold tm_sI
    by_cases hp : p' = p
    · subst hp
      rw [tm_sA_at]
      exact pk_un (fun e => h ⟨rfl, e⟩)
    · rw [tm_sA_ne _ _ hp]
  intro kd
  match kd with
  | 0 => show Value.int _ = Value.int _; rw [e]
  | 1 => show Value.int _ = Value.int _; rw [e]
  | 2 => rfl
  | 3 => rfl
  | _ + 4 => rfl
theorem tv_val_sR {σ : tm_S} {p k p' k' x : Nat} (h : ¬ (p' = p ∧ k' = k)) : ∀ kd : Nat, tm_val (tm_sR σ p k x) p' k' kd = tm_val σ p' k' kd := by
  have e : (tm_sR σ p k x).2.2 p' k' = σ.2.2 p' k' := by
    by_cases hp : p' = p
    · subst hp
      rw [tm_sR_at]
      exact if_neg (fun e => h ⟨rfl, e⟩)
    · rw [tm_sR_ne _ _ hp]
  intro kd
  match kd with
  | 0 => rfl
  | 1 => rfl
  | 2 => rfl
  | 3 => show Value.ref _ = Value.ref _; rw [e]
  | _ + 4 => rfl
theorem tv_mem_iff {w : List (Nat × Nat)} {p k : Nat} : tv_mem w p k = true ↔ (p, k) ∈ w := by
  unfold tv_mem
  rw [List.any_eq_true]
  constructor
  · rintro ⟨q, hq, h⟩
    rw [Bool.and_eq_true] at h
    have e : q = (p, k) := by rw [← tv_beq h.1, ← tv_beq h.2]
    rw [← e]
    exact hq
  · intro h
    exact ⟨(p, k), h, by rw [Bool.and_eq_true]; exact ⟨Nat.beq_refl p, Nat.beq_refl k⟩⟩
/-- a field is set: what the state knows stays -/
theorem tv_setF {ρ : List Int} {ls : List (Nat × Value)} {st : List Value} {σ σ' : tm_S} {p k : Nat} {b : tv_A} (g : tv_g T c A0 σ0 ρ0 ρ E L S F ls st σ) (hw : tv_mem c.2.2.2.2.1 p k = true) (hT : tv_TY T σ') (ho : ∀ p' k' kd, ¬ (p' = p ∧ k' = k) → tm_val σ' p' k' kd = tm_val σ p' k' kd) (hv : tv_gF ρ ((p, k), b) σ') (ha : ∀ (k' : Nat) (q : Nat × Nat), tt_shp[k']? = some (.inr q) → σ'.1 k' = σ.1 k' ∧ σ'.2.1 k' = σ.2.1 k') :
    tv_g T c A0 σ0 ρ0 ρ E L S (((p, k), b) :: tv_fd F p k) ls st σ' := by
  refine ⟨g.1, g.2.1, g.2.2.1, g.2.2.2.1, fun q hq => ?_, ⟨hT, fun k1 j1 kd h1 h2 => ?_, fun k1 q1 h1 h2 => ?_⟩, g.2.2.2.2.2.2⟩
  · rcases List.mem_cons.mp hq with rfl | hq
    · exact hv
    · obtain ⟨h1, h2⟩ := List.mem_filter.mp hq
      intro kd hkd
      have hne : ¬ (q.1.1 = p ∧ q.1.2 = k) := by
        rintro ⟨e1, e2⟩
        rw [e1, e2, Nat.beq_refl, Nat.beq_refl] at h2
        cases h2
      rw [ho _ _ _ hne]
      exact g.2.2.2.2.1 q h1 kd hkd
  · rw [ho k1 j1 kd]
    · exact g.2.2.2.2.2.1.2.1 k1 j1 kd h1 h2
    · rintro ⟨rfl, rfl⟩
      rw [hw] at h2
      cases h2
  · have a1 := ha k1 q1 h1
    have a2 := g.2.2.2.2.2.1.2.2 k1 q1 h1 h2
    exact ⟨a1.1.trans a2.1, a1.2.trans a2.2⟩
theorem tv_ne_arr {p k : Nat} {r : Nat × List Nat} {q : Nat × Nat} (h : tt_shp[p]? = some (.inl r)) (h2 : tt_shp[k]? = some (.inr q)) : ¬ k = p := by
  rintro rfl
  rw [h] at h2
  cases h2
theorem tm_sI_ar {σ : tm_S} {p i k : Nat} {x : Int32} (h : ¬ k = p) : (tm_sI σ p i x).1 k = σ.1 k ∧ (tm_sI σ p i x).2.1 k = σ.2.1 k := ⟨if_neg h, rfl⟩
theorem tm_sJ_ar {σ : tm_S} {p i k : Nat} {x : Int64} (h : ¬ k = p) : (tm_sJ σ p i x).1 k = σ.1 k ∧ (tm_sJ σ p i x).2.1 k = σ.2.1 k := ⟨rfl, if_neg h⟩
theorem tv_sub_int {ρ : List Int} {b : tv_A} {x : Value} {lo hi : Int} (hE : tv_gE ρ E) (hv : tv_gv ρ b x) (h : tv_sub E b (1, lo, hi) = true) : ∃ m : Int32, x = .int m ∧ lo ≤ m.toInt ∧ m.toInt ≤ hi := by
  change (match tv_iv E b with
    | some q => tv_le lo q.1 && tv_le q.2 hi
    | none => false) = true at h
  split at h
  · rename_i q hq
    rw [Bool.and_eq_true, tv_le_iff, tv_le_iff] at h
    obtain ⟨-, m, k, rfl, -, -, l1, l2⟩ := tv_iv_ok hq hE hv
    exact ⟨m, rfl, by omega, by omega⟩
  · cases h
theorem tv_sub_ref {ρ : List Int} {b : tv_A} {x : Value} {lo hi : Int} (hv : tv_gv ρ b x) (h : tv_sub E b (3, lo, hi) = true) : ∃ m : Nat, x = .ref m ∧ lo ≤ (m : Int) ∧ (m : Int) ≤ hi := by
  change (Nat.beq b.1 3 && tv_le lo (b.2.1 : Int) && tv_le b.2.2 hi) = true at h
  simp only [Bool.and_eq_true, tv_le_iff] at h
  obtain ⟨k, rfl, l1, l2⟩ := tv_gr hv (tv_beq h.1.1)
  exact ⟨k, rfl, by omega, by omega⟩
theorem tv_TY_sI {σ : tm_S} {p k : Nat} {x : Int32} (hT : tv_TY T σ) (h1 : (tv_ti T p k).1 ≤ x.toInt) (h2 : x.toInt ≤ (tv_ti T p k).2) : tv_TY T (tm_sI σ p k x) := by
  refine ⟨fun a j => ?_, hT.2⟩
  unfold tm_sI
  by_cases ha : a = p
  · subst ha
    rw [tm_sA_at]
    by_cases hj : j = k
    · subst hj
      rw [pk_us]
      exact ⟨h1, h2⟩
    · rw [pk_un hj]
      exact hT.1 a j
  · rw [tm_sA_ne _ _ ha]
    exact hT.1 a j
theorem ts_put (R : ∀ pc E L S F, rc pc E L S F = true → tv_SD T c A0 σ0 ρ0 Q pc E L S F) (h : tt_at c.1 pc = some ((20, a, z, zz), n)) (hk : tv_hput T c.2.2.2.2.1 a rc (pc + n) E L S F = true) : tv_SD T c A0 σ0 ρ0 Q pc E L S F := by
  intro ρ ls st σ g
  unfold tv_hput at hk
  split at hk
  · rename_i v b S1
    obtain ⟨vv, st1, rfl, hgv, g1⟩ := tv_pop g
    obtain ⟨bv, st2, rfl, hgb, g2⟩ := tv_pop g1
    split at hk
    · rename_i ks hob
      obtain ⟨o1, o2, o3⟩ := tv_ob_ok hob
      obtain ⟨p, rfl, q1, q2⟩ := tv_gr hgb o1
      have hp : p = b.2.1 := by omega
      subst hp
      rw [Bool.and_eq_true] at hk
      obtain ⟨hw, hk⟩ := hk
      split at hk
      · rename_i kd hkd
        have hK := tv_kd_of o3 hkd
        have hI : ∀ (x : Int32), vv = .int x → (kd = 0 ∨ kd = 1) → (tv_ti T b.2.1 (a % 64)).1 ≤ x.toInt → x.toInt ≤ (tv_ti T b.2.1 (a % 64)).2 → tv_g T c A0 σ0 ρ0 ρ E L S1 (((b.2.1, a % 64), v) :: tv_fd F b.2.1 (a % 64)) ls st2 (tm_sI σ b.2.1 (a % 64) x) := by
          intro x ex ek l1 l2
          refine tv_setF g2 hw (tv_TY_sI g.2.2.2.2.2.1.1 l1 l2) (fun p' k' kd hne => tv_val_sI hne kd) (fun kd2 hkd2 => ?_) (fun k' q hq => tm_sI_ar (tv_ne_arr o3 hq))
          have e2 : kd2 = kd := Option.some.inj (hkd2.symm.trans hK)
          have e9 : (tm_sI σ b.2.1 (a % 64) x).1 b.2.1 (a % 64) = x := by unfold tm_sI; rw [tm_sA_at]; exact if_pos rfl
          have ev : tm_val (tm_sI σ b.2.1 (a % 64) x) b.2.1 (a % 64) kd2 = .int x := by
            rw [e2]
            rcases ek with rfl | rfl
            · show Value.int _ = _; rw [e9]
            · show Value.int _ = _; rw [e9]
          show tv_gv ρ v _
          rw [ev, ← ex]
          exact hgv
        split at hk
        · rw [Bool.and_eq_true] at hk
          obtain ⟨x, rfl, l1, l2⟩ := tv_sub_int g.1 hgv hk.1
          exact wp_puti h o3 hkd (Or.inl rfl) (R _ _ _ _ _ hk.2 ρ ls _ _ (hI x rfl (Or.inl rfl) l1 l2))
        · rw [Bool.and_eq_true, Bool.and_eq_true] at hk
          obtain ⟨x, rfl, l1, l2⟩ := tv_sub_int g.1 hgv hk.1.1
          obtain ⟨x2, e2, l3, l4⟩ := tv_sub_int g.1 hgv hk.1.2
          cases e2
          have hx : x = 0 ∨ x = 1 := by
            rcases (show x.toInt = 0 ∨ x.toInt = 1 by omega) with e | e
            · exact Or.inl (Int32.toInt_inj.mp e)
            · exact Or.inr (Int32.toInt_inj.mp e)
          exact wp_puti h o3 hkd (Or.inr ⟨rfl, hx⟩) (R _ _ _ _ _ hk.2 ρ ls _ _ (hI x rfl (Or.inr rfl) l1 l2))
        · split at hk
          · rename_i r hr
            rw [Bool.and_eq_true] at hk
            obtain ⟨x, rfl, l1, l2⟩ := tv_sub_ref hgv hk.1
            refine wp_putr h o3 hkd rfl (R _ _ _ _ _ hk.2 ρ ls _ _ (tv_setF g2 hw ⟨g.2.2.2.2.2.1.1.1, fun q hq => ?_⟩ (fun p' k' kd hne => tv_val_sR hne kd) (fun kd2 hkd2 => ?_) (fun _ _ _ => ⟨rfl, rfl⟩)))
            · by_cases hq2 : q.1.1 = b.2.1 ∧ q.1.2 = a % 64
              · have e3 : (tm_sR σ b.2.1 (a % 64) x).2.2 q.1.1 q.1.2 = x := by rw [hq2.1, hq2.2, tm_sR_at]; exact if_pos rfl
                rw [e3]
                have hin := tv_rg_in hr
                have huniq : q.2 = r := tv_rt_fn q hq _ hin hq2.1 hq2.2
                rw [huniq]
                omega
              · have e3 := tv_val_sR (σ := σ) (x := x) hq2 3
                have e4 : (tm_sR σ b.2.1 (a % 64) x).2.2 q.1.1 q.1.2 = σ.2.2 q.1.1 q.1.2 := by
                  have := Value.ref.inj e3
                  exact this
                rw [e4]
                exact g.2.2.2.2.2.1.1.2 q hq
            · have e2 : kd2 = 3 := Option.some.inj (hkd2.symm.trans hK)
              rw [e2]
              show tv_gv ρ v (.ref ((tm_sR σ b.2.1 (a % 64) x).2.2 b.2.1 (a % 64)))
              rw [show (tm_sR σ b.2.1 (a % 64) x).2.2 b.2.1 (a % 64) = x by rw [tm_sR_at]; exact if_pos rfl]
              exact hgv
          · cases hk
        · cases hk
      · cases hk
    · cases hk
  · cases hk
end TVS
