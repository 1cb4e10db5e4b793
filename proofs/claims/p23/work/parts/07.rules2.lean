/-! ===== rules: fields, arrays, constants, returns, calls ===== -/
theorem tm_cl_in {ci : Nat} {q : vw_C} (h : tt_cl[ci]? = some q) : ∀ w ∈ u_ws q.1 q.2.1 q.2.2, w ∈ tm_tbl := by
  intro w hw
  match ci, h with
  | 0, h => cases h; exact tm_tbl_in (tt_in0 w hw).1 (tt_in0 w hw).2
  | 1, h => cases h; exact tm_tbl_in (tt_in1 w hw).1 (tt_in1 w hw).2
  | 2, h => cases h; exact tm_tbl_in (tt_in2 w hw).1 (tt_in2 w hw).2
  | 3, h => cases h; exact tm_tbl_in (tt_in3 w hw).1 (tt_in3 w hw).2
  | 4, h => cases h; exact tm_tbl_in (tt_in4 w hw).1 (tt_in4 w hw).2
  | 5, h => cases h; exact tm_tbl_in (tt_in5 w hw).1 (tt_in5 w hw).2
  | 6, h => cases h; exact tm_tbl_in (tt_in6 w hw).1 (tt_in6 w hw).2
  | 7, h => cases h; exact tm_tbl_in (tt_in7 w hw).1 (tt_in7 w hw).2
  | 8, h => cases h; exact tm_tbl_in (tt_in8 w hw).1 (tt_in8 w hw).2
  | 9, h => cases h; exact tm_tbl_in (tt_in9 w hw).1 (tt_in9 w hw).2
  | k + 10, h => simp [tt_cl] at h
theorem tm_cl_ty {ci : Nat} {q : vw_C} (h : tt_cl[ci]? = some q) : ∃ ty0 : Nat → FieldType, (∀ k, k < q.2.2 → parseFieldDescriptor (q.2.1 k).2.2.1 = some (ty0 k)) ∧ ∀ a, a < q.2.2 → ∀ b, b < q.2.2 → a ≠ b → (q.2.1 a).2.1 ≠ (q.2.1 b).2.1 := by
  match ci, h with
  | 0, h => cases h; exact ⟨tt_ty0, tt_tok0, tt_nm0⟩
  | 1, h => cases h; exact ⟨tt_ty1, tt_tok1, tt_nm1⟩
  | 2, h => cases h; exact ⟨tt_ty2, tt_tok2, tt_nm2⟩
  | 3, h => cases h; exact ⟨tt_ty3, tt_tok3, tt_nm3⟩
  | 4, h => cases h; exact ⟨tt_ty4, tt_tok4, tt_nm4⟩
  | 5, h => cases h; exact ⟨tt_ty5, tt_tok5, tt_nm5⟩
  | 6, h => cases h; exact ⟨tt_ty6, tt_tok6, tt_nm6⟩
  | 7, h => cases h; exact ⟨tt_ty7, tt_tok7, tt_nm7⟩
  | 8, h => cases h; exact ⟨tt_ty8, tt_tok8, tt_nm8⟩
  | 9, h => cases h; exact ⟨tt_ty9, tt_tok9, tt_nm9⟩
  | k + 10, h => simp [tt_cl] at h
def tb_obj : Option FieldType → Bool
  | some (.object _) => true
  | some (.array _) => true
  | _ => false
def tb_kd (T : u_T) : Nat → List Nat → Bool
  | _, [] => true
  | k, 0 :: t => decide (parseFieldDescriptor (T k).2.2.1 = some .int) && tb_kd T (k + 1) t
  | k, 1 :: t => decide (parseFieldDescriptor (T k).2.2.1 = some .boolean) && tb_kd T (k + 1) t
  | k, 2 :: t => decide (parseFieldDescriptor (T k).2.2.1 = some .long) && tb_kd T (k + 1) t
  | k, _ :: t => tb_obj (parseFieldDescriptor (T k).2.2.1) && tb_kd T (k + 1) t
def tb_sh : tt_Sh → Bool
  | .inl (ci, ks) => match tt_cl[ci]? with
    | some q => q.2.2 == ks.length && tb_kd q.2.1 0 ks
    | none => false
  | .inr _ => true
theorem tb_shp : tt_shp.all tb_sh = true := by decide +kernel
theorem tm_kd {T : u_T} : ∀ (ks : List Nat) (k i kd : Nat), tb_kd T k ks = true → ks[i]? = some kd → (kd = 0 → parseFieldDescriptor (T (k + i)).2.2.1 = some .int) ∧ (kd = 1 → parseFieldDescriptor (T (k + i)).2.2.1 = some .boolean) ∧ (kd = 3 → tb_obj (parseFieldDescriptor (T (k + i)).2.2.1) = true)
  | [], _, _, _, _, h => by simp at h
  | e :: es, k, 0, kd, hb, h => by
    have e1 : e = kd := by simpa using h
    subst e1
    match e, hb with
    | 0, hb => simp only [tb_kd, Bool.and_eq_true, decide_eq_true_eq] at hb; exact ⟨fun _ => hb.1, fun q => absurd q (by decide), fun q => absurd q (by decide)⟩
    | 1, hb => simp only [tb_kd, Bool.and_eq_true, decide_eq_true_eq] at hb; exact ⟨fun q => absurd q (by decide), fun _ => hb.1, fun q => absurd q (by decide)⟩
    | 2, hb => exact ⟨fun q => absurd q (by decide), fun q => absurd q (by decide), fun q => absurd q (by decide)⟩
    | x + 3, hb => simp only [tb_kd, Bool.and_eq_true] at hb; exact ⟨fun q => absurd q (by omega), fun q => absurd q (by omega), fun _ => hb.1⟩
  | e :: es, k, i + 1, kd, hb, h => by
    have h1 : es[i]? = some kd := by simpa using h
    have h2 : tb_kd T (k + 1) es = true := by
      match e, hb with
      | 0, hb => simp only [tb_kd, Bool.and_eq_true] at hb; exact hb.2
      | 1, hb => simp only [tb_kd, Bool.and_eq_true] at hb; exact hb.2
      | 2, hb => simp only [tb_kd, Bool.and_eq_true] at hb; exact hb.2
      | x + 3, hb => simp only [tb_kd, Bool.and_eq_true] at hb; exact hb.2
    have h3 := tm_kd es (k + 1) i kd h2 h1
    rw [show k + 1 + i = k + (i + 1) by omega] at h3
    exact h3
theorem tm_obj {q ci : Nat} {ks : List Nat} (h : tt_shp[q]? = some (.inl (ci, ks))) : ∃ r : vw_C, tt_cl[ci]? = some r ∧ r.2.2 = ks.length ∧ tb_kd r.2.1 0 ks = true := by
  have h1 := List.all_eq_true.mp tb_shp _ (List.mem_of_getElem? h)
  unfold tb_sh at h1
  cases hc : tt_cl[ci]? with
  | none => simp only [hc] at h1; cases h1
  | some r =>
    simp only [hc, Bool.and_eq_true, beq_iff_eq] at h1
    exact ⟨r, rfl, h1.1, h1.2⟩
theorem tm_tr_val (adr : Nat → Nat) (σ : tm_S) (k j : Nat) : ∀ kd : Nat, tm_tr adr (tm_val σ k j kd) = tm_fld adr σ k j kd
  | 0 => rfl
  | 1 => rfl
  | 2 => rfl
  | 3 => rfl
  | _ + 4 => rfl
theorem tm_fld_ext {adr : Nat → Nat} {σ σ' : tm_S} {k j : Nat} (h1 : σ'.1 k j = σ.1 k j) (h2 : σ'.2.1 k j = σ.2.1 k j) (h3 : σ'.2.2 k j = σ.2.2 k j) : ∀ kd : Nat, tm_fld adr σ' k j kd = tm_fld adr σ k j kd
  | 0 => by show Value.int _ = Value.int _; rw [h1]
  | 1 => by show Value.int _ = Value.int _; rw [h1]
  | 2 => by show Value.long _ = Value.long _; rw [h2]
  | 3 => by show Value.ref _ = Value.ref _; rw [h3]
  | _ + 4 => rfl
theorem tm_fs_ext {adr : Nat → Nat} {σ σ' : tm_S} {k : Nat} (h1 : σ'.1 k = σ.1 k) (h2 : σ'.2.1 k = σ.2.1 k) (h3 : σ'.2.2 k = σ.2.2 k) : ∀ (ks : List Nat) (j : Nat), tm_fs adr σ' k j ks = tm_fs adr σ k j ks
  | [], _ => rfl
  | e :: es, j => by
    show tm_fld adr σ' k j e :: tm_fs adr σ' k (j + 1) es = tm_fld adr σ k j e :: tm_fs adr σ k (j + 1) es
    rw [tm_fs_ext h1 h2 h3 es (j + 1), tm_fld_ext (σ := σ) (σ' := σ') (k := k) (j := j) (congrFun h1 j) (congrFun h2 j) (congrFun h3 j) e]
theorem tm_cel_ext {adr : Nat → Nat} {dA : Nat → ClassId} {σ σ' : tm_S} {k : Nat} (h1 : σ'.1 k = σ.1 k) (h2 : σ'.2.1 k = σ.2.1 k) (h3 : σ'.2.2 k = σ.2.2 k) : ∀ s : tt_Sh, tm_cel adr dA σ' k s = tm_cel adr dA σ k s
  | .inl (ci, ks) => by show Sum.inr (ci, tm_fs adr σ' k 0 ks) = Sum.inr (ci, tm_fs adr σ k 0 ks); rw [tm_fs_ext h1 h2 h3]
  | .inr (0, n) => by show Sum.inl (dA 0, n, Sum.inl (σ'.1 k)) = Sum.inl (dA 0, n, Sum.inl (σ.1 k)); rw [h1]
  | .inr (1, n) => by show Sum.inl (dA 1, n, Sum.inr (Sum.inl (σ'.2.1 k))) = Sum.inl (dA 1, n, Sum.inr (Sum.inl (σ.2.1 k))); rw [h2]
  | .inr (2, n) => by show Sum.inl (dA 2, n, Sum.inl (σ'.1 k)) = Sum.inl (dA 2, n, Sum.inl (σ.1 k)); rw [h1]
  | .inr (_ + 3, n) => rfl
theorem tm_sA_at (σ : tm_S) (k : Nat) (f : Nat → Int32) : (tm_sA σ k f).1 k = f := if_pos rfl
theorem tm_sA_ne (σ : tm_S) {k a : Nat} (f : Nat → Int32) (h : a ≠ k) : (tm_sA σ k f).1 a = σ.1 a := if_neg h
theorem tm_sJ_at (σ : tm_S) (k j : Nat) (v : Int64) : (tm_sJ σ k j v).2.1 k = vp_updL (σ.2.1 k) j v := if_pos rfl
theorem tm_sJ_ne (σ : tm_S) {k a j : Nat} (v : Int64) (h : a ≠ k) : (tm_sJ σ k j v).2.1 a = σ.2.1 a := if_neg h
theorem tm_sR_at (σ : tm_S) (k j v : Nat) : (tm_sR σ k j v).2.2 k = fun i => if i = j then v else σ.2.2 k i := if_pos rfl
theorem tm_sR_ne (σ : tm_S) {k a j : Nat} (v : Nat) (h : a ≠ k) : (tm_sR σ k j v).2.2 a = σ.2.2 a := if_neg h
theorem tm_w_sA {adr : Nat → Nat} {dA : Nat → ClassId} {σ : tm_S} {k : Nat} {f : Nat → Int32} {sh : tt_Sh} (h : tt_shp[k]? = some sh) : (tm_w adr dA σ).set k (adr k, tm_cel adr dA (tm_sA σ k f) k sh) = tm_w adr dA (tm_sA σ k f) :=
  tm_w_set h (fun a s ha => tm_cel_ext (σ := σ) (σ' := tm_sA σ k f) (tm_sA_ne σ f ha) rfl rfl s)
theorem tm_w_sJ {adr : Nat → Nat} {dA : Nat → ClassId} {σ : tm_S} {k j : Nat} {v : Int64} {sh : tt_Sh} (h : tt_shp[k]? = some sh) : (tm_w adr dA σ).set k (adr k, tm_cel adr dA (tm_sJ σ k j v) k sh) = tm_w adr dA (tm_sJ σ k j v) :=
  tm_w_set h (fun a s ha => tm_cel_ext (σ := σ) (σ' := tm_sJ σ k j v) rfl (tm_sJ_ne σ v ha) rfl s)
theorem tm_w_sR {adr : Nat → Nat} {dA : Nat → ClassId} {σ : tm_S} {k j v : Nat} {sh : tt_Sh} (h : tt_shp[k]? = some sh) : (tm_w adr dA σ).set k (adr k, tm_cel adr dA (tm_sR σ k j v) k sh) = tm_w adr dA (tm_sR σ k j v) :=
  tm_w_set h (fun a s ha => tm_cel_ext (σ := σ) (σ' := tm_sR σ k j v) rfl rfl (tm_sR_ne σ v ha) s)
theorem tb_fl_spec {own : String} {a b idx : Nat} {r : vw_C} (h : tb_fl own a b idx = true) (hc : tt_cl[a / 64]? = some r) : a % 64 < r.2.2 ∧ Cond.fieldLink own idx (r.2.1 (a % 64)).1 (r.2.1 (a % 64)).2.1 (r.2.1 (a % 64)).2.2.1 ∈ tm_tbl := by
  unfold tb_fl at h
  simp only [hc, Bool.and_eq_true] at h
  exact ⟨Nat.blt_eq.mp h.1, tb_w_in h.2⟩
theorem wp_get {d j pc : Nat} {ls : List (Nat × Value)} {st : List Value} {σ : tm_S} {Q : Option Value → tm_S → Prop} {n : Nat} {zz : List (Int × Nat)} {k : Nat} {z : Int} {q kd : Nat} {ks : List Nat} (h : tt_at j pc = some ((19, k, z, zz), n)) (hs : tt_shp[q]? = some (.inl (k / 64, ks))) (hk : ks[k % 64]? = some kd) (kk : WP d j (pc + n) ls (tm_val σ q (k % 64) kd :: st) σ Q) : WP d j pc ls (.ref q :: st) σ Q := by
  obtain ⟨i, hd, hi⟩ := tb_ok h
  intro p l e R s m args below meth c H locs rls adr D dA C hP hS hl
  have hx := C.1.1
  have hb := C.1.2.1
  have K := kk p l e R s m args below meth c H locs rls adr D dA C hP hS hl
  obtain ⟨r, hc, hN, hkd⟩ := tm_obj hs
  change tb_get (tt_y j).cls k z.toNat n i = true at hi
  unfold tb_get at hi
  split at hi
  · simp only [Bool.and_eq_true, beq_iff_eq] at hi
    obtain ⟨rfl, e2⟩ := hi
    obtain ⟨hlt, hw⟩ := tb_fl_spec e2 hc
    have hv := tm_fs_get adr σ q ks 0 (k % 64) kd hk
    rw [Nat.zero_add, ← tm_tr_val] at hv
    exact va_get (ci := k / 64) (C := r.1) (T := r.2.1) (N := r.2.2) hx hb C.1.2.2.2.2 (tm_cl_in hc) C.1.2.2.2.1 C.2.2.1 hP q (tm_w_get hs) hc (k % 64) hlt (C.1.2.2.2.2 _ hw) (fun _ w => w) hv hd K
  · cases hi
theorem wp_puti {d j pc : Nat} {ls : List (Nat × Value)} {st : List Value} {σ : tm_S} {Q : Option Value → tm_S → Prop} {n : Nat} {zz : List (Int × Nat)} {k : Nat} {z : Int} {q kd : Nat} {x : Int32} {ks : List Nat} (h : tt_at j pc = some ((20, k, z, zz), n)) (hs : tt_shp[q]? = some (.inl (k / 64, ks))) (hk : ks[k % 64]? = some kd) (hkd0 : kd = 0 ∨ (kd = 1 ∧ (x = 0 ∨ x = 1))) (kk : WP d j (pc + n) ls st (tm_sI σ q (k % 64) x) Q) : WP d j pc ls (.int x :: .ref q :: st) σ Q := by
  obtain ⟨i, hd, hi⟩ := tb_ok h
  intro p l e R s m args below meth c H locs rls adr D dA C hP hS hl
  have hx := C.1.1
  have hb := C.1.2.1
  have K := fun H1 locs1 h1 h2 => kk p l e R s m args below meth c H1 locs1 rls adr D dA C h1 h2 hl
  obtain ⟨r, hc, hN, hkd⟩ := tm_obj hs
  obtain ⟨ty0, hty, hnm⟩ := tm_cl_ty hc
  have hki := tm_kd ks 0 (k % 64) kd hkd hk
  rw [Nat.zero_add] at hki
  change tb_put (tt_y j).cls k z.toNat n i = true at hi
  unfold tb_put at hi
  split at hi
  · simp only [Bool.and_eq_true, beq_iff_eq] at hi
    obtain ⟨⟨rfl, e2⟩, e3⟩ := hi
    obtain ⟨hlt, hw⟩ := tb_fl_spec e2 hc
    have hfin : (r.2.1 (k % 64)).2.2.2 = false := by
      unfold tb_fin at e3
      simp only [hc] at e3
      simpa using e3
    have key : ∀ (ty : FieldType), parseFieldDescriptor (r.2.1 (k % 64)).2.2.1 = some ty → narrow ty (.int x) = .int x → fits ty (.int x) = true → W p l e R s m args below meth c H locs 0 0 (MQ below (tm_Q adr D dA s.heap.size Q) args s 0 0 (tm_A adr s.heap.size)) (F0 m pc rls (.int x :: .ref (adr q) :: st.map (tm_tr adr))) := by
      intro ty t1 t2 t3
      refine va_put (ci := k / 64) (C := r.1) (T := r.2.1) (N := r.2.2) hx hb C.1.2.2.2.2 (tm_cl_in hc) ty0 hty hnm C.1.2.2.2.1 C.2.2.1 hP (tm_D C.2.2.2.1 dA σ s.heap.size) hS q (tm_w_get hs) hc (k % 64) hlt (C.1.2.2.2.2 _ hw) (fun _ w => w) hfin t1 t2 t3 (by rw [tm_fs_len, ← hN]; exact hlt) hd (fun H1 locs1 h1 h2 h3 => K H1 locs1 ?_ h3)
      rw [tm_fs_set adr σ (tm_sI σ q (k % 64) x) q ks 0 (k % 64) kd (.int x) hk (by
        rw [Nat.zero_add]
        have e9 : (tm_sI σ q (k % 64) x).1 q (k % 64) = x := by unfold tm_sI; rw [tm_sA_at]; exact if_pos rfl
        rcases hkd0 with rfl | ⟨rfl, -⟩
        · show Value.int _ = _; rw [e9]
        · show Value.int _ = _; rw [e9]) (fun a e2 ha => tm_fld_ext (σ := σ) (σ' := tm_sI σ q (k % 64) x) (k := q) (j := a) (by rw [Nat.zero_add] at ha; unfold tm_sI; rw [tm_sA_at]; exact if_neg ha) rfl rfl e2)] at h1
      exact tm_w_sA (f := upd (σ.1 q) (k % 64) x) (adr := adr) (dA := dA) (σ := σ) hs ▸ h1
    rcases hkd0 with rfl | ⟨rfl, hxx⟩
    · exact key .int (hki.1 rfl) rfl rfl
    · refine key .boolean (hki.2.1 rfl) ?_ ?_
      · rcases hxx with rfl | rfl <;> rfl
      · rcases hxx with rfl | rfl <;> rfl
  · cases hi
theorem wp_putr {d j pc : Nat} {ls : List (Nat × Value)} {st : List Value} {σ : tm_S} {Q : Option Value → tm_S → Prop} {n : Nat} {zz : List (Int × Nat)} {k : Nat} {z : Int} {q kd : Nat} {x : Nat} {ks : List Nat} (h : tt_at j pc = some ((20, k, z, zz), n)) (hs : tt_shp[q]? = some (.inl (k / 64, ks))) (hk : ks[k % 64]? = some kd) (hkd0 : kd = 3) (kk : WP d j (pc + n) ls st (tm_sR σ q (k % 64) x) Q) : WP d j pc ls (.ref x :: .ref q :: st) σ Q := by
  obtain ⟨i, hd, hi⟩ := tb_ok h
  intro p l e R s m args below meth c H locs rls adr D dA C hP hS hl
  have hx := C.1.1
  have hb := C.1.2.1
  have K := fun H1 locs1 h1 h2 => kk p l e R s m args below meth c H1 locs1 rls adr D dA C h1 h2 hl
  obtain ⟨r, hc, hN, hkd⟩ := tm_obj hs
  obtain ⟨ty0, hty, hnm⟩ := tm_cl_ty hc
  have hki := tm_kd ks 0 (k % 64) kd hkd hk
  rw [Nat.zero_add] at hki
  change tb_put (tt_y j).cls k z.toNat n i = true at hi
  unfold tb_put at hi
  split at hi
  · simp only [Bool.and_eq_true, beq_iff_eq] at hi
    obtain ⟨⟨rfl, e2⟩, e3⟩ := hi
    obtain ⟨hlt, hw⟩ := tb_fl_spec e2 hc
    have hfin : (r.2.1 (k % 64)).2.2.2 = false := by
      unfold tb_fin at e3
      simp only [hc] at e3
      simpa using e3
    have key : ∀ (ty : FieldType), parseFieldDescriptor (r.2.1 (k % 64)).2.2.1 = some ty → narrow ty (.ref (adr x)) = .ref (adr x) → fits ty (.ref (adr x)) = true → W p l e R s m args below meth c H locs 0 0 (MQ below (tm_Q adr D dA s.heap.size Q) args s 0 0 (tm_A adr s.heap.size)) (F0 m pc rls (.ref (adr x) :: .ref (adr q) :: st.map (tm_tr adr))) := by
      intro ty t1 t2 t3
      refine va_put (ci := k / 64) (C := r.1) (T := r.2.1) (N := r.2.2) hx hb C.1.2.2.2.2 (tm_cl_in hc) ty0 hty hnm C.1.2.2.2.1 C.2.2.1 hP (tm_D C.2.2.2.1 dA σ s.heap.size) hS q (tm_w_get hs) hc (k % 64) hlt (C.1.2.2.2.2 _ hw) (fun _ w => w) hfin t1 t2 t3 (by rw [tm_fs_len, ← hN]; exact hlt) hd (fun H1 locs1 h1 h2 h3 => K H1 locs1 ?_ h3)
      rw [tm_fs_set adr σ (tm_sR σ q (k % 64) x) q ks 0 (k % 64) kd (.ref (adr x)) hk (by
        rw [Nat.zero_add]
        subst hkd0
        show Value.ref (adr _) = _
        rw [show (tm_sR σ q (k % 64) x).2.2 q (k % 64) = x by rw [tm_sR_at]; exact if_pos rfl]) (fun a e2 ha => tm_fld_ext (σ := σ) (σ' := tm_sR σ q (k % 64) x) (k := q) (j := a) rfl rfl (by rw [Nat.zero_add] at ha; rw [tm_sR_at]; exact if_neg ha) e2)] at h1
      exact tm_w_sR (j := k % 64) (v := x) (adr := adr) (dA := dA) (σ := σ) hs ▸ h1
    have ho := hki.2.2 hkd0
    cases hty2 : parseFieldDescriptor (r.2.1 (k % 64)).2.2.1 with
    | none => rw [hty2] at ho; cases ho
    | some ty =>
      rw [hty2] at ho
      cases ty <;> first | (exact absurd ho (by decide)) | exact key _ hty2 rfl rfl
  · cases hi
theorem wp_iald {d j pc : Nat} {ls : List (Nat × Value)} {st : List Value} {σ : tm_S} {Q : Option Value → tm_S → Prop} {n : Nat} {zz : List (Int × Nat)} {z : Int} {q L : Nat} {x : Int32} (h : tt_at j pc = some ((21, 0, z, zz), n)) (hs : tt_shp[q]? = some (.inr (0, L))) (hx1 : vp_in x L) (kk : WP d j (pc + n) ls (.int (σ.1 q x.toNatClampNeg) :: st) σ Q) : WP d j pc ls (.int x :: .ref q :: st) σ Q := by
  obtain ⟨i, hd, hi⟩ := tb_ok h
  intro p l e R s m args below meth c H locs rls adr D dA C hP hS hl
  have hx := C.1.1
  have hb := C.1.2.1
  have K := kk p l e R s m args below meth c H locs rls adr D dA C hP hS hl
  show W p l e R s m args below meth c H locs 0 0 _ (F0 m pc rls (.int x :: .ref (adr q) :: st.map (tm_tr adr)))
  change tb_ald 0 n i = true at hi
  unfold tb_ald at hi
  split at hi <;> first | (cases hi; done) | (simp only [Bool.and_eq_true, beq_iff_eq] at hi; first | (exact absurd hi.1 (by decide)) | (obtain ⟨-, rfl⟩ := hi; exact va_iald hx hb C.2.2.1 hP q 0 (tm_w_get hs) rfl hx1 hd K))
theorem wp_lald {d j pc : Nat} {ls : List (Nat × Value)} {st : List Value} {σ : tm_S} {Q : Option Value → tm_S → Prop} {n : Nat} {zz : List (Int × Nat)} {z : Int} {q L : Nat} {x : Int32} (h : tt_at j pc = some ((21, 1, z, zz), n)) (hs : tt_shp[q]? = some (.inr (1, L))) (hx1 : vp_in x L) (kk : WP d j (pc + n) ls (.long (σ.2.1 q x.toNatClampNeg) :: st) σ Q) : WP d j pc ls (.int x :: .ref q :: st) σ Q := by
  obtain ⟨i, hd, hi⟩ := tb_ok h
  intro p l e R s m args below meth c H locs rls adr D dA C hP hS hl
  have hx := C.1.1
  have hb := C.1.2.1
  have K := kk p l e R s m args below meth c H locs rls adr D dA C hP hS hl
  show W p l e R s m args below meth c H locs 0 0 _ (F0 m pc rls (.int x :: .ref (adr q) :: st.map (tm_tr adr)))
  change tb_ald 1 n i = true at hi
  unfold tb_ald at hi
  split at hi <;> first | (cases hi; done) | (simp only [Bool.and_eq_true, beq_iff_eq] at hi; first | (exact absurd hi.1 (by decide)) | (obtain ⟨-, rfl⟩ := hi; exact va_lald hx hb C.2.2.1 hP q 1 (tm_w_get hs) rfl hx1 hd K))
theorem wp_zald {d j pc : Nat} {ls : List (Nat × Value)} {st : List Value} {σ : tm_S} {Q : Option Value → tm_S → Prop} {n : Nat} {zz : List (Int × Nat)} {z : Int} {q L : Nat} {x : Int32} (h : tt_at j pc = some ((21, 2, z, zz), n)) (hs : tt_shp[q]? = some (.inr (2, L))) (hx1 : vp_in x L) (kk : WP d j (pc + n) ls (.int (σ.1 q x.toNatClampNeg) :: st) σ Q) : WP d j pc ls (.int x :: .ref q :: st) σ Q := by
  obtain ⟨i, hd, hi⟩ := tb_ok h
  intro p l e R s m args below meth c H locs rls adr D dA C hP hS hl
  have hx := C.1.1
  have hb := C.1.2.1
  have K := kk p l e R s m args below meth c H locs rls adr D dA C hP hS hl
  show W p l e R s m args below meth c H locs 0 0 _ (F0 m pc rls (.int x :: .ref (adr q) :: st.map (tm_tr adr)))
  change tb_ald 2 n i = true at hi
  unfold tb_ald at hi
  split at hi <;> first | (cases hi; done) | (simp only [Bool.and_eq_true, beq_iff_eq] at hi; first | (exact absurd hi.1 (by decide)) | (obtain ⟨-, rfl⟩ := hi; exact va_zald hx hb C.2.2.1 hP q 2 (tm_w_get hs) rfl hx1 hd K))
theorem wp_aald {d j pc : Nat} {ls : List (Nat × Value)} {st : List Value} {σ : tm_S} {Q : Option Value → tm_S → Prop} {n : Nat} {zz : List (Int × Nat)} {z : Int} {q L t : Nat} {x : Int32} (h : tt_at j pc = some ((21, 3, z, zz), n)) (hs : tt_shp[q]? = some (.inr (t + 3, L))) (hx1 : vp_in x L) (kk : WP d j (pc + n) ls (.ref (t + x.toNatClampNeg) :: st) σ Q) : WP d j pc ls (.int x :: .ref q :: st) σ Q := by
  obtain ⟨i, hd, hi⟩ := tb_ok h
  intro p l e R s m args below meth c H locs rls adr D dA C hP hS hl
  have hx := C.1.1
  have hb := C.1.2.1
  have K := kk p l e R s m args below meth c H locs rls adr D dA C hP hS hl
  show W p l e R s m args below meth c H locs 0 0 _ (F0 m pc rls (.int x :: .ref (adr q) :: st.map (tm_tr adr)))
  have hlt : x.toNatClampNeg < L := Nat.not_le.mp fun w => hx1 (Or.inr w)
  change tb_ald 3 n i = true at hi
  unfold tb_ald at hi
  split at hi <;> first | (cases hi; done) | (simp only [Bool.and_eq_true, beq_iff_eq] at hi; first | (exact absurd hi.1 (by decide)) | skip)
  · obtain ⟨-, rfl⟩ := hi
    have hat := hP q _ (tm_w_get hs)
    exact W.aald (v := .ref (adr (t + x.toNatClampNeg))) (ty := .array .int) hx hb hat ((C.2.2.1.2 3 _ rfl).1 L (fun i => va_rf (if i < L then some (adr (t + i)) else none))) rfl (fun w => by cases w) (by show ¬ (x < 0 ∨ (arrV _ _ _).slots.size ≤ _); rw [arrV_size]; exact hx1) (by show (arrV _ _ _).slots[_]? = _; rw [arrV_read _ _ hlt]; simp [hlt, va_rf]) rfl rfl hd K
theorem wp_iast {d j pc : Nat} {ls : List (Nat × Value)} {st : List Value} {σ : tm_S} {Q : Option Value → tm_S → Prop} {n : Nat} {zz : List (Int × Nat)} {z : Int} {q L : Nat} {x : Int32} {y : Int32} (h : tt_at j pc = some ((22, 0, z, zz), n)) (hs : tt_shp[q]? = some (.inr (0, L))) (hx1 : vp_in x L) (kk : WP d j (pc + n) ls st (tm_sI σ q x.toNatClampNeg y) Q) : WP d j pc ls (.int y :: .int x :: .ref q :: st) σ Q := by
  obtain ⟨i, hd, hi⟩ := tb_ok h
  intro p l e R s m args below meth c H locs rls adr D dA C hP hS hl
  have hx := C.1.1
  have hb := C.1.2.1
  have K := fun H1 locs1 h1 h2 => kk p l e R s m args below meth c H1 locs1 rls adr D dA C h1 h2 hl
  show W p l e R s m args below meth c H locs 0 0 _ (F0 m pc rls (.int y :: .int x :: .ref (adr q) :: st.map (tm_tr adr)))
  change tb_ast 0 n i = true at hi
  unfold tb_ast at hi
  split at hi <;> first | (cases hi; done) | (simp only [Bool.and_eq_true, beq_iff_eq] at hi; first | (exact absurd hi.1 (by decide)) | skip)
  · obtain ⟨-, rfl⟩ := hi
    refine va_iast hx hb C.2.2.1 hP (tm_D C.2.2.2.1 dA σ s.heap.size) hS q 0 (tm_w_get hs) rfl hx1 hd (fun H1 locs1 h1 h2 h3 => K H1 locs1 ?_ h3)
    have e1 := tm_w_sA (adr := adr) (dA := dA) (σ := σ) (f := upd (σ.1 q) x.toNatClampNeg y) hs
    rw [show tm_cel adr dA (tm_sA σ q (upd (σ.1 q) x.toNatClampNeg y)) q (.inr (0, L)) = .inl (dA 0, L, .inl (upd (σ.1 q) x.toNatClampNeg y)) from congrArg (fun f => Sum.inl (dA 0, L, Sum.inl f)) (tm_sA_at _ _ _)] at e1
    exact e1 ▸ h1
theorem wp_zast {d j pc : Nat} {ls : List (Nat × Value)} {st : List Value} {σ : tm_S} {Q : Option Value → tm_S → Prop} {n : Nat} {zz : List (Int × Nat)} {z : Int} {q L : Nat} {x : Int32} {y : Int32} (h : tt_at j pc = some ((22, 2, z, zz), n)) (hs : tt_shp[q]? = some (.inr (2, L))) (hx1 : vp_in x L) (hy : y = 0 ∨ y = 1) (kk : WP d j (pc + n) ls st (tm_sI σ q x.toNatClampNeg y) Q) : WP d j pc ls (.int y :: .int x :: .ref q :: st) σ Q := by
  obtain ⟨i, hd, hi⟩ := tb_ok h
  intro p l e R s m args below meth c H locs rls adr D dA C hP hS hl
  have hx := C.1.1
  have hb := C.1.2.1
  have K := fun H1 locs1 h1 h2 => kk p l e R s m args below meth c H1 locs1 rls adr D dA C h1 h2 hl
  show W p l e R s m args below meth c H locs 0 0 _ (F0 m pc rls (.int y :: .int x :: .ref (adr q) :: st.map (tm_tr adr)))
  change tb_ast 2 n i = true at hi
  unfold tb_ast at hi
  split at hi <;> first | (cases hi; done) | (simp only [Bool.and_eq_true, beq_iff_eq] at hi; first | (exact absurd hi.1 (by decide)) | skip)
  · obtain ⟨-, rfl⟩ := hi
    refine va_zast hx hb C.2.2.1 hP (tm_D C.2.2.2.1 dA σ s.heap.size) hS q 2 (tm_w_get hs) rfl hx1 hd (fun H1 locs1 h1 h2 h3 => K H1 locs1 ?_ h3)
    rw [show vp_nar .boolean y = y by rcases hy with rfl | rfl <;> rfl] at h1
    have e1 := tm_w_sA (adr := adr) (dA := dA) (σ := σ) (f := upd (σ.1 q) x.toNatClampNeg y) hs
    rw [show tm_cel adr dA (tm_sA σ q (upd (σ.1 q) x.toNatClampNeg y)) q (.inr (2, L)) = .inl (dA 2, L, .inl (upd (σ.1 q) x.toNatClampNeg y)) from congrArg (fun f => Sum.inl (dA 2, L, Sum.inl f)) (tm_sA_at _ _ _)] at e1
    exact e1 ▸ h1
theorem wp_last {d j pc : Nat} {ls : List (Nat × Value)} {st : List Value} {σ : tm_S} {Q : Option Value → tm_S → Prop} {n : Nat} {zz : List (Int × Nat)} {z : Int} {q L : Nat} {x : Int32} {y : Int64} (h : tt_at j pc = some ((22, 1, z, zz), n)) (hs : tt_shp[q]? = some (.inr (1, L))) (hx1 : vp_in x L) (kk : WP d j (pc + n) ls st (tm_sJ σ q x.toNatClampNeg y) Q) : WP d j pc ls (.long y :: .int x :: .ref q :: st) σ Q := by
  obtain ⟨i, hd, hi⟩ := tb_ok h
  intro p l e R s m args below meth c H locs rls adr D dA C hP hS hl
  have hx := C.1.1
  have hb := C.1.2.1
  have K := fun H1 locs1 h1 h2 => kk p l e R s m args below meth c H1 locs1 rls adr D dA C h1 h2 hl
  show W p l e R s m args below meth c H locs 0 0 _ (F0 m pc rls (.long y :: .int x :: .ref (adr q) :: st.map (tm_tr adr)))
  change tb_ast 1 n i = true at hi
  unfold tb_ast at hi
  split at hi <;> first | (cases hi; done) | (simp only [Bool.and_eq_true, beq_iff_eq] at hi; first | (exact absurd hi.1 (by decide)) | skip)
  · obtain ⟨-, rfl⟩ := hi
    refine va_last hx hb C.2.2.1 hP (tm_D C.2.2.2.1 dA σ s.heap.size) hS q 1 (tm_w_get hs) rfl hx1 hd (fun H1 locs1 h1 h2 h3 => K H1 locs1 ?_ h3)
    have e1 := tm_w_sJ (adr := adr) (dA := dA) (σ := σ) (j := x.toNatClampNeg) (v := y) hs
    rw [show tm_cel adr dA (tm_sJ σ q x.toNatClampNeg y) q (.inr (1, L)) = .inl (dA 1, L, .inr (.inl (vp_updL (σ.2.1 q) x.toNatClampNeg y))) from congrArg (fun f => Sum.inl (dA 1, L, Sum.inr (Sum.inl f))) (tm_sJ_at _ _ _ _)] at e1
    exact e1 ▸ h1
theorem wp_len {d j pc : Nat} {ls : List (Nat × Value)} {st : List Value} {σ : tm_S} {Q : Option Value → tm_S → Prop} {n : Nat} {zz : List (Int × Nat)} {k : Nat} {z : Int} {q t L : Nat} (h : tt_at j pc = some ((23, k, z, zz), n)) (hs : tt_shp[q]? = some (.inr (t, L))) (kk : WP d j (pc + n) ls (.int (Int32.ofNat L) :: st) σ Q) : WP d j pc ls (.ref q :: st) σ Q := by
  obtain ⟨i, hd, hi⟩ := tb_ok h
  intro p l e R s m args below meth c H locs rls adr D dA C hP hS hl
  have hx := C.1.1
  have hb := C.1.2.1
  have K := kk p l e R s m args below meth c H locs rls adr D dA C hP hS hl
  show W p l e R s m args below meth c H locs 0 0 _ (F0 m pc rls (.ref (adr q) :: st.map (tm_tr adr)))
  change tb_len n i = true at hi
  unfold tb_len at hi
  split at hi
  · simp only [beq_iff_eq] at hi
    subst hi
    match t, hs with
    | 0, hs => exact va_alen hx hb C.2.2.1 hP q 0 (tm_w_get hs) rfl rfl hd K
    | 1, hs => exact va_alen hx hb C.2.2.1 hP q 1 (tm_w_get hs) rfl rfl hd K
    | 2, hs => exact va_alen hx hb C.2.2.1 hP q 2 (tm_w_get hs) rfl rfl hd K
    | t + 3, hs => exact va_alen hx hb C.2.2.1 hP q 3 (tm_w_get hs) rfl rfl hd K
  · cases hi
theorem tm_ret {p : Program} {s t : State} {args : Array Value} {adr : Nat → Nat} {D : va_G} {dA : Nat → ClassId} {σ : tm_S} {Q : Option Value → tm_S → Prop} {H : Heap} {locs : List Loc} {r : Option Value} (hq : Q r σ) (hP : va_P D tt_cl (tm_w adr dA σ) H) (hS : va_S (tm_A adr s.heap.size) s.heap H locs) (ht : t.heap = H) : tm_Q adr D dA s.heap.size Q args s (.returned (r.map (tm_tr adr))) t :=
  ⟨r, σ, hq, rfl, by rw [ht]; exact hP, hS.F ht⟩
theorem wp_retv {d j pc : Nat} {ls : List (Nat × Value)} {σ : tm_S} {Q : Option Value → tm_S → Prop} {n : Nat} {zz : List (Int × Nat)} {z : Int} (h : tt_at j pc = some ((29, 0, z, zz), n)) (hq : Q none σ) : WP d j pc ls [] σ Q := by
  obtain ⟨i, hd, hi⟩ := tb_ok h
  intro p l e R s m args below meth c H locs rls adr D dA C hP hS hl
  have hx := C.1.1
  have hb := C.1.2.1
  have hlocks : meth.locks = false := C.2.1.2.1
  change tb_ret (tt_r j) 0 n i = true at hi
  unfold tb_ret at hi
  split at hi <;> first | (cases hi; done) | (simp only [Bool.and_eq_true, beq_iff_eq, decide_eq_true_eq] at hi; first | (exact absurd hi.1.1 (by decide)) | skip)
  · obtain ⟨⟨-, rfl⟩, e2⟩ := hi
    exact W.vret hx hb (C.2.1.1.trans e2) (fun t ht _ => tm_ret (p := p) (r := none) hq hP hS ht) hS.2.2 hd hlocks
theorem wp_reti {d j pc : Nat} {ls : List (Nat × Value)} {σ : tm_S} {Q : Option Value → tm_S → Prop} {n : Nat} {zz : List (Int × Nat)} {z : Int} {x : Int32} (h : tt_at j pc = some ((29, 1, z, zz), n)) (hnr : ∀ ty, tt_r j = some ty → narrow ty (.int x) = .int x) (hq : Q (some (.int x)) σ) : WP d j pc ls [.int x] σ Q := by
  obtain ⟨i, hd, hi⟩ := tb_ok h
  intro p l e R s m args below meth c H locs rls adr D dA C hP hS hl
  have hx := C.1.1
  have hb := C.1.2.1
  have hlocks : meth.locks = false := C.2.1.2.1
  change tb_ret (tt_r j) 1 n i = true at hi
  unfold tb_ret at hi
  split at hi <;> first | (cases hi; done) | (simp only [Bool.and_eq_true, Bool.or_eq_true, beq_iff_eq, decide_eq_true_eq] at hi; first | (exact absurd hi.1.1 (by decide)) | skip)
  · obtain ⟨⟨-, rfl⟩, e2⟩ := hi
    have key : ∀ ty, tt_r j = some ty → W p l e R s m args below meth c H locs 0 0 (MQ below (tm_Q adr D dA s.heap.size Q) args s 0 0 (tm_A adr s.heap.size)) (F0 m pc rls [.int x]) := fun ty e3 =>
      W.zret hx hb (C.2.1.1.trans e3) (hnr ty e3) (fun t ht _ => tm_ret (p := p) (r := some (.int x)) hq hP hS ht) hS.2.2 hd hlocks
    rcases e2 with ((e2 | e2) | e2) | e2
    · exact key _ e2
    · exact key _ e2
    · exact key _ e2
    · exact key _ e2
theorem wp_retl {d j pc : Nat} {ls : List (Nat × Value)} {σ : tm_S} {Q : Option Value → tm_S → Prop} {n : Nat} {zz : List (Int × Nat)} {z : Int} {x : Int64} (h : tt_at j pc = some ((29, 2, z, zz), n)) (hq : Q (some (.long x)) σ) : WP d j pc ls [.long x] σ Q := by
  obtain ⟨i, hd, hi⟩ := tb_ok h
  intro p l e R s m args below meth c H locs rls adr D dA C hP hS hl
  have hx := C.1.1
  have hb := C.1.2.1
  have hlocks : meth.locks = false := C.2.1.2.1
  change tb_ret (tt_r j) 2 n i = true at hi
  unfold tb_ret at hi
  split at hi <;> first | (cases hi; done) | (simp only [Bool.and_eq_true, beq_iff_eq, decide_eq_true_eq] at hi; first | (exact absurd hi.1.1 (by decide)) | skip)
  · obtain ⟨⟨-, rfl⟩, e2⟩ := hi
    exact W.lret hx hb (C.2.1.1.trans e2) (fun t ht _ => tm_ret (p := p) (r := some (.long x)) hq hP hS ht) hS.2.2 hd hlocks
theorem wp_retr {d j pc : Nat} {ls : List (Nat × Value)} {σ : tm_S} {Q : Option Value → tm_S → Prop} {n : Nat} {zz : List (Int × Nat)} {z : Int} {x : Nat} (h : tt_at j pc = some ((29, 3, z, zz), n)) (hq : Q (some (.ref x)) σ) : WP d j pc ls [.ref x] σ Q := by
  obtain ⟨i, hd, hi⟩ := tb_ok h
  intro p l e R s m args below meth c H locs rls adr D dA C hP hS hl
  have hx := C.1.1
  have hb := C.1.2.1
  have hlocks : meth.locks = false := C.2.1.2.1
  change tb_ret (tt_r j) 3 n i = true at hi
  unfold tb_ret at hi
  split at hi <;> first | (cases hi; done) | (simp only [Bool.and_eq_true, beq_iff_eq, decide_eq_true_eq] at hi; first | (exact absurd hi.1.1 (by decide)) | skip)
  · obtain ⟨⟨-, rfl⟩, e2⟩ := hi
    cases hty : tt_r j with
    | none => rw [hty] at e2; cases e2
    | some ty =>
      rw [hty] at e2
      cases ty <;> first | (exact absurd e2 (by decide)) | exact W.aret (v := .ref (adr x)) hx hb (C.2.1.1.trans hty) (Or.inl ⟨_, rfl⟩) (Or.inr ⟨_, rfl⟩) (fun t ht _ => tm_ret (p := p) (r := some (.ref x)) hq hP hS ht) hS.2.2 hd hlocks | exact W.aret (v := .ref (adr x)) hx hb (C.2.1.1.trans hty) (Or.inr ⟨_, rfl⟩) (Or.inr ⟨_, rfl⟩) (fun t ht _ => tm_ret (p := p) (r := some (.ref x)) hq hP hS ht) hS.2.2 hd hlocks
theorem wp_gsE {d j pc : Nat} {ls : List (Nat × Value)} {st : List Value} {σ : tm_S} {Q : Option Value → tm_S → Prop} {n : Nat} {zz : List (Int × Nat)} {k : Nat} {z : Int} (h : tt_at j pc = some ((31, k, z, zz), n)) (kk : WP d j (pc + n) ls (.ref k :: st) σ Q) : WP d j pc ls st σ Q := by
  obtain ⟨i, hd, hi⟩ := tb_ok h
  intro p l e R s m args below meth c H locs rls adr D dA C hP hS hl
  have hx := C.1.1
  have hb := C.1.2.1
  have K := kk p l e R s m args below meth c H locs rls adr D dA C hP hS hl
  change tb_gsE (tt_y j).cls k z.toNat n i = true at hi
  unfold tb_gsE at hi
  split at hi
  · simp only [Bool.and_eq_true, beq_iff_eq] at hi
    obtain ⟨⟨⟨rfl, e1⟩, e2⟩, e3⟩ := hi
    have h1 : tt_EN ≤ k := Nat.le_of_ble_eq_true e1
    have h2 : k - tt_EN < 9 := Nat.blt_eq.mp e2
    have hZ := (C.2.2.2.2.1.1 (k - tt_EN) h2).1
    simp only [show tt_EN + (k - tt_EN) = k by omega] at hZ
    exact va_gets hx hb hZ hS C.1.2.2.2.1 (C.1.2.2.2.2 _ (tb_w_in e3)) (fun _ w => w) hd K
  · cases hi
theorem wp_gsC {d j pc : Nat} {ls : List (Nat × Value)} {st : List Value} {σ : tm_S} {Q : Option Value → tm_S → Prop} {n : Nat} {zz : List (Int × Nat)} {z : Int} (h : tt_at j pc = some ((32, 0, z, zz), n)) (kk : WP d j (pc + n) ls (.int 1 :: st) σ Q) : WP d j pc ls st σ Q := by
  obtain ⟨i, hd, hi⟩ := tb_ok h
  intro p l e R s m args below meth c H locs rls adr D dA C hP hS hl
  have hx := C.1.1
  have hb := C.1.2.1
  have K := kk p l e R s m args below meth c H locs rls adr D dA C hP hS hl
  change tb_gsC (tt_y j).cls 0 z.toNat n i = true at hi
  unfold tb_gsC at hi
  split at hi
  · simp only [Bool.and_eq_true, Bool.or_eq_true, beq_iff_eq] at hi
    obtain ⟨rfl, ⟨-, e3⟩ | ⟨e2, -⟩⟩ := hi
    · exact va_gets hx hb C.2.2.2.2.2.2.1 hS C.1.2.2.2.1 (C.1.2.2.2.2 _ (tb_w_in e3)) (fun _ w => w) hd K
    · exact absurd e2 (by decide)
  · cases hi
theorem wp_gsQ {d j pc : Nat} {ls : List (Nat × Value)} {st : List Value} {σ : tm_S} {Q : Option Value → tm_S → Prop} {n : Nat} {zz : List (Int × Nat)} {z : Int} (h : tt_at j pc = some ((32, 1, z, zz), n)) (k1 : WP d j (pc + n) ls (.null :: st) σ Q) (k2 : WP d j (pc + n) ls (.ref tt_XQ :: st) σ Q) : WP d j pc ls st σ Q := by
  obtain ⟨i, hd, hi⟩ := tb_ok h
  intro p l e R s m args below meth c H locs rls adr D dA C hP hS hl
  have hx := C.1.1
  have hb := C.1.2.1
  have K1 := k1 p l e R s m args below meth c H locs rls adr D dA C hP hS hl
  have K2 := k2 p l e R s m args below meth c H locs rls adr D dA C hP hS hl
  change tb_gsC (tt_y j).cls 1 z.toNat n i = true at hi
  unfold tb_gsC at hi
  split at hi
  · simp only [Bool.and_eq_true, Bool.or_eq_true, beq_iff_eq] at hi
    obtain ⟨rfl, ⟨e2, -⟩ | ⟨-, e3⟩⟩ := hi
    · exact absurd e2 (by decide)
    · rcases C.2.2.2.2.2.2.2.1 with hZ | hZ
      · exact va_gets hx hb hZ hS C.1.2.2.2.1 (C.1.2.2.2.2 _ (tb_w_in e3)) (fun _ w => w) hd K1
      · exact va_gets hx hb hZ hS C.1.2.2.2.1 (C.1.2.2.2.2 _ (tb_w_in e3)) (fun _ w => w) hd K2
  · cases hi
theorem wp_str {d j pc : Nat} {ls : List (Nat × Value)} {st : List Value} {σ : tm_S} {Q : Option Value → tm_S → Prop} {n : Nat} {zz : List (Int × Nat)} {k : Nat} {z : Int} (h : tt_at j pc = some ((33, k, z, zz), n)) (kk : WP d j (pc + n) ls (.ref k :: st) σ Q) : WP d j pc ls st σ Q := by
  obtain ⟨i, hd, hi⟩ := tb_ok h
  intro p l e R s m args below meth c H locs rls adr D dA C hP hS hl
  have hx := C.1.1
  have hb := C.1.2.1
  have K := kk p l e R s m args below meth c H locs rls adr D dA C hP hS hl
  change tb_str (tt_y j).cls k z n i = true at hi
  unfold tb_str at hi
  split at hi
  · simp only [Bool.and_eq_true, beq_iff_eq, List.any_eq_true] at hi
    obtain ⟨⟨rfl, -⟩, ⟨q, hq, ⟨e1, e2⟩, e3⟩⟩ := hi
    have hR := C.2.2.2.2.2.2.2.2.1 q hq
    rw [e1, e2, e3] at hR
    exact va_ldcS hx hb C.1.2.2.2.1 hR hd K
  · cases hi
/-- String's own two fields, by the literal's place -/
theorem wp_sfV {d j pc : Nat} {ls : List (Nat × Value)} {st : List Value} {σ : tm_S} {Q : Option Value → tm_S → Prop} {n : Nat} {zz : List (Int × Nat)} {z : Int} {q : Nat} (h : tt_at j pc = some ((35, 0, z, zz), n)) (hq : q < tt_NS) (kk : WP d j (pc + n) ls (.ref (tt_SV + q) :: st) σ Q) : WP d j pc ls (.ref (tt_ST + q) :: st) σ Q := by
  obtain ⟨i, hd, hi⟩ := tb_ok h
  intro p l e R s m args below meth c H locs rls adr D dA C hP hS hl
  have hx := C.1.1
  have hb := C.1.2.1
  have K := kk p l e R s m args below meth c H locs rls adr D dA C hP hS hl
  change tb_sf (tt_y j).cls 0 z.toNat n i = true at hi
  unfold tb_sf at hi
  split at hi
  · simp only [Bool.and_eq_true, Bool.or_eq_true, beq_iff_eq] at hi
    obtain ⟨rfl, ⟨-, e3⟩ | ⟨e2, -⟩⟩ := hi
    · exact vk_getf hx hb (C.2.2.2.2.2.1.1 q hq).2.2.1 hS C.1.2.2.2.1 (C.1.2.2.2.2 _ (tb_w_in e3)) (fun _ w => w) hd K
    · exact absurd e2 (by decide)
  · cases hi
theorem wp_sfC {d j pc : Nat} {ls : List (Nat × Value)} {st : List Value} {σ : tm_S} {Q : Option Value → tm_S → Prop} {n : Nat} {zz : List (Int × Nat)} {z : Int} {q : Nat} (h : tt_at j pc = some ((35, 1, z, zz), n)) (hq : q < tt_NS) (kk : WP d j (pc + n) ls (.int 0 :: st) σ Q) : WP d j pc ls (.ref (tt_ST + q) :: st) σ Q := by
  obtain ⟨i, hd, hi⟩ := tb_ok h
  intro p l e R s m args below meth c H locs rls adr D dA C hP hS hl
  have hx := C.1.1
  have hb := C.1.2.1
  have K := kk p l e R s m args below meth c H locs rls adr D dA C hP hS hl
  change tb_sf (tt_y j).cls 1 z.toNat n i = true at hi
  unfold tb_sf at hi
  split at hi
  · simp only [Bool.and_eq_true, Bool.or_eq_true, beq_iff_eq] at hi
    obtain ⟨rfl, ⟨e2, -⟩ | ⟨-, e3⟩⟩ := hi
    · exact absurd e2 (by decide)
    · exact vk_getf hx hb (C.2.2.2.2.2.1.1 q hq).2.1 hS C.1.2.2.2.1 (C.1.2.2.2.2 _ (tb_w_in e3)) (fun _ w => w) hd K
  · cases hi
theorem wp_slen {d j pc : Nat} {ls : List (Nat × Value)} {st : List Value} {σ : tm_S} {Q : Option Value → tm_S → Prop} {n : Nat} {zz : List (Int × Nat)} {k : Nat} {z : Int} {q : Nat} (h : tt_at j pc = some ((23, k, z, zz), n)) (hq : q < tt_NS) (kk : WP d j (pc + n) ls (.int (Int32.ofNat (tt_len.getD q 0)) :: st) σ Q) : WP d j pc ls (.ref (tt_SV + q) :: st) σ Q := by
  obtain ⟨i, hd, hi⟩ := tb_ok h
  intro p l e R s m args below meth c H locs rls adr D dA C hP hS hl
  have hx := C.1.1
  have hb := C.1.2.1
  have K := kk p l e R s m args below meth c H locs rls adr D dA C hP hS hl
  change tb_len n i = true at hi
  unfold tb_len at hi
  split at hi
  · simp only [beq_iff_eq] at hi
    subst hi
    exact va_tlen hx hb (C.2.2.2.2.2.1.1 q hq).2.2.2 hS rfl hd K
  · cases hi
theorem wp_sald {d j pc : Nat} {ls : List (Nat × Value)} {st : List Value} {σ : tm_S} {Q : Option Value → tm_S → Prop} {n : Nat} {zz : List (Int × Nat)} {z : Int} {q : Nat} {x : Int32} (h : tt_at j pc = some ((21, 2, z, zz), n)) (hq : q < tt_NS) (hx1 : vp_in x (tt_len.getD q 0)) (kk : WP d j (pc + n) ls (.int ((tt_byt.getD q []).getD x.toNatClampNeg 0) :: st) σ Q) : WP d j pc ls (.int x :: .ref (tt_SV + q) :: st) σ Q := by
  obtain ⟨i, hd, hi⟩ := tb_ok h
  intro p l e R s m args below meth c H locs rls adr D dA C hP hS hl
  have hx := C.1.1
  have hb := C.1.2.1
  have K := kk p l e R s m args below meth c H locs rls adr D dA C hP hS hl
  show W p l e R s m args below meth c H locs 0 0 _ (F0 m pc rls (.int x :: .ref (adr (tt_SV + q)) :: st.map (tm_tr adr)))
  change tb_ald 2 n i = true at hi
  unfold tb_ald at hi
  split at hi <;> first | (cases hi; done) | (simp only [Bool.and_eq_true, beq_iff_eq] at hi; first | (exact absurd hi.1 (by decide)) | (obtain ⟨-, rfl⟩ := hi; exact va_tb hx hb (C.2.2.2.2.2.1.1 q hq).2.2.2 hS hx1 rfl hd K))
theorem wp_cpy {d j pc : Nat} {ls : List (Nat × Value)} {st : List Value} {σ : tm_S} {Q : Option Value → tm_S → Prop} {n : Nat} {zz : List (Int × Nat)} {k : Nat} {z : Int} {q0 q1 L0 L1 : Nat} {sp dp c0 : Int32} (h : tt_at j pc = some ((34, k, z, zz), n)) (hs0 : tt_shp[q0]? = some (.inr (0, L0))) (hs1 : tt_shp[q1]? = some (.inr (0, L1))) (h1 : ¬ sp < 0) (h2 : ¬ dp < 0) (h3 : ¬ c0 < 0) (h4 : sp.toNatClampNeg + c0.toNatClampNeg ≤ L0) (h5 : dp.toNatClampNeg + c0.toNatClampNeg ≤ L1)
    (hd1 : 1 ≤ d) (hst : (st.map fun v => v.category).sum ≤ 8) (hsys : (Cond.native arraycopyName ∈ tm_tbl ∧ Cond.static arraycopyName ∈ tm_tbl ∧ Cond.initialized "java/lang/System" ∈ tm_tbl)) (kk : WP d j (pc + n) ls st (tm_sA σ q1 (va_cpy (σ.1 q0) (σ.1 q1) sp.toNatClampNeg dp.toNatClampNeg c0.toNatClampNeg)) Q) : WP d j pc ls (.int c0 :: .int dp :: .ref q1 :: .int sp :: .ref q0 :: st) σ Q := by
  obtain ⟨i, hd, hi⟩ := tb_ok h
  intro p l e R s m args below meth c H locs rls adr D dA C hP hS hl
  have hx := C.1.1
  have hb := C.1.2.1
  have K := fun H1 locs1 h1 h2 => kk p l e R s m args below meth c H1 locs1 rls adr D dA C h1 h2 hl
  show W p l e R s m args below meth c H locs 0 0 _ (F0 m pc rls (.int c0 :: .int dp :: .ref (adr q1) :: .int sp :: .ref (adr q0) :: st.map (tm_tr adr)))
  change tb_cpy (tt_y j).cls z.toNat n i = true at hi
  unfold tb_cpy at hi
  split at hi
  · simp only [Bool.and_eq_true, beq_iff_eq] at hi
    obtain ⟨rfl, e3⟩ := hi
    have hcat : ((st.map (tm_tr adr)).map fun v => v.category).sum ≤ 8 := by
      rw [List.map_map, show ((fun v : Value => v.category) ∘ tm_tr adr) = fun v => v.category from funext (tm_tr_cat adr)]
      exact hst
    refine va_copyi hx hb (C.1.2.2.1.trans hl.1.symm) C.1.2.2.2.1 (C.1.2.2.2.2 _ (tb_w_in e3)) (C.1.2.2.2.2 _ hsys.1) (C.1.2.2.2.2 _ hsys.2.1) (C.1.2.2.2.2 _ hsys.2.2) C.2.2.1 hP (tm_D C.2.2.2.1 dA σ s.heap.size) hS q0 q1 0 0 (tm_w_get hs0) (tm_w_get hs1) rfl rfl rfl h1 h2 h3 h4 h5 (fun i _ => rfl) (Nat.le_trans hd1 C.2.1.2.2.1) ?_ hd (fun H1 locs1 g1 g2 g3 => K H1 locs1 ?_ g3)
    · have := C.2.1.2.2.2
      have hw : nativeFrameWords "java/lang/System" "arraycopy" 5 + 11 ≤ 56 := by decide +kernel
      omega
    · have e1 := tm_w_sA (adr := adr) (dA := dA) (σ := σ) (f := va_cpy (σ.1 q0) (σ.1 q1) sp.toNatClampNeg dp.toNatClampNeg c0.toNatClampNeg) hs1
      rw [show tm_cel adr dA (tm_sA σ q1 (va_cpy (σ.1 q0) (σ.1 q1) sp.toNatClampNeg dp.toNatClampNeg c0.toNatClampNeg)) q1 (.inr (0, L1)) = .inl (dA 0, L1, .inl (va_cpy (σ.1 q0) (σ.1 q1) sp.toNatClampNeg dp.toNatClampNeg c0.toNatClampNeg)) from congrArg (fun f => Sum.inl (dA 0, L1, Sum.inl f)) (tm_sA_at _ _ _)] at e1
      exact e1 ▸ g1
  · cases hi
/-! Math: by the rows of the kit -/
theorem tm_m_abs : Cond.static Lib.Math.abs.name ∈ tm_tbl ∧ Cond.initialized "java/lang/Math" ∈ tm_tbl ∧ Cond.code Lib.Math.abs.name Lib.Math.abs.code 1 (some .int) ∈ tm_tbl := ⟨tm_tbl_in (List.mem_of_getElem? (i := 506) (by decide +kernel)) rfl, tm_tbl_in (List.mem_of_getElem? (i := 94) (by decide +kernel)) rfl, tm_tbl_in (List.mem_of_getElem? (i := 507) (by decide +kernel)) rfl⟩
theorem tm_m_min : Cond.static Lib.Math.min.name ∈ tm_tbl ∧ Cond.initialized "java/lang/Math" ∈ tm_tbl ∧ Cond.code Lib.Math.min.name Lib.Math.min.code 2 (some .int) ∈ tm_tbl := ⟨tm_tbl_in (List.mem_of_getElem? (i := 509) (by decide +kernel)) rfl, tm_tbl_in (List.mem_of_getElem? (i := 94) (by decide +kernel)) rfl, tm_tbl_in (List.mem_of_getElem? (i := 510) (by decide +kernel)) rfl⟩
theorem tm_m_max : Cond.static Lib.Math.max.name ∈ tm_tbl ∧ Cond.initialized "java/lang/Math" ∈ tm_tbl ∧ Cond.code Lib.Math.max.name Lib.Math.max.code 2 (some .int) ∈ tm_tbl := ⟨tm_tbl_in (List.mem_of_getElem? (i := 891) (by decide +kernel)) rfl, tm_tbl_in (List.mem_of_getElem? (i := 94) (by decide +kernel)) rfl, tm_tbl_in (List.mem_of_getElem? (i := 892) (by decide +kernel)) rfl⟩
theorem wp_mabs {d j pc : Nat} {ls : List (Nat × Value)} {st : List Value} {σ : tm_S} {Q : Option Value → tm_S → Prop} {n : Nat} {zz : List (Int × Nat)} {z : Int} {x : Int32} (h : tt_at j pc = some ((36, 0, z, zz), n)) (hd1 : 1 ≤ d) (hst : (st.map fun v => v.category).sum ≤ 8) (kk : WP d j (pc + n) ls (.int (if 0 ≤ x then x else 0 - x) :: st) σ Q) : WP d j pc ls (.int x :: st) σ Q := by
  obtain ⟨i, hd, hi⟩ := tb_ok h
  intro p l e R s m args below meth c H locs rls adr D dA C hP hS hl
  have hx := C.1.1
  have hb := C.1.2.1
  have K := kk p l e R s m args below meth c H locs rls adr D dA C hP hS hl
  change tb_mth (tt_y j).cls 0 z.toNat n i = true at hi
  unfold tb_mth at hi
  split at hi
  · rename_i idx
    simp only [Bool.and_eq_true, Bool.or_eq_true, beq_iff_eq] at hi
    obtain ⟨rfl, hi⟩ := hi
    have e3 : tb_w z.toNat (.methodLink (tt_y j).cls idx Lib.Math.abs.name) = true := by
      rcases hi with ⟨e, e3⟩ | ⟨e, e3⟩ | ⟨e, e3⟩ <;> first | exact e3 | exact absurd e (by decide)
    have hcat : ((st.map (tm_tr adr)).map fun v => v.category).sum ≤ 8 := by
      rw [List.map_map, show ((fun v : Value => v.category) ∘ tm_tr adr) = fun v => v.category from funext (tm_tr_cat adr)]
      exact hst
    refine va_mabs hx hb (C.1.2.2.1.trans hl.1.symm) C.1.2.2.2.1 (C.1.2.2.2.2 _ (tb_w_in e3)) (C.1.2.2.2.2 _ tm_m_abs.1) (C.1.2.2.2.2 _ tm_m_abs.2.1) (C.1.2.2.2.2 _ tm_m_abs.2.2) (Nat.le_trans hd1 C.2.1.2.2.1) ?_ (Nat.zero_le _) (Nat.zero_le _) hd K
    have := C.2.1.2.2.2
    omega
  · cases hi
theorem wp_mmin {d j pc : Nat} {ls : List (Nat × Value)} {st : List Value} {σ : tm_S} {Q : Option Value → tm_S → Prop} {n : Nat} {zz : List (Int × Nat)} {z : Int} {x y : Int32} (h : tt_at j pc = some ((36, 1, z, zz), n)) (hd1 : 1 ≤ d) (hst : (st.map fun v => v.category).sum ≤ 8) (kk : WP d j (pc + n) ls (.int (if y < x then y else x) :: st) σ Q) : WP d j pc ls (.int y :: .int x :: st) σ Q := by
  obtain ⟨i, hd, hi⟩ := tb_ok h
  intro p l e R s m args below meth c H locs rls adr D dA C hP hS hl
  have hx := C.1.1
  have hb := C.1.2.1
  have K := kk p l e R s m args below meth c H locs rls adr D dA C hP hS hl
  change tb_mth (tt_y j).cls 1 z.toNat n i = true at hi
  unfold tb_mth at hi
  split at hi
  · rename_i idx
    simp only [Bool.and_eq_true, Bool.or_eq_true, beq_iff_eq] at hi
    obtain ⟨rfl, hi⟩ := hi
    have e3 : tb_w z.toNat (.methodLink (tt_y j).cls idx Lib.Math.min.name) = true := by
      rcases hi with ⟨e, e3⟩ | ⟨e, e3⟩ | ⟨e, e3⟩ <;> first | exact e3 | exact absurd e (by decide)
    have hcat : ((st.map (tm_tr adr)).map fun v => v.category).sum ≤ 8 := by
      rw [List.map_map, show ((fun v : Value => v.category) ∘ tm_tr adr) = fun v => v.category from funext (tm_tr_cat adr)]
      exact hst
    refine va_mmin hx hb (C.1.2.2.1.trans hl.1.symm) C.1.2.2.2.1 (C.1.2.2.2.2 _ (tb_w_in e3)) (C.1.2.2.2.2 _ tm_m_min.1) (C.1.2.2.2.2 _ tm_m_min.2.1) (C.1.2.2.2.2 _ tm_m_min.2.2) (Nat.le_trans hd1 C.2.1.2.2.1) ?_ (Nat.zero_le _) (Nat.zero_le _) hd K
    have := C.2.1.2.2.2
    omega
  · cases hi
theorem wp_mmax {d j pc : Nat} {ls : List (Nat × Value)} {st : List Value} {σ : tm_S} {Q : Option Value → tm_S → Prop} {n : Nat} {zz : List (Int × Nat)} {z : Int} {x y : Int32} (h : tt_at j pc = some ((36, 2, z, zz), n)) (hd1 : 1 ≤ d) (hst : (st.map fun v => v.category).sum ≤ 8) (kk : WP d j (pc + n) ls (.int (if x < y then y else x) :: st) σ Q) : WP d j pc ls (.int y :: .int x :: st) σ Q := by
  obtain ⟨i, hd, hi⟩ := tb_ok h
  intro p l e R s m args below meth c H locs rls adr D dA C hP hS hl
  have hx := C.1.1
  have hb := C.1.2.1
  have K := kk p l e R s m args below meth c H locs rls adr D dA C hP hS hl
  change tb_mth (tt_y j).cls 2 z.toNat n i = true at hi
  unfold tb_mth at hi
  split at hi
  · rename_i idx
    simp only [Bool.and_eq_true, Bool.or_eq_true, beq_iff_eq] at hi
    obtain ⟨rfl, hi⟩ := hi
    have e3 : tb_w z.toNat (.methodLink (tt_y j).cls idx Lib.Math.max.name) = true := by
      rcases hi with ⟨e, e3⟩ | ⟨e, e3⟩ | ⟨e, e3⟩ <;> first | exact e3 | exact absurd e (by decide)
    have hcat : ((st.map (tm_tr adr)).map fun v => v.category).sum ≤ 8 := by
      rw [List.map_map, show ((fun v : Value => v.category) ∘ tm_tr adr) = fun v => v.category from funext (tm_tr_cat adr)]
      exact hst
    refine va_mmax hx hb (C.1.2.2.1.trans hl.1.symm) C.1.2.2.2.1 (C.1.2.2.2.2 _ (tb_w_in e3)) (C.1.2.2.2.2 _ tm_m_max.1) (C.1.2.2.2.2 _ tm_m_max.2.1) (C.1.2.2.2.2 _ tm_m_max.2.2) (Nat.le_trans hd1 C.2.1.2.2.1) ?_ (Nat.zero_le _) (Nat.zero_le _) hd K
    have := C.2.1.2.2.2
    omega
  · cases hi
