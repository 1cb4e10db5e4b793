/-! ===== the machine: stores, worlds, the judgement ===== -/
/-- a store: ints, longs, references (places) by place and slot -/
abbrev tm_S : Type := (Nat → Nat → Int32) × (Nat → Nat → Int64) × (Nat → Nat → Nat)
def tm_sA (σ : tm_S) (k : Nat) (f : Nat → Int32) : tm_S := (fun a => if a = k then f else σ.1 a, σ.2.1, σ.2.2)
def tm_sI (σ : tm_S) (k j : Nat) (v : Int32) : tm_S := tm_sA σ k (upd (σ.1 k) j v)
def tm_sJ (σ : tm_S) (k j : Nat) (v : Int64) : tm_S := (σ.1, fun a => if a = k then vp_updL (σ.2.1 k) j v else σ.2.1 a, σ.2.2)
def tm_sR (σ : tm_S) (k j v : Nat) : tm_S := (σ.1, σ.2.1, fun a => if a = k then (fun i => if i = j then v else σ.2.2 k i) else σ.2.2 a)
def tm_fld (adr : Nat → Nat) (σ : tm_S) (k j : Nat) : Nat → Value
  | 0 => .int (σ.1 k j)
  | 1 => .int (σ.1 k j)
  | 2 => .long (σ.2.1 k j)
  | 3 => .ref (adr (σ.2.2 k j))
  | p + 4 => .ref (adr p)
/-- the same with places for addresses -/
def tm_val (σ : tm_S) (k j : Nat) : Nat → Value
  | 0 => .int (σ.1 k j)
  | 1 => .int (σ.1 k j)
  | 2 => .long (σ.2.1 k j)
  | 3 => .ref (σ.2.2 k j)
  | p + 4 => .ref p
def tm_fs (adr : Nat → Nat) (σ : tm_S) (k : Nat) : Nat → List Nat → List Value
  | _, [] => []
  | j, d :: ds => tm_fld adr σ k j d :: tm_fs adr σ k (j + 1) ds
def tm_cel (adr : Nat → Nat) (dA : Nat → ClassId) (σ : tm_S) (k : Nat) : tt_Sh → va_E
  | .inl (ci, ks) => .inr (ci, tm_fs adr σ k 0 ks)
  | .inr (0, n) => .inl (dA 0, n, .inl (σ.1 k))
  | .inr (1, n) => .inl (dA 1, n, .inr (.inl (σ.2.1 k)))
  | .inr (2, n) => .inl (dA 2, n, .inl (σ.1 k))
  | .inr (t + 3, n) => .inl (dA 3, n, .inr (.inr (.inr (.inr (fun i => if i < n then some (adr (t + i)) else none)))))
def tm_w (adr : Nat → Nat) (dA : Nat → ClassId) (σ : tm_S) : va_W := tt_shp.mapIdx (fun k sh => (adr k, tm_cel adr dA σ k sh))
def tm_ty (dA : Nat → ClassId) : List (ClassId × FieldType) := [(dA 0, .int), (dA 1, .long), (dA 2, .boolean), (dA 3, .array .int)]
def tm_tr (adr : Nat → Nat) : Value → Value
  | .ref k => .ref (adr k)
  | v => v
def tm_trl (adr : Nat → Nat) (ls : List (Nat × Value)) : List (Nat × Value) := ls.map (fun q => (q.1, tm_tr adr q.2))
/-- storing a local of one word, of two words -/
def tm_st1 (ls : List (Nat × Value)) (i : Nat) (v : Value) : List (Nat × Value) := (i, v) :: ls.filter (fun q => !(q.1 == i) && !(q.1 + 1 == i && q.2.category == 2))
def tm_st2 (ls : List (Nat × Value)) (i : Nat) (v : Value) : List (Nat × Value) := (i, v) :: ls.filter (fun q => !(q.1 == i) && (!(q.1 == i + 1) && !(q.1 + 1 == i && q.2.category == 2)))
theorem tm_tr_cat (adr : Nat → Nat) (v : Value) : (tm_tr adr v).category = v.category := by cases v <;> rfl
theorem tm_trl_st1 (adr : Nat → Nat) (ls : List (Nat × Value)) (i : Nat) (v : Value) : tm_trl adr (tm_st1 ls i v) = (i, tm_tr adr v) :: (tm_trl adr ls).filter (fun q => !(q.1 == i) && !(q.1 + 1 == i && q.2.category == 2)) := by
  unfold tm_trl tm_st1
  rw [List.map_cons, List.filter_map]
  congr 2
  refine congrArg (fun f => List.filter f ls) (funext fun q => ?_)
  simp [tm_tr_cat]
theorem tm_trl_st2 (adr : Nat → Nat) (ls : List (Nat × Value)) (i : Nat) (v : Value) : tm_trl adr (tm_st2 ls i v) = (i, tm_tr adr v) :: (tm_trl adr ls).filter (fun q => !(q.1 == i) && (!(q.1 == i + 1) && !(q.1 + 1 == i && q.2.category == 2))) := by
  unfold tm_trl tm_st2
  rw [List.map_cons, List.filter_map]
  congr 2
  refine congrArg (fun f => List.filter f ls) (funext fun q => ?_)
  simp [tm_tr_cat]
theorem tm_trl_mem {adr : Nat → Nat} {ls : List (Nat × Value)} {i : Nat} {v : Value} (h : (i, v) ∈ ls) : (i, tm_tr adr v) ∈ tm_trl adr ls := List.mem_map.mpr ⟨(i, v), h, rfl⟩
theorem tm_args_tr (adr : Nat → Nat) : ∀ (vs : List Value) (i : Nat), lv_args i (vs.map (tm_tr adr)) = tm_trl adr (lv_args i vs)
  | [], _ => rfl
  | v :: vs, i => by
    show (i, tm_tr adr v) :: lv_args (if (tm_tr adr v).category = 2 then i + 2 else i + 1) (vs.map (tm_tr adr)) = (i, tm_tr adr v) :: tm_trl adr (lv_args (if v.category = 2 then i + 2 else i + 1) vs)
    rw [tm_tr_cat, tm_args_tr adr vs]
theorem tm_sl_len (adr : Nat → Nat) : ∀ vs : List Value, (lg_sl (vs.map (tm_tr adr))).length = (lg_sl vs).length
  | [] => rfl
  | v :: vs => by
    have h := tm_sl_len adr vs
    unfold lg_sl at h ⊢
    rw [List.map_cons, List.flatMap_cons, List.flatMap_cons, List.length_append, List.length_append, h, tm_tr_cat]
    by_cases hc : v.category = 2 <;> simp [hc]
/-- the places are apart -/
def tm_inj (adr : Nat → Nat) : Prop := ∀ i j : Nat, i < tt_NQ → j < tt_NQ → adr i = adr j → i = j
/-- what a method may change -/
def tm_A (adr : Nat → Nat) (sz : Nat) : Nat → Prop := fun q => (∃ k : Nat, k < tt_NP ∧ q = adr k) ∨ sz ≤ q
theorem tm_A_le {adr : Nat → Nat} {a b : Nat} (h : a ≤ b) : ∀ q, tm_A adr b q → tm_A adr a q := fun _ hq => hq.elim Or.inl (fun z => Or.inr (Nat.le_trans h z))
theorem tm_w_get {adr : Nat → Nat} {dA : Nat → ClassId} {σ : tm_S} {k : Nat} {sh : tt_Sh} (h : tt_shp[k]? = some sh) : (tm_w adr dA σ)[k]? = some (adr k, tm_cel adr dA σ k sh) := by
  unfold tm_w
  rw [List.getElem?_mapIdx, h]
  rfl
theorem tm_w_inv {adr : Nat → Nat} {dA : Nat → ClassId} {σ : tm_S} {k : Nat} {q : Nat × va_E} (h : (tm_w adr dA σ)[k]? = some q) : ∃ sh, tt_shp[k]? = some sh ∧ q = (adr k, tm_cel adr dA σ k sh) := by
  unfold tm_w at h
  rw [List.getElem?_mapIdx] at h
  cases hs : tt_shp[k]? with
  | none => rw [hs] at h; cases h
  | some sh => rw [hs] at h; exact ⟨sh, rfl, (Option.some.inj h).symm⟩
theorem tm_lt {k : Nat} {sh : tt_Sh} (h : tt_shp[k]? = some sh) : k < tt_NP := by
  have h1 := (List.getElem?_eq_some_iff.mp h).1
  exact Nat.lt_of_lt_of_eq h1 tt_NP_eq.symm
theorem tm_D {adr : Nat → Nat} (hi : tm_inj adr) (dA : Nat → ClassId) (σ : tm_S) (sz : Nat) : va_D (tm_A adr sz) (tm_w adr dA σ) := by
  refine ⟨fun i j x y hx hy e => ?_, fun k q h => ?_⟩
  · obtain ⟨s1, h1, rfl⟩ := tm_w_inv hx
    obtain ⟨s2, h2, rfl⟩ := tm_w_inv hy
    exact hi i j (Nat.lt_of_lt_of_le (tm_lt h1) tt_NPQ) (Nat.lt_of_lt_of_le (tm_lt h2) tt_NPQ) e
  · obtain ⟨s1, h1, rfl⟩ := tm_w_inv h
    exact Or.inl ⟨k, tm_lt h1, rfl⟩
/-- one cell set: the world of the new store -/
theorem tm_w_set {adr : Nat → Nat} {dA : Nat → ClassId} {σ σ' : tm_S} {k : Nat} {sh : tt_Sh} (h : tt_shp[k]? = some sh) (ho : ∀ (a : Nat) (s : tt_Sh), a ≠ k → tm_cel adr dA σ' a s = tm_cel adr dA σ a s) : (tm_w adr dA σ).set k (adr k, tm_cel adr dA σ' k sh) = tm_w adr dA σ' := by
  apply List.ext_getElem?
  intro i
  by_cases hk : k = i
  · subst hk
    have hl : k < (tm_w adr dA σ).length := (List.getElem?_eq_some_iff.mp (tm_w_get (adr := adr) (dA := dA) (σ := σ) h)).1
    rw [List.getElem?_set_self hl, tm_w_get h]
  · rw [List.getElem?_set_ne hk]
    unfold tm_w
    rw [List.getElem?_mapIdx, List.getElem?_mapIdx]
    cases tt_shp[i]? with
    | none => rfl
    | some s => simp only [Option.map_some]; rw [ho i s (fun e => hk e.symm)]
theorem tm_fs_get (adr : Nat → Nat) (σ : tm_S) (k : Nat) : ∀ (ks : List Nat) (j i : Nat) (d : Nat), ks[i]? = some d → (tm_fs adr σ k j ks)[i]? = some (tm_fld adr σ k (j + i) d)
  | [], _, _, _, h => by simp at h
  | e :: es, j, 0, d, h => by
    simp at h
    subst h
    rfl
  | e :: es, j, i + 1, d, h => by
    have h1 : es[i]? = some d := by simpa using h
    have h2 := tm_fs_get adr σ k es (j + 1) i d h1
    show (tm_fs adr σ k (j + 1) es)[i]? = _
    rw [h2, show j + 1 + i = j + (i + 1) by omega]
theorem tm_fs_len (adr : Nat → Nat) (σ : tm_S) (k : Nat) : ∀ (ks : List Nat) (j : Nat), (tm_fs adr σ k j ks).length = ks.length
  | [], _ => rfl
  | e :: es, j => by show (tm_fs adr σ k (j + 1) es).length + 1 = es.length + 1; rw [tm_fs_len adr σ k es (j + 1)]
theorem tm_fs_set (adr : Nat → Nat) (σ σ' : tm_S) (k : Nat) : ∀ (ks : List Nat) (j i : Nat) (d : Nat) (v : Value), ks[i]? = some d → tm_fld adr σ' k (j + i) d = v → (∀ a e, a ≠ j + i → tm_fld adr σ' k a e = tm_fld adr σ k a e) → (tm_fs adr σ k j ks).set i v = tm_fs adr σ' k j ks
  | [], _, _, _, _, h, _, _ => by simp at h
  | e :: es, j, 0, d, v, h, hv, ho => by
    simp at h
    subst h
    show v :: tm_fs adr σ k (j + 1) es = tm_fld adr σ' k j e :: tm_fs adr σ' k (j + 1) es
    have e2 : ∀ (es : List Nat) (n : Nat), j < n → tm_fs adr σ k n es = tm_fs adr σ' k n es := by
      intro es
      induction es with
      | nil => intro n _; rfl
      | cons x xs ih => intro n hn; show tm_fld adr σ k n x :: _ = tm_fld adr σ' k n x :: _; rw [ho n x (by omega), ih (n + 1) (by omega)]
    rw [e2 es (j + 1) (by omega), ← hv]
    rfl
  | e :: es, j, i + 1, d, v, h, hv, ho => by
    have h1 : es[i]? = some d := by simpa using h
    show tm_fld adr σ k j e :: (tm_fs adr σ k (j + 1) es).set i v = tm_fld adr σ' k j e :: tm_fs adr σ' k (j + 1) es
    rw [ho j e (by omega), tm_fs_set adr σ σ' k es (j + 1) i d v h1 (by rw [show j + 1 + i = j + (i + 1) by omega]; exact hv) (fun a e2 ha => ho a e2 (by omega))]
/-- what does not change: the constants, their objects, the links of nest mates -/
def tm_isNest : Cond → Bool
  | .methodLinkNest .. => true
  | _ => false
def tm_nest : List Cond := lw_tbl.filter tm_isNest
def tm_K (adr : Nat → Nat) (A : Nat → Prop) (U : State) (H : Heap) : Prop :=
  va_En "ToneHouse$Token" "LToneHouse$Token;" tt_tok [] (fun i => adr (tt_EN + i)) A U H ∧ vk_S tt_NS tt_len tt_byt (fun i => adr (tt_ST + i)) (fun i => adr (tt_SV + i)) A U H ∧ va_Z "java/lang/String" "COMPACT_STRINGS" "Z" (.int 1) A U H ∧
  (va_Z "jdk/internal/util/Preconditions" "SIOOBE_FORMATTER" "Ljava/util/function/BiFunction;" .null A U H ∨ va_Z "jdk/internal/util/Preconditions" "SIOOBE_FORMATTER" "Ljava/util/function/BiFunction;" (.ref (adr tt_XQ)) A U H) ∧
  (∀ q ∈ tt_ldc, vk_R q.1 q.2.1 q.2.2.1 (adr q.2.2.2) U) ∧ ∀ w ∈ tm_nest, va_Nw w U
theorem tm_K_go {adr : Nat → Nat} {A B : Nat → Prop} {s U : State} {H H1 : Heap} (h : tm_K adr A s H) (hW : s.WarmedH U.vm) (hq : ∀ a : Nat, a < H.size → ¬ A a → H1[a]? = H[a]?) (hAB : ∀ q, B q → A q) : tm_K adr B U H1 := by
  obtain ⟨h1, h2, h3, h4, h5, h6⟩ := h
  refine ⟨(va_En.moved hW.alike (h1.kept hq)).narrow hAB, (vk_S.moved hW.alike (h2.kept hq)).narrow hAB, (va_Z.moved hW.alike (h3.kept hq)).narrow hAB, ?_, fun q hq => (h5 q hq).warm hW, fun w hw => ?_⟩
  · rcases h4 with h | h
    · exact Or.inl ((va_Z.moved hW.alike (h.kept hq)).narrow hAB)
    · exact Or.inr ((va_Z.moved hW.alike (h.kept hq)).narrow hAB)
  · have hn := h6 w hw
    have hm := (List.mem_filter.mp hw).2
    cases w <;> first | (simp [tm_isNest] at hm; done) | exact va_Nw.warmM hW hn
theorem tm_K_same {adr : Nat → Nat} {A : Nat → Prop} {s U : State} {H : Heap} (h : tm_K adr A s H) (hv : s.vm = U.vm) : tm_K adr A U H := by
  have ha : s.vm.Alike U.vm := by rw [hv]; exact Vm.Alike.refl U.vm
  obtain ⟨h1, h2, h3, h4, h5, h6⟩ := h
  refine ⟨va_En.moved ha h1, vk_S.moved ha h2, va_Z.moved ha h3, ?_, fun q hq => (h5 q hq).same hv.symm, fun w hw => ?_⟩
  · rcases h4 with h | h
    · exact Or.inl (va_Z.moved ha h)
    · exact Or.inr (va_Z.moved ha h)
  · have hn := h6 w hw
    have hm := (List.mem_filter.mp hw).2
    cases w <;> first | (simp [tm_isNest] at hm; done) | exact va_Nw.same rfl hv hn
/-- the words of every method -/
def tm_tbl : List Cond := lw_tbl.filter goodWord
def tm_ws (j : Nat) : List Cond := Cond.code (tt_y j) (tt_c j) (tt_n j) (tt_r j) :: tm_tbl
def tm_rm (d : Nat) : Room := { frames := d, cells := 0, slots := 0, locals := 64 * d }
theorem tm_tbl_in {w : Cond} (h : w ∈ lw_tbl) (hg : goodWord w = true) : w ∈ tm_tbl := List.mem_filter.mpr ⟨h, hg⟩
theorem tm_tbl_good : GoodIn tm_tbl tm_tbl := fun w h => ⟨h, good_of_word (List.mem_filter.mp h).2⟩
/-- an activation: what does not change while a method runs -/
def tm_Fix (d j : Nat) (p : Program) (R : Room) (s : State) (m : MethodId) (args : Array Value) (meth : Method) (c : Code) (adr : Nat → Nat) (D : va_G) (dA : Nat → ClassId) : Prop :=
  (p.tables.exec = Jvm.exec ∧ c.code = tt_c j ∧ c.maxLocals = tt_n j ∧ s.vm.findClass (tt_y j).cls = some m.cls ∧ ∀ w ∈ tm_tbl, w.before args s = true) ∧
  (meth.sig.returnType = tt_r j ∧ meth.locks = false ∧ d ≤ R.frames ∧ 64 * d ≤ R.locals) ∧ va_K D tt_cl (tm_ty dA) s ∧ tm_inj adr ∧ tm_K adr (tm_A adr s.heap.size) s s.heap
def tm_Q (adr : Nat → Nat) (D : va_G) (dA : Nat → ClassId) (sz : Nat) (Q : Option Value → tm_S → Prop) : Array Value → State → Outcome → State → Prop := fun _ st oc t =>
  ∃ (r : Option Value) (σ' : tm_S), Q r σ' ∧ oc = .returned (r.map (tm_tr adr)) ∧ va_P D tt_cl (tm_w adr dA σ') t.heap ∧ va_F (tm_A adr sz) st t
/-- THE JUDGEMENT: method j at pc, locals ls, stack st, store σ: it returns, with Q -/
def WP (d j pc : Nat) (ls : List (Nat × Value)) (st : List Value) (σ : tm_S) (Q : Option Value → tm_S → Prop) : Prop :=
  ∀ (p : Program) (l : Launch) (e : Env) (R : Room) (s : State) (m : MethodId) (args : Array Value) (below : List Frame) (meth : Method) (c : Code) (H : Heap) (locs : List Loc) (rls : Array Slot) (adr : Nat → Nat) (D : va_G) (dA : Nat → ClassId),
    tm_Fix d j p R s m args meth c adr D dA → va_P D tt_cl (tm_w adr dA σ) H → va_S (tm_A adr s.heap.size) s.heap H locs → lv_has rls (tt_n j) (tm_trl adr ls) →
    W p l e R s m args below meth c H locs 0 0 (MQ below (tm_Q adr D dA s.heap.size Q) args s 0 0 (tm_A adr s.heap.size)) (F0 m pc rls (st.map (tm_tr adr)))
/-- a method whole -/
def WM (d j : Nat) (As : List Value) (σ : tm_S) (Q : Option Value → tm_S → Prop) : Prop := WP d j 0 (lv_args 0 As) [] σ Q
theorem WP.mono {d j pc : Nat} {ls : List (Nat × Value)} {st : List Value} {σ : tm_S} {Q Q' : Option Value → tm_S → Prop} (h : WP d j pc ls st σ Q) (hq : ∀ r σ', Q r σ' → Q' r σ') : WP d j pc ls st σ Q' := by
  intro p l e R s m args below meth c H locs rls adr D dA C hP hS hl T hT X
  obtain ⟨t, a, o, b1, b2, ⟨r, σ', h1, h2⟩, b4⟩ := h p l e R s m args below meth c H locs rls adr D dA C hP hS hl T hT X
  exact ⟨t, a, o, b1, b2, ⟨r, σ', hq r σ' h1, h2⟩, b4⟩
theorem WP.deep {d d' j pc : Nat} {ls : List (Nat × Value)} {st : List Value} {σ : tm_S} {Q : Option Value → tm_S → Prop} (h : WP d j pc ls st σ Q) (hd : d ≤ d') : WP d' j pc ls st σ Q := by
  intro p l e R s m args below meth c H locs rls adr D dA C
  obtain ⟨c1, ⟨c2, c3, c4, c5⟩, c6⟩ := C
  exact h p l e R s m args below meth c H locs rls adr D dA ⟨c1, ⟨c2, c3, Nat.le_trans hd c4, Nat.le_trans (Nat.mul_le_mul_left 64 hd) c5⟩, c6⟩
theorem WP.less {d j pc : Nat} {ls ls' : List (Nat × Value)} {st : List Value} {σ : tm_S} {Q : Option Value → tm_S → Prop} (h : WP d j pc ls' st σ Q) (hl : ∀ q ∈ ls', q ∈ ls) : WP d j pc ls st σ Q := by
  intro p l e R s m args below meth c H locs rls adr D dA C hP hS hv
  refine h p l e R s m args below meth c H locs rls adr D dA C hP hS ⟨hv.1, hv.2.1, fun q hq => ?_⟩
  obtain ⟨x, hx, rfl⟩ := List.mem_map.mp hq
  exact hv.2.2 _ (List.mem_map.mpr ⟨x, hl x hx, rfl⟩)
theorem WM.mono {d j : Nat} {As : List Value} {σ : tm_S} {Q Q' : Option Value → tm_S → Prop} (h : WM d j As σ Q) (hq : ∀ r σ', Q r σ' → Q' r σ') : WM d j As σ Q' := WP.mono h hq
theorem WM.deep {d d' j : Nat} {As : List Value} {σ : tm_S} {Q : Option Value → tm_S → Prop} (h : WM d j As σ Q) (hd : d ≤ d') : WM d' j As σ Q := WP.deep h hd
/-- a method's contract at a call: the start -/
def tm_P (adr : Nat → Nat) (D : va_G) (dA : Nat → ClassId) (As : List Value) (σ : tm_S) (sz : Nat) : Array Value → State → Prop :=
  va_Pc (As.map (tm_tr adr)) (fun U => U.heap.size = sz ∧ va_P D tt_cl (tm_w adr dA σ) U.heap ∧ va_K D tt_cl (tm_ty dA) U ∧ tm_K adr (tm_A adr sz) U U.heap)
set_option maxHeartbeats 4000000 in
theorem tm_met {d j : Nat} {As : List Value} {σ : tm_S} {Q : Option Value → tm_S → Prop} (h : WM d j As σ Q) (hy : plainName (tt_y j).cls = true) (hn : (lg_sl As).length ≤ tt_n j) (l : Launch) {adr : Nat → Nat} (hi : tm_inj adr) (D : va_G) (dA : Nat → ClassId) (sz : Nat) :
    Met l (tt_y j) (tm_ws j) (tm_rm d) (tm_P adr D dA As σ sz) (tm_Q adr D dA sz Q) 0 0 (tm_A adr sz) := by
  refine Met.ofW (cc := tt_c j) (maxL := tt_n j) (ret := tt_r j) hy rfl ?_
  intro p e s m args below meth c s₁ B hml hv
  obtain ⟨rfl, hsz, hP, hK, hKo⟩ := hv
  subst hsz
  have hts := atoms_spec (ws := tm_ws j) B.pre
  have hown : s.vm.findClass (tt_y j).cls = some m.cls := findClass_of_methodNamed B.named
  have hl := lv_entry (As.map (tm_tr adr)) (n := tt_n j) (by rw [tm_sl_len]; exact hn)
  rw [lg_entry_eq]
  rw [tm_args_tr] at hl
  exact h p l e (headSpec (tm_ws j) (tm_rm d)).room s m _ below meth c s.heap [] _ adr D dA ⟨⟨B.exec, B.bytes, hml, hown, fun w hw => hts w (List.mem_cons_of_mem _ hw)⟩, ⟨B.returns, B.notSynchronized, Nat.le_refl _, Nat.le_refl _⟩, hK, hi, hKo⟩ hP va_S.rf hl
theorem tm_blind (adr : Nat → Nat) (D : va_G) (dA : Nat → ClassId) (As : List Value) (σ : tm_S) (sz : Nat) : FrameBlind (tm_P adr D dA As σ sz) := by
  intro a U g mk q
  obtain ⟨q0, q1, qP, qK, qO⟩ := q
  exact ⟨q0, q1, qP, va_K.moved (u := U) (U := U.calling g mk a) (Vm.Alike.refl U.vm) qK, tm_K_same (U := U.calling g mk a) qO rfl⟩
theorem tm_start {adr : Nat → Nat} {D : va_G} {dA : Nat → ClassId} {As : List Value} {σ : tm_S} {s : State} {H : Heap} {locs : List Loc} (hK : va_K D tt_cl (tm_ty dA) s) (hKo : tm_K adr (tm_A adr s.heap.size) s s.heap) (hP : va_P D tt_cl (tm_w adr dA σ) H) (hS : va_S (tm_A adr s.heap.size) s.heap H locs) :
    ∀ U : State, U.heap = H → s.WarmedH U.vm → tm_P adr D dA As σ H.size (As.map (tm_tr adr)).toArray U := by
  intro U hU hW
  refine ⟨rfl, by rw [hU], by rw [hU]; exact hP, va_K.moved hW.alike hK, ?_⟩
  rw [hU]
  exact tm_K_go hKo hW hS.2.1 (tm_A_le hS.1)
set_option maxHeartbeats 4000000 in
theorem tm_cont {p : Program} {l : Launch} {e : Env} {R : Room} {s : State} {m : MethodId} {args : Array Value} {below : List Frame} {meth : Method} {c : Code} {H : Heap} {locs : List Loc} {Qf : State → Prop} {pc : Nat} {rls : Array Slot} {st0 rest : List Value} {a : Array Value} {adr : Nat → Nat} {D : va_G} {dA : Nat → ClassId} {Q' : Option Value → tm_S → Prop}
    (hr : va_Run p l e R s m args below meth c H locs 0 0 0 0 (F0 m pc rls st0) rest (tm_Q adr D dA H.size Q' a) (tm_A adr H.size)) (hS : va_S (tm_A adr s.heap.size) s.heap H locs)
    (kk : ∀ (r : Option Value) (σ' : tm_S) (H1 : Heap) (locs1 : List Loc), Q' r σ' → va_P D tt_cl (tm_w adr dA σ') H1 → va_S (tm_A adr s.heap.size) s.heap H1 locs1 → W p l e R s m args below meth c H1 locs1 0 0 Qf (F0 m (pc + 3) rls ((r.map (tm_tr adr)).toList ++ rest))) : W p l e R s m args below meth c H locs 0 0 Qf (F0 m pc rls st0) := by
  intro T hT X
  obtain ⟨v, st₀, t, T', L, h0, X', hL, e1, e2, ⟨r, σ', hq, hv, hP, hz, hk⟩, st⟩ := hr T hT X
  cases hv
  rw [h0] at hz hk
  obtain ⟨t2, a1, b1⟩ := kk r σ' T'.heap (locs ++ L) hq (by rw [e1]; exact hP)
    ⟨Nat.le_trans hS.1 (by rw [e1]; exact hz), fun q h1 h2 => by rw [e1, hk q (Nat.lt_of_lt_of_le h1 hS.1) (fun z => h2 (tm_A_le hS.1 q z))]; exact hS.2.1 q h1 h2, fun q hq => by
      rcases List.mem_append.mp hq with h | h
      · exact hS.2.2 q h
      · exact tm_A_le hS.1 _ (hL q h)⟩ T' rfl X'
  exact ⟨t2, st t2 a1, b1⟩
