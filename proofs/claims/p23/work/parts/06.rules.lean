/-! ===== the rules of the judgement, an instruction each ===== -/
def tm_ib : Nat → Int32 → Int32 → Int32
  | 0, x, y => x + y
  | 1, x, y => x - y
  | 2, x, y => x * y
  | 3, x, y => x &&& y
  | 4, x, y => x ||| y
  | 5, x, y => x ^^^ y
  | 6, x, y => x <<< (y &&& 31)
  | 7, x, y => x >>> (y &&& 31)
  | _, x, y => (x.toUInt32 >>> (y.toUInt32 &&& Int32.toUInt32 31)).toInt32
def tm_lb : Nat → Int64 → Int64 → Int64
  | 0, x, y => x + y
  | 1, x, y => x - y
  | 2, x, y => x * y
  | 3, x, y => x &&& y
  | 4, x, y => x ||| y
  | _, x, y => x ^^^ y
def tm_ls : Nat → Int64 → Int32 → Int64
  | 0, x, y => x <<< (y.toInt64 &&& 63)
  | 1, x, y => x >>> (y.toInt64 &&& 63)
  | _, x, y => (x.toUInt64 >>> (y.toInt64.toUInt64 &&& Int64.toUInt64 63)).toInt64
theorem wp_ldi {d j pc : Nat} {ls : List (Nat × Value)} {st : List Value} {σ : tm_S} {Q : Option Value → tm_S → Prop} {n : Nat} {zz : List (Int × Nat)} {k : Nat} {z : Int} {x : Int32} (h : tt_at j pc = some ((0, k, z, zz), n)) (hv : (k, Value.int x) ∈ ls) (kk : WP d j (pc + n) ls (.int x :: st) σ Q) : WP d j pc ls st σ Q := by
  obtain ⟨i, hd, hi⟩ := tb_ok h
  intro p l e R s m args below meth c H locs rls adr D dA C hP hS hl
  have hx := C.1.1
  have hb := C.1.2.1
  have K := kk p l e R s m args below meth c H locs rls adr D dA C hP hS hl
  have hm := hl.2.2 _ (tm_trl_mem hv)
  change tb_ldi k n i = true at hi
  unfold tb_ldi at hi
  split at hi
  · simp only [Bool.and_eq_true, beq_iff_eq] at hi
    obtain ⟨rfl, rfl⟩ := hi
    exact lv_iload hx hb hd hm K
  · simp only [Bool.and_eq_true, beq_iff_eq] at hi
    obtain ⟨e1, rfl⟩ := hi
    exact lv_iload_n hx hb hd e1 hm K
  · cases hi
theorem wp_ldl {d j pc : Nat} {ls : List (Nat × Value)} {st : List Value} {σ : tm_S} {Q : Option Value → tm_S → Prop} {n : Nat} {zz : List (Int × Nat)} {k : Nat} {z : Int} {x : Int64} (h : tt_at j pc = some ((1, k, z, zz), n)) (hv : (k, Value.long x) ∈ ls) (kk : WP d j (pc + n) ls (.long x :: st) σ Q) : WP d j pc ls st σ Q := by
  obtain ⟨i, hd, hi⟩ := tb_ok h
  intro p l e R s m args below meth c H locs rls adr D dA C hP hS hl
  have hx := C.1.1
  have hb := C.1.2.1
  have K := kk p l e R s m args below meth c H locs rls adr D dA C hP hS hl
  have hm := hl.2.2 _ (tm_trl_mem hv)
  change tb_ldl k n i = true at hi
  unfold tb_ldl at hi
  split at hi
  · simp only [Bool.and_eq_true, beq_iff_eq] at hi
    obtain ⟨rfl, rfl⟩ := hi
    exact lv_lload hx hb hd hm K
  · simp only [Bool.and_eq_true, beq_iff_eq] at hi
    obtain ⟨e1, rfl⟩ := hi
    exact lv_lload_n hx hb hd e1 hm K
  · cases hi
theorem wp_lda {d j pc : Nat} {ls : List (Nat × Value)} {st : List Value} {σ : tm_S} {Q : Option Value → tm_S → Prop} {n : Nat} {zz : List (Int × Nat)} {k : Nat} {z : Int} {x : Nat} (h : tt_at j pc = some ((2, k, z, zz), n)) (hv : (k, Value.ref x) ∈ ls) (kk : WP d j (pc + n) ls (.ref x :: st) σ Q) : WP d j pc ls st σ Q := by
  obtain ⟨i, hd, hi⟩ := tb_ok h
  intro p l e R s m args below meth c H locs rls adr D dA C hP hS hl
  have hx := C.1.1
  have hb := C.1.2.1
  have K := kk p l e R s m args below meth c H locs rls adr D dA C hP hS hl
  have hm := hl.2.2 _ (tm_trl_mem hv)
  change tb_lda k n i = true at hi
  unfold tb_lda at hi
  split at hi
  · simp only [Bool.and_eq_true, beq_iff_eq] at hi
    obtain ⟨rfl, rfl⟩ := hi
    exact lv_aload hx hb hd hm K
  · simp only [Bool.and_eq_true, beq_iff_eq] at hi
    obtain ⟨e1, rfl⟩ := hi
    exact lv_aload_n hx hb hd e1 hm K
  · cases hi
theorem wp_sti {d j pc : Nat} {ls : List (Nat × Value)} {st : List Value} {σ : tm_S} {Q : Option Value → tm_S → Prop} {n : Nat} {zz : List (Int × Nat)} {k : Nat} {z : Int} {x : Int32} (h : tt_at j pc = some ((3, k, z, zz), n)) (kk : WP d j (pc + n) (tm_st1 ls k (.int x)) st σ Q) : WP d j pc ls (.int x :: st) σ Q := by
  obtain ⟨i, hd, hi⟩ := tb_ok h
  intro p l e R s m args below meth c H locs rls adr D dA C hP hS hl
  have hx := C.1.1
  have hb := C.1.2.1
  have K := fun (rl2 : Array Slot) (h2 : lv_has rl2 (tt_n j) (tm_trl adr (tm_st1 ls k (.int x)))) => kk p l e R s m args below meth c H locs rl2 adr D dA C hP hS h2
  rw [tm_trl_st1] at K
  change tb_sti k n (tt_n j) i = true at hi
  unfold tb_sti at hi
  split at hi
  · simp only [Bool.and_eq_true, beq_iff_eq] at hi
    obtain ⟨⟨rfl, rfl⟩, e2⟩ := hi
    exact lv_istore hx hb hd hl (Nat.blt_eq.mp e2) rfl K
  · simp only [Bool.and_eq_true, beq_iff_eq] at hi
    obtain ⟨⟨e1, rfl⟩, e2⟩ := hi
    exact lv_istore_n hx hb hd e1 hl (Nat.blt_eq.mp e2) rfl K
  · cases hi
theorem wp_stl {d j pc : Nat} {ls : List (Nat × Value)} {st : List Value} {σ : tm_S} {Q : Option Value → tm_S → Prop} {n : Nat} {zz : List (Int × Nat)} {k : Nat} {z : Int} {x : Int64} (h : tt_at j pc = some ((4, k, z, zz), n)) (kk : WP d j (pc + n) (tm_st2 ls k (.long x)) st σ Q) : WP d j pc ls (.long x :: st) σ Q := by
  obtain ⟨i, hd, hi⟩ := tb_ok h
  intro p l e R s m args below meth c H locs rls adr D dA C hP hS hl
  have hx := C.1.1
  have hb := C.1.2.1
  have K := fun (rl2 : Array Slot) (h2 : lv_has rl2 (tt_n j) (tm_trl adr (tm_st2 ls k (.long x)))) => kk p l e R s m args below meth c H locs rl2 adr D dA C hP hS h2
  rw [tm_trl_st2] at K
  change tb_stl k n (tt_n j) i = true at hi
  unfold tb_stl at hi
  split at hi
  · simp only [Bool.and_eq_true, beq_iff_eq] at hi
    obtain ⟨⟨rfl, rfl⟩, e2⟩ := hi
    exact lv_lstore hx hb hd hl (Nat.blt_eq.mp e2) rfl K
  · simp only [Bool.and_eq_true, beq_iff_eq] at hi
    obtain ⟨⟨e1, rfl⟩, e2⟩ := hi
    exact lv_lstore_n hx hb hd e1 hl (Nat.blt_eq.mp e2) rfl K
  · cases hi
theorem wp_sta {d j pc : Nat} {ls : List (Nat × Value)} {st : List Value} {σ : tm_S} {Q : Option Value → tm_S → Prop} {n : Nat} {zz : List (Int × Nat)} {k : Nat} {z : Int} {x : Nat} (h : tt_at j pc = some ((5, k, z, zz), n)) (kk : WP d j (pc + n) (tm_st1 ls k (.ref x)) st σ Q) : WP d j pc ls (.ref x :: st) σ Q := by
  obtain ⟨i, hd, hi⟩ := tb_ok h
  intro p l e R s m args below meth c H locs rls adr D dA C hP hS hl
  have hx := C.1.1
  have hb := C.1.2.1
  have K := fun (rl2 : Array Slot) (h2 : lv_has rl2 (tt_n j) (tm_trl adr (tm_st1 ls k (.ref x)))) => kk p l e R s m args below meth c H locs rl2 adr D dA C hP hS h2
  rw [tm_trl_st1] at K
  change tb_sta k n (tt_n j) i = true at hi
  unfold tb_sta at hi
  split at hi
  · simp only [Bool.and_eq_true, beq_iff_eq] at hi
    obtain ⟨⟨rfl, rfl⟩, e2⟩ := hi
    exact lv_astore hx hb hd hl (Nat.blt_eq.mp e2) rfl K
  · simp only [Bool.and_eq_true, beq_iff_eq] at hi
    obtain ⟨⟨e1, rfl⟩, e2⟩ := hi
    exact lv_astore_n hx hb hd e1 hl (Nat.blt_eq.mp e2) rfl K
  · cases hi
theorem wp_inc {d j pc : Nat} {ls : List (Nat × Value)} {st : List Value} {σ : tm_S} {Q : Option Value → tm_S → Prop} {n : Nat} {zz : List (Int × Nat)} {k : Nat} {z : Int} {x : Int32} (h : tt_at j pc = some ((6, k, z, zz), n)) (hv : (k, Value.int x) ∈ ls) (kk : WP d j (pc + n) (tm_st1 ls k (.int (x + Int32.ofInt z))) st σ Q) : WP d j pc ls st σ Q := by
  obtain ⟨i, hd, hi⟩ := tb_ok h
  intro p l e R s m args below meth c H locs rls adr D dA C hP hS hl
  have hx := C.1.1
  have hb := C.1.2.1
  have K := fun (rl2 : Array Slot) (h2 : lv_has rl2 (tt_n j) (tm_trl adr (tm_st1 ls k (.int (x + Int32.ofInt z))))) => kk p l e R s m args below meth c H locs rl2 adr D dA C hP hS h2
  rw [tm_trl_st1] at K
  obtain ⟨q, hq⟩ := List.getElem?_of_mem (tm_trl_mem (adr := adr) hv)
  change tb_inc k z n (tt_n j) i = true at hi
  unfold tb_inc at hi
  split at hi
  · simp only [Bool.and_eq_true, beq_iff_eq] at hi
    obtain ⟨⟨⟨rfl, rfl⟩, rfl⟩, e2⟩ := hi
    exact lv_iinc hx hb hd hl hq rfl (Nat.blt_eq.mp e2) rfl K
  · cases hi
theorem wp_con {d j pc : Nat} {ls : List (Nat × Value)} {st : List Value} {σ : tm_S} {Q : Option Value → tm_S → Prop} {n : Nat} {zz : List (Int × Nat)} {k : Nat} {z : Int} (h : tt_at j pc = some ((7, k, z, zz), n)) (kk : WP d j (pc + n) ls (.int (Int32.ofInt z) :: st) σ Q) : WP d j pc ls st σ Q := by
  obtain ⟨i, hd, hi⟩ := tb_ok h
  intro p l e R s m args below meth c H locs rls adr D dA C hP hS hl
  have hx := C.1.1
  have hb := C.1.2.1
  have K := kk p l e R s m args below meth c H locs rls adr D dA C hP hS hl
  change tb_con (tt_y j).cls k z n i = true at hi
  unfold tb_con at hi
  split at hi
  · simp only [Bool.and_eq_true, beq_iff_eq] at hi
    obtain ⟨rfl, rfl⟩ := hi
    exact lv_iconst hx hb hd rfl K
  · simp only [Bool.and_eq_true, beq_iff_eq] at hi
    obtain ⟨e1, rfl⟩ := hi
    exact lv_bipush hx hb hd e1 K
  · simp only [Bool.and_eq_true, beq_iff_eq] at hi
    obtain ⟨e1, rfl⟩ := hi
    exact lv_sipush hx hb hd e1 K
  · simp only [Bool.and_eq_true, beq_iff_eq] at hi
    obtain ⟨e1, rfl⟩ := hi
    exact lv_ldc hx hb C.1.2.2.2.1 (C.1.2.2.2.2 _ (tb_w_in e1)) hd K
  · simp only [Bool.and_eq_true, beq_iff_eq] at hi
    obtain ⟨e1, rfl⟩ := hi
    exact lv_ldcw hx hb C.1.2.2.2.1 (C.1.2.2.2.2 _ (tb_w_in e1)) hd K
  · cases hi
theorem wp_lco {d j pc : Nat} {ls : List (Nat × Value)} {st : List Value} {σ : tm_S} {Q : Option Value → tm_S → Prop} {n : Nat} {zz : List (Int × Nat)} {k : Nat} {z : Int} (h : tt_at j pc = some ((8, k, z, zz), n)) (kk : WP d j (pc + n) ls (.long (Int64.ofInt z) :: st) σ Q) : WP d j pc ls st σ Q := by
  obtain ⟨i, hd, hi⟩ := tb_ok h
  intro p l e R s m args below meth c H locs rls adr D dA C hP hS hl
  have hx := C.1.1
  have hb := C.1.2.1
  have K := kk p l e R s m args below meth c H locs rls adr D dA C hP hS hl
  change tb_lco (tt_y j).cls k z n i = true at hi
  unfold tb_lco at hi
  split at hi
  · simp only [Bool.and_eq_true, beq_iff_eq] at hi
    obtain ⟨e1, rfl⟩ := hi
    exact lv_lconst hx hb hd e1 K
  · simp only [Bool.and_eq_true, beq_iff_eq] at hi
    obtain ⟨e1, rfl⟩ := hi
    exact lv_ldc2 hx hb C.1.2.2.2.1 (C.1.2.2.2.2 _ (tb_w_in e1)) hd K
  · cases hi
theorem wp_ib {d j pc : Nat} {ls : List (Nat × Value)} {st : List Value} {σ : tm_S} {Q : Option Value → tm_S → Prop} {n : Nat} {zz : List (Int × Nat)} {k : Nat} {z : Int} {x y : Int32} (h : tt_at j pc = some ((9, k, z, zz), n)) (kk : WP d j (pc + n) ls (.int (tm_ib k x y) :: st) σ Q) : WP d j pc ls (.int y :: .int x :: st) σ Q := by
  obtain ⟨i, hd, hi⟩ := tb_ok h
  intro p l e R s m args below meth c H locs rls adr D dA C hP hS hl
  have hx := C.1.1
  have hb := C.1.2.1
  have K := kk p l e R s m args below meth c H locs rls adr D dA C hP hS hl
  show W p l e R s m args below meth c H locs 0 0 _ (F0 m pc rls (.int y :: .int x :: st.map (tm_tr adr)))
  change tb_ib k n i = true at hi
  unfold tb_ib at hi
  split at hi
  · simp only [Bool.and_eq_true, beq_iff_eq] at hi
    obtain ⟨rfl, rfl⟩ := hi
    exact lv_iadd hx hb hd K
  · simp only [Bool.and_eq_true, beq_iff_eq] at hi
    obtain ⟨rfl, rfl⟩ := hi
    exact lv_isub hx hb hd K
  · simp only [Bool.and_eq_true, beq_iff_eq] at hi
    obtain ⟨rfl, rfl⟩ := hi
    exact lv_imul hx hb hd K
  · simp only [Bool.and_eq_true, beq_iff_eq] at hi
    obtain ⟨rfl, rfl⟩ := hi
    exact lv_iand hx hb hd K
  · simp only [Bool.and_eq_true, beq_iff_eq] at hi
    obtain ⟨rfl, rfl⟩ := hi
    exact lv_ior hx hb hd K
  · simp only [Bool.and_eq_true, beq_iff_eq] at hi
    obtain ⟨rfl, rfl⟩ := hi
    exact lv_ixor hx hb hd K
  · simp only [Bool.and_eq_true, beq_iff_eq] at hi
    obtain ⟨rfl, rfl⟩ := hi
    exact lv_ishl hx hb hd K
  · simp only [Bool.and_eq_true, beq_iff_eq] at hi
    obtain ⟨rfl, rfl⟩ := hi
    exact lv_ishr hx hb hd K
  · simp only [Bool.and_eq_true, beq_iff_eq] at hi
    obtain ⟨rfl, rfl⟩ := hi
    exact lv_iushr hx hb hd rfl K
  · cases hi
theorem wp_lb {d j pc : Nat} {ls : List (Nat × Value)} {st : List Value} {σ : tm_S} {Q : Option Value → tm_S → Prop} {n : Nat} {zz : List (Int × Nat)} {k : Nat} {z : Int} {x y : Int64} (h : tt_at j pc = some ((13, k, z, zz), n)) (kk : WP d j (pc + n) ls (.long (tm_lb k x y) :: st) σ Q) : WP d j pc ls (.long y :: .long x :: st) σ Q := by
  obtain ⟨i, hd, hi⟩ := tb_ok h
  intro p l e R s m args below meth c H locs rls adr D dA C hP hS hl
  have hx := C.1.1
  have hb := C.1.2.1
  have K := kk p l e R s m args below meth c H locs rls adr D dA C hP hS hl
  show W p l e R s m args below meth c H locs 0 0 _ (F0 m pc rls (.long y :: .long x :: st.map (tm_tr adr)))
  change tb_lb k n i = true at hi
  unfold tb_lb at hi
  split at hi
  · simp only [Bool.and_eq_true, beq_iff_eq] at hi
    obtain ⟨rfl, rfl⟩ := hi
    exact lv_ladd hx hb hd K
  · simp only [Bool.and_eq_true, beq_iff_eq] at hi
    obtain ⟨rfl, rfl⟩ := hi
    exact lv_lsub hx hb hd K
  · simp only [Bool.and_eq_true, beq_iff_eq] at hi
    obtain ⟨rfl, rfl⟩ := hi
    exact lv_lmul hx hb hd K
  · simp only [Bool.and_eq_true, beq_iff_eq] at hi
    obtain ⟨rfl, rfl⟩ := hi
    exact lv_land hx hb hd K
  · simp only [Bool.and_eq_true, beq_iff_eq] at hi
    obtain ⟨rfl, rfl⟩ := hi
    exact lv_lor hx hb hd K
  · simp only [Bool.and_eq_true, beq_iff_eq] at hi
    obtain ⟨rfl, rfl⟩ := hi
    exact lv_lxor hx hb hd K
  · cases hi
theorem wp_ls {d j pc : Nat} {ls : List (Nat × Value)} {st : List Value} {σ : tm_S} {Q : Option Value → tm_S → Prop} {n : Nat} {zz : List (Int × Nat)} {k : Nat} {z : Int} {x : Int64} {y : Int32} (h : tt_at j pc = some ((14, k, z, zz), n)) (kk : WP d j (pc + n) ls (.long (tm_ls k x y) :: st) σ Q) : WP d j pc ls (.int y :: .long x :: st) σ Q := by
  obtain ⟨i, hd, hi⟩ := tb_ok h
  intro p l e R s m args below meth c H locs rls adr D dA C hP hS hl
  have hx := C.1.1
  have hb := C.1.2.1
  have K := kk p l e R s m args below meth c H locs rls adr D dA C hP hS hl
  show W p l e R s m args below meth c H locs 0 0 _ (F0 m pc rls (.int y :: .long x :: st.map (tm_tr adr)))
  change tb_ls k n i = true at hi
  unfold tb_ls at hi
  split at hi
  · simp only [Bool.and_eq_true, beq_iff_eq] at hi
    obtain ⟨rfl, rfl⟩ := hi
    exact lv_lshl hx hb hd rfl K
  · simp only [Bool.and_eq_true, beq_iff_eq] at hi
    obtain ⟨rfl, rfl⟩ := hi
    exact lv_lshr hx hb hd rfl K
  · simp only [Bool.and_eq_true, beq_iff_eq] at hi
    obtain ⟨rfl, rfl⟩ := hi
    exact lv_lushr hx hb hd rfl K
  · cases hi
theorem wp_div {d j pc : Nat} {ls : List (Nat × Value)} {st : List Value} {σ : tm_S} {Q : Option Value → tm_S → Prop} {n : Nat} {zz : List (Int × Nat)} {k : Nat} {z : Int} {x y : Int32} (h : tt_at j pc = some ((10, k, z, zz), n)) (hy : ¬ y = 0) (kk : WP d j (pc + n) ls (.int (x / y) :: st) σ Q) : WP d j pc ls (.int y :: .int x :: st) σ Q := by
  obtain ⟨i, hd, hi⟩ := tb_ok h
  intro p l e R s m args below meth c H locs rls adr D dA C hP hS hl
  have hx := C.1.1
  have hb := C.1.2.1
  have K := kk p l e R s m args below meth c H locs rls adr D dA C hP hS hl
  show W p l e R s m args below meth c H locs 0 0 _ (F0 m pc rls (.int y :: .int x :: st.map (tm_tr adr)))
  change tb_div n i = true at hi
  unfold tb_div at hi
  split at hi
  · simp only [beq_iff_eq] at hi
    subst hi
    exact lv_idiv hx hb hd hy K
  · cases hi
theorem wp_rem {d j pc : Nat} {ls : List (Nat × Value)} {st : List Value} {σ : tm_S} {Q : Option Value → tm_S → Prop} {n : Nat} {zz : List (Int × Nat)} {k : Nat} {z : Int} {x y : Int32} (h : tt_at j pc = some ((11, k, z, zz), n)) (hy : ¬ y = 0) (kk : WP d j (pc + n) ls (.int (x - x / y * y) :: st) σ Q) : WP d j pc ls (.int y :: .int x :: st) σ Q := by
  obtain ⟨i, hd, hi⟩ := tb_ok h
  intro p l e R s m args below meth c H locs rls adr D dA C hP hS hl
  have hx := C.1.1
  have hb := C.1.2.1
  have K := kk p l e R s m args below meth c H locs rls adr D dA C hP hS hl
  show W p l e R s m args below meth c H locs 0 0 _ (F0 m pc rls (.int y :: .int x :: st.map (tm_tr adr)))
  change tb_rem n i = true at hi
  unfold tb_rem at hi
  split at hi
  · simp only [beq_iff_eq] at hi
    subst hi
    exact lv_irem hx hb hd hy K
  · cases hi
theorem wp_neg {d j pc : Nat} {ls : List (Nat × Value)} {st : List Value} {σ : tm_S} {Q : Option Value → tm_S → Prop} {n : Nat} {zz : List (Int × Nat)} {k : Nat} {z : Int} {x : Int32} (h : tt_at j pc = some ((12, k, z, zz), n)) (kk : WP d j (pc + n) ls (.int (-x) :: st) σ Q) : WP d j pc ls (.int x :: st) σ Q := by
  obtain ⟨i, hd, hi⟩ := tb_ok h
  intro p l e R s m args below meth c H locs rls adr D dA C hP hS hl
  have hx := C.1.1
  have hb := C.1.2.1
  have K := kk p l e R s m args below meth c H locs rls adr D dA C hP hS hl
  show W p l e R s m args below meth c H locs 0 0 _ (F0 m pc rls (.int x :: st.map (tm_tr adr)))
  change tb_neg n i = true at hi
  unfold tb_neg at hi
  split at hi
  · simp only [beq_iff_eq] at hi
    subst hi
    exact lv_ineg hx hb hd K
  · cases hi
theorem wp_cmp {d j pc : Nat} {ls : List (Nat × Value)} {st : List Value} {σ : tm_S} {Q : Option Value → tm_S → Prop} {n : Nat} {zz : List (Int × Nat)} {k : Nat} {z : Int} {x y : Int64} (h : tt_at j pc = some ((15, k, z, zz), n)) (kk : WP d j (pc + n) ls (.int (lg_cmp x y) :: st) σ Q) : WP d j pc ls (.long y :: .long x :: st) σ Q := by
  obtain ⟨i, hd, hi⟩ := tb_ok h
  intro p l e R s m args below meth c H locs rls adr D dA C hP hS hl
  have hx := C.1.1
  have hb := C.1.2.1
  have K := kk p l e R s m args below meth c H locs rls adr D dA C hP hS hl
  show W p l e R s m args below meth c H locs 0 0 _ (F0 m pc rls (.long y :: .long x :: st.map (tm_tr adr)))
  change tb_cmp n i = true at hi
  unfold tb_cmp at hi
  split at hi
  · simp only [beq_iff_eq] at hi
    subst hi
    exact W.lcmp hx hb hd K
  · cases hi
theorem wp_dup {d j pc : Nat} {ls : List (Nat × Value)} {st : List Value} {σ : tm_S} {Q : Option Value → tm_S → Prop} {n : Nat} {zz : List (Int × Nat)} {k : Nat} {z : Int} {va : Value} (h : tt_at j pc = some ((17, k, z, zz), n)) (hc : va.category = 1) (kk : WP d j (pc + n) ls (va :: va :: st) σ Q) : WP d j pc ls (va :: st) σ Q := by
  obtain ⟨i, hd, hi⟩ := tb_ok h
  intro p l e R s m args below meth c H locs rls adr D dA C hP hS hl
  have hx := C.1.1
  have hb := C.1.2.1
  have K := kk p l e R s m args below meth c H locs rls adr D dA C hP hS hl
  show W p l e R s m args below meth c H locs 0 0 _ (F0 m pc rls (tm_tr adr va :: st.map (tm_tr adr)))
  change tb_dup n i = true at hi
  unfold tb_dup at hi
  split at hi
  · simp only [beq_iff_eq] at hi
    subst hi
    exact lv_dup hx hb hd (by rw [tm_tr_cat]; exact hc) K
  · cases hi
theorem wp_pop {d j pc : Nat} {ls : List (Nat × Value)} {st : List Value} {σ : tm_S} {Q : Option Value → tm_S → Prop} {n : Nat} {zz : List (Int × Nat)} {k : Nat} {z : Int} {va : Value} (h : tt_at j pc = some ((18, k, z, zz), n)) (hc : va.category = 1) (kk : WP d j (pc + n) ls (st) σ Q) : WP d j pc ls (va :: st) σ Q := by
  obtain ⟨i, hd, hi⟩ := tb_ok h
  intro p l e R s m args below meth c H locs rls adr D dA C hP hS hl
  have hx := C.1.1
  have hb := C.1.2.1
  have K := kk p l e R s m args below meth c H locs rls adr D dA C hP hS hl
  show W p l e R s m args below meth c H locs 0 0 _ (F0 m pc rls (tm_tr adr va :: st.map (tm_tr adr)))
  change tb_pop n i = true at hi
  unfold tb_pop at hi
  split at hi
  · simp only [beq_iff_eq] at hi
    subst hi
    exact lv_pop hx hb hd (by rw [tm_tr_cat]; exact hc) K
  · cases hi
theorem wp_i2l {d j pc : Nat} {ls : List (Nat × Value)} {st : List Value} {σ : tm_S} {Q : Option Value → tm_S → Prop} {n : Nat} {zz : List (Int × Nat)} {z : Int} {x : Int32} (h : tt_at j pc = some ((16, 0, z, zz), n)) (kk : WP d j (pc + n) ls (.long (x.toInt64) :: st) σ Q) : WP d j pc ls (.int x :: st) σ Q := by
  obtain ⟨i, hd, hi⟩ := tb_ok h
  intro p l e R s m args below meth c H locs rls adr D dA C hP hS hl
  have hx := C.1.1
  have hb := C.1.2.1
  have K := kk p l e R s m args below meth c H locs rls adr D dA C hP hS hl
  show W p l e R s m args below meth c H locs 0 0 _ (F0 m pc rls (.int x :: st.map (tm_tr adr)))
  change tb_cv 0 n i = true at hi
  unfold tb_cv at hi
  split at hi <;> first | (cases hi; done) | (simp only [Bool.and_eq_true, beq_iff_eq] at hi; first | (exact absurd hi.1 (by decide)) | (obtain ⟨-, rfl⟩ := hi; exact lv_i2l hx hb hd rfl K))
theorem wp_l2i {d j pc : Nat} {ls : List (Nat × Value)} {st : List Value} {σ : tm_S} {Q : Option Value → tm_S → Prop} {n : Nat} {zz : List (Int × Nat)} {z : Int} {x : Int64} (h : tt_at j pc = some ((16, 1, z, zz), n)) (kk : WP d j (pc + n) ls (.int (x.toInt32) :: st) σ Q) : WP d j pc ls (.long x :: st) σ Q := by
  obtain ⟨i, hd, hi⟩ := tb_ok h
  intro p l e R s m args below meth c H locs rls adr D dA C hP hS hl
  have hx := C.1.1
  have hb := C.1.2.1
  have K := kk p l e R s m args below meth c H locs rls adr D dA C hP hS hl
  show W p l e R s m args below meth c H locs 0 0 _ (F0 m pc rls (.long x :: st.map (tm_tr adr)))
  change tb_cv 1 n i = true at hi
  unfold tb_cv at hi
  split at hi <;> first | (cases hi; done) | (simp only [Bool.and_eq_true, beq_iff_eq] at hi; first | (exact absurd hi.1 (by decide)) | (obtain ⟨-, rfl⟩ := hi; exact lv_l2i hx hb hd rfl K))
theorem wp_i2c {d j pc : Nat} {ls : List (Nat × Value)} {st : List Value} {σ : tm_S} {Q : Option Value → tm_S → Prop} {n : Nat} {zz : List (Int × Nat)} {z : Int} {x : Int32} (h : tt_at j pc = some ((16, 2, z, zz), n)) (kk : WP d j (pc + n) ls (.int ((x.toUInt32 % 65536).toInt32) :: st) σ Q) : WP d j pc ls (.int x :: st) σ Q := by
  obtain ⟨i, hd, hi⟩ := tb_ok h
  intro p l e R s m args below meth c H locs rls adr D dA C hP hS hl
  have hx := C.1.1
  have hb := C.1.2.1
  have K := kk p l e R s m args below meth c H locs rls adr D dA C hP hS hl
  show W p l e R s m args below meth c H locs 0 0 _ (F0 m pc rls (.int x :: st.map (tm_tr adr)))
  change tb_cv 2 n i = true at hi
  unfold tb_cv at hi
  split at hi <;> first | (cases hi; done) | (simp only [Bool.and_eq_true, beq_iff_eq] at hi; first | (exact absurd hi.1 (by decide)) | (obtain ⟨-, rfl⟩ := hi; exact lv_i2c hx hb hd rfl K))
theorem wp_i2b {d j pc : Nat} {ls : List (Nat × Value)} {st : List Value} {σ : tm_S} {Q : Option Value → tm_S → Prop} {n : Nat} {zz : List (Int × Nat)} {z : Int} {x : Int32} (h : tt_at j pc = some ((16, 3, z, zz), n)) (kk : WP d j (pc + n) ls (.int (x.toInt8.toInt32) :: st) σ Q) : WP d j pc ls (.int x :: st) σ Q := by
  obtain ⟨i, hd, hi⟩ := tb_ok h
  intro p l e R s m args below meth c H locs rls adr D dA C hP hS hl
  have hx := C.1.1
  have hb := C.1.2.1
  have K := kk p l e R s m args below meth c H locs rls adr D dA C hP hS hl
  show W p l e R s m args below meth c H locs 0 0 _ (F0 m pc rls (.int x :: st.map (tm_tr adr)))
  change tb_cv 3 n i = true at hi
  unfold tb_cv at hi
  split at hi <;> first | (cases hi; done) | (simp only [Bool.and_eq_true, beq_iff_eq] at hi; first | (exact absurd hi.1 (by decide)) | (obtain ⟨-, rfl⟩ := hi; exact lv_i2b hx hb hd rfl K))
theorem wp_go {d j pc : Nat} {ls : List (Nat × Value)} {st : List Value} {σ : tm_S} {Q : Option Value → tm_S → Prop} {n : Nat} {zz : List (Int × Nat)} {k : Nat} {z : Int} (h : tt_at j pc = some ((24, k, z, zz), n)) (kk : WP d j k ls st σ Q) : WP d j pc ls st σ Q := by
  obtain ⟨i, hd, hi⟩ := tb_ok h
  intro p l e R s m args below meth c H locs rls adr D dA C hP hS hl
  have hx := C.1.1
  have hb := C.1.2.1
  have K := kk p l e R s m args below meth c H locs rls adr D dA C hP hS hl
  change tb_go pc k n i = true at hi
  unfold tb_go at hi
  split at hi
  · simp only [Bool.and_eq_true, beq_iff_eq] at hi
    obtain ⟨rfl, hi⟩ := hi
    exact lv_goto hx hb hd hi K
  · cases hi
def tm_cd (z : Int) (x y : Int32) : Prop := match z with
  | 0 => x = y
  | 1 => ¬ x = y
  | 2 => x < y
  | 3 => y ≤ x
  | 4 => y < x
  | _ => x ≤ y
theorem wp_if {d j pc : Nat} {ls : List (Nat × Value)} {st : List Value} {σ : tm_S} {Q : Option Value → tm_S → Prop} {n : Nat} {zz : List (Int × Nat)} {k : Nat} {z : Int} {x : Int32} (h : tt_at j pc = some ((25, k, z, zz), n)) (kt : tm_cd z x 0 → WP d j k ls st σ Q) (kf : ¬ tm_cd z x 0 → WP d j (pc + n) ls st σ Q) : WP d j pc ls (.int x :: st) σ Q := by
  obtain ⟨i, hd, hi⟩ := tb_ok h
  intro p l e R s m args below meth c H locs rls adr D dA C hP hS hl
  have hx := C.1.1
  have hb := C.1.2.1
  have KT := fun z => kt z p l e R s m args below meth c H locs rls adr D dA C hP hS hl
  have KF := fun z => kf z p l e R s m args below meth c H locs rls adr D dA C hP hS hl
  show W p l e R s m args below meth c H locs 0 0 _ (F0 m pc rls (.int x :: st.map (tm_tr adr)))
  change tb_if pc k z n i = true at hi
  unfold tb_if at hi
  split at hi
  · rename_i cc off
    simp only [Bool.and_eq_true, beq_iff_eq] at hi
    obtain ⟨⟨rfl, e2⟩, e3⟩ := hi
    subst e3
    cases cc
    · exact lv_if_eq hx hb hd e2 KT KF
    · exact lv_if_ne hx hb hd e2 KT (fun q => KF (fun w => w q))
    · exact lv_if_lt hx hb hd e2 KT KF
    · exact lv_if_ge hx hb hd e2 (fun q => KT q) (fun q => KF q)
    · exact lv_if_gt hx hb hd e2 (fun q => KT q) (fun q => KF q)
    · exact lv_if_le hx hb hd e2 KT KF
  · cases hi
theorem wp_ic {d j pc : Nat} {ls : List (Nat × Value)} {st : List Value} {σ : tm_S} {Q : Option Value → tm_S → Prop} {n : Nat} {zz : List (Int × Nat)} {k : Nat} {z : Int} {x y : Int32} (h : tt_at j pc = some ((26, k, z, zz), n)) (kt : tm_cd z x y → WP d j k ls st σ Q) (kf : ¬ tm_cd z x y → WP d j (pc + n) ls st σ Q) : WP d j pc ls (.int y :: .int x :: st) σ Q := by
  obtain ⟨i, hd, hi⟩ := tb_ok h
  intro p l e R s m args below meth c H locs rls adr D dA C hP hS hl
  have hx := C.1.1
  have hb := C.1.2.1
  have KT := fun z => kt z p l e R s m args below meth c H locs rls adr D dA C hP hS hl
  have KF := fun z => kf z p l e R s m args below meth c H locs rls adr D dA C hP hS hl
  show W p l e R s m args below meth c H locs 0 0 _ (F0 m pc rls (.int y :: .int x :: st.map (tm_tr adr)))
  change tb_ic pc k z n i = true at hi
  unfold tb_ic at hi
  split at hi
  · rename_i cc off
    simp only [Bool.and_eq_true, beq_iff_eq] at hi
    obtain ⟨⟨rfl, e2⟩, e3⟩ := hi
    subst e3
    cases cc
    · exact lv_icmp_eq hx hb hd e2 KT KF
    · exact lv_icmp_ne hx hb hd e2 KT (fun q => KF (fun w => w q))
    · exact lv_icmp_lt hx hb hd e2 KT KF
    · exact lv_icmp_ge hx hb hd e2 (fun q => KT q) (fun q => KF q)
    · exact lv_icmp_gt hx hb hd e2 (fun q => KT q) (fun q => KF q)
    · exact lv_icmp_le hx hb hd e2 KT KF
  · cases hi
theorem wp_ac {d j pc : Nat} {ls : List (Nat × Value)} {st : List Value} {σ : tm_S} {Q : Option Value → tm_S → Prop} {n : Nat} {zz : List (Int × Nat)} {k : Nat} {z : Int} {x y : Nat} (h : tt_at j pc = some ((27, k, z, zz), n)) (hxq : x < tt_NQ) (hyq : y < tt_NQ) (kt : (z = 0 ↔ x = y) → WP d j k ls st σ Q) (kf : ¬ (z = 0 ↔ x = y) → WP d j (pc + n) ls st σ Q) : WP d j pc ls (.ref y :: .ref x :: st) σ Q := by
  obtain ⟨i, hd, hi⟩ := tb_ok h
  intro p l e R s m args below meth c H locs rls adr D dA C hP hS hl
  have hx := C.1.1
  have hb := C.1.2.1
  have KT := fun z => kt z p l e R s m args below meth c H locs rls adr D dA C hP hS hl
  have KF := fun z => kf z p l e R s m args below meth c H locs rls adr D dA C hP hS hl
  have hin : (some (adr x) = some (adr y)) ↔ x = y := ⟨fun q => C.2.2.2.1 x y hxq hyq (Option.some.inj q), fun q => by rw [q]⟩
  show W p l e R s m args below meth c H locs 0 0 _ (F0 m pc rls (va_rf (some (adr y)) :: va_rf (some (adr x)) :: st.map (tm_tr adr)))
  change tb_ac pc k z n i = true at hi
  unfold tb_ac at hi
  split at hi
  · simp only [Bool.and_eq_true, beq_iff_eq] at hi
    obtain ⟨⟨rfl, e2⟩, rfl⟩ := hi
    exact lv_acmp_eq hx hb hd e2 (fun q => KT ⟨fun _ => hin.mp q, fun _ => rfl⟩) (fun q => KF (fun w => q (hin.mpr (w.mp rfl))))
  · simp only [Bool.and_eq_true, beq_iff_eq] at hi
    obtain ⟨⟨rfl, e2⟩, rfl⟩ := hi
    exact lv_acmp_ne hx hb hd e2 (fun q => KT ⟨fun w => absurd w (by decide), fun w => absurd (hin.mpr w) q⟩) (fun q => KF (fun w => absurd (w.mpr (hin.mp q)) (by decide)))
  · cases hi
theorem tb_tb_at {pc : Nat} {a : Nat} : ∀ (os : List Int) (qs : List (Int × Nat)) (k x : Int), tb_tb pc k os qs = true → k ≤ x → x ≤ k + (os.length : Int) - 1 → ∃ off, os[(x - k).toNat]? = some off ∧ (pc : Int) + off = ((tb_sw qs a x : Nat) : Int)
  | [], _, k, x, _, h1, h2 => by simp at h2; omega
  | o :: os, [], k, x, h, _, _ => by cases h
  | o :: os, q :: qs, k, x, h, h1, h2 => by
    simp only [tb_tb, Bool.and_eq_true, beq_iff_eq] at h
    obtain ⟨⟨e1, e2⟩, e3⟩ := h
    by_cases hk : k = x
    · subst hk
      refine ⟨o, by simp, ?_⟩
      rw [tb_sw, if_pos e1]
      exact e2
    · obtain ⟨off, g1, g2⟩ := tb_tb_at os qs (k + 1) x e3 (by omega) (by simp at h2; omega)
      refine ⟨off, ?_, ?_⟩
      · rw [show (x - k).toNat = (x - (k + 1)).toNat + 1 by omega]
        simpa using g1
      · rw [tb_sw, if_neg (by rw [e1]; exact hk)]
        exact g2
theorem tb_tb_out {pc : Nat} {a : Nat} : ∀ (os : List Int) (qs : List (Int × Nat)) (k x : Int), tb_tb pc k os qs = true → (x < k ∨ k + (os.length : Int) - 1 < x) → tb_sw qs a x = a
  | [], [], k, x, _, _ => rfl
  | [], q :: qs, k, x, h, _ => by cases h
  | o :: os, [], k, x, h, _ => by cases h
  | o :: os, q :: qs, k, x, h, hx => by
    simp only [tb_tb, Bool.and_eq_true, beq_iff_eq] at h
    obtain ⟨⟨e1, e2⟩, e3⟩ := h
    have hne : ¬ q.1 = x := by rw [e1]; simp at hx; omega
    rw [tb_sw, if_neg hne]
    exact tb_tb_out os qs (k + 1) x e3 (by simp at hx; omega)
theorem tb_lk_at {pc : Nat} {a : Nat} {dflt : Int} (ha : (pc : Int) + dflt = (a : Int)) : ∀ (os : List (Int × Int)) (qs : List (Int × Nat)) (x : Int), tb_lk pc os qs = true → (pc : Int) + Op.lookupswitch.offset os dflt x = ((tb_sw qs a x : Nat) : Int)
  | [], [], x, _ => ha
  | [], q :: qs, x, h => by cases h
  | o :: os, [], x, h => by cases h
  | (o1, o2) :: os, q :: qs, x, h => by
    simp only [tb_lk, Bool.and_eq_true, beq_iff_eq] at h
    obtain ⟨⟨e1, e2⟩, e3⟩ := h
    rw [Op.lookupswitch.offset_cons, tb_sw]
    by_cases hk : o1 = x
    · rw [if_pos hk, if_pos (by rw [e1]; exact hk)]
      exact e2
    · rw [if_neg hk, if_neg (by rw [e1]; exact hk)]
      exact tb_lk_at ha os qs x e3
theorem wp_sw {d j pc : Nat} {ls : List (Nat × Value)} {st : List Value} {σ : tm_S} {Q : Option Value → tm_S → Prop} {n : Nat} {zz : List (Int × Nat)} {k : Nat} {z : Int} {x : Int32} (h : tt_at j pc = some ((28, k, z, zz), n)) (kk : WP d j (tb_sw zz k x.toInt) ls st σ Q) : WP d j pc ls (.int x :: st) σ Q := by
  obtain ⟨i, hd, hi⟩ := tb_ok h
  intro p l e R s m args below meth c H locs rls adr D dA C hP hS hl
  have hx := C.1.1
  have hb := C.1.2.1
  have K := kk p l e R s m args below meth c H locs rls adr D dA C hP hS hl
  show W p l e R s m args below meth c H locs 0 0 _ (F0 m pc rls (.int x :: st.map (tm_tr adr)))
  change tb_swi pc k zz i = true at hi
  unfold tb_swi at hi
  split at hi
  · rename_i dd lo hh offs
    simp only [Bool.and_eq_true, beq_iff_eq] at hi
    obtain ⟨⟨e1, e2⟩, e3⟩ := hi
    have hsz : (offs.toList.length : Int) = (offs.size : Int) := by simp
    by_cases ho : x.toInt < lo ∨ hh < x.toInt
    · have ho2 : x.toInt < lo ∨ lo + (offs.toList.length : Int) - 1 < x.toInt := by rw [hsz]; omega
      rw [tb_tb_out offs.toList zz lo x.toInt e3 ho2] at K
      exact lv_tableOut hx hb hd ho e1 K
    · obtain ⟨off, g1, g2⟩ := tb_tb_at (a := k) offs.toList zz lo x.toInt e3 (by omega) (by rw [hsz]; omega)
      exact lv_tableIn hx hb hd (by omega) (by omega) (by rw [← Array.getElem?_toList]; exact g1) g2 K
  · simp only [Bool.and_eq_true, beq_iff_eq] at hi
    obtain ⟨⟨e1, e2⟩, e3⟩ := hi
    exact lv_lookup hx hb hd e2 rfl (tb_lk_at e1 _ _ _ e3) K
  · cases hi
