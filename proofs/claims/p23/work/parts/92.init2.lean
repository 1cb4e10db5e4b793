def va_AOA (t : FieldType) (U : State) : Prop := (Cond.arrayOver (.array t)).before #[] U = true
theorem va_AOA.use {t : FieldType} {A : Array Value} {U : State} (h : va_AOA t U) : (Cond.arrayOver (.array t)).before A U = true := h
theorem va_AOA.moved {t : FieldType} {u U : State} (hvm : u.vm.Alike U.vm) (h : va_AOA t u) : va_AOA t U := Jvm.Stand.arrayOver_alikeB hvm h
/-! ===== BEGIN new T[n][m]: the outer array a place, the inner ones among the pooled ===== -/
/-- f, but v at every address of l -/
def vr_up {α : Type} (f : Nat → α) (l : List Nat) (v : α) : Nat → α := fun a => if a ∈ l then v else f a
theorem vr_up_in {α : Type} {f : Nat → α} {l : List Nat} {v : α} {a : Nat} (h : a ∈ l) : vr_up f l v a = v := if_pos h
theorem vr_up_ne {α : Type} {f : Nat → α} {l : List Nat} {v : α} {a : Nat} (h : a ∉ l) : vr_up f l v a = f a := if_neg h
theorem vr_rows {L l : List Nat} {f : Nat → va_E} {e : va_E} (h : ∀ a, a ∈ l → a ∉ L) : va_pl L f ++ l.map (fun a => (a, e)) = va_pl (L ++ l) (vr_up f l e) := by
  unfold va_pl
  rw [List.map_append]
  congr 1
  · apply List.map_congr_left
    intro a ha
    rw [vr_up_ne (fun q => h a q ha)]
  · apply List.map_congr_left
    intro a ha
    rw [vr_up_in ha]
theorem vr_lay {X rows : va_W} {x : Nat × va_E} {pl : va_W} {D : va_G} {cl : List vw_C} {H : Heap} (hP : va_P D cl (((X ++ pl) ++ [x]) ++ rows) H) : va_P D cl ((X ++ [x]) ++ (pl ++ rows)) H := by
  rw [List.append_assoc (X ++ pl)] at hP
  have h := va_P.swap hP
  rw [← List.append_assoc X] at h
  have h2 := va_P.swap h
  rw [List.append_assoc (X ++ [x])] at h2
  exact h2
theorem vr_layD {X rows : va_W} {x : Nat × va_E} {pl : va_W} {A : Nat → Prop} (hD : va_D A (((X ++ pl) ++ [x]) ++ rows)) : va_D A ((X ++ [x]) ++ (pl ++ rows)) := by
  rw [List.append_assoc (X ++ pl)] at hD
  have h := va_D.swap hD
  rw [← List.append_assoc X] at h
  have h2 := va_D.swap h
  rw [List.append_assoc (X ++ [x])] at h2
  exact h2
theorem vr_outer (c : ClassId) (N h0 : Nat) : ∀ i : Nat, Jvm.Free.Multi.outerC c N h0 i = arrV c N (fun j => va_rf (if j < i then some (h0 + 1 + j) else none))
  | 0 => by
    show ({ cls := c, slots := Array.replicate N .null, vm := .none } : Cell) = _
    rw [arrV_new]
    refine congrArg (arrV c N) (funext fun j => ?_)
    simp [va_rf]
  | i + 1 => by
    show (Jvm.Free.Multi.outerC c N h0 i).setSlot i (.ref (h0 + 1 + i)) = _
    rw [vr_outer c N h0 i, arrV_store]
    refine congrArg (arrV c N) (funext fun j => ?_)
    by_cases e : j = i
    · subst e
      simp [updV, va_rf]
    · by_cases h : j < i
      · simp [updV, e, h, Nat.lt_succ_of_lt h]
      · simp [updV, e, h, show ¬ j < i + 1 by omega]
section VGM
variable {p : Program} {l : Launch} {e : Env} {R : Room} {s : State} {m : MethodId} {args : Array Value} {below : List Frame} {meth : Method} {c : Code} {H : Heap} {locs : List Loc} {cells slots : Nat} {Q : State → Prop}
variable {cc : ByteArray} {pc : Nat} {ls : Array Slot} {rest : List Value} {D : va_G} {cl : List vw_C} {A : Nat → Prop} {a : Nat} {tys : List (ClassId × FieldType)} {ws : va_W} {H0 : Heap}
theorem va_mna {X : va_W} {L : List Nat} {f : Nat → va_E} {cc : ByteArray} (hexec : p.tables.exec = Jvm.exec) (hb : c.code = cc) {own : String} {index : Nat} {ty : FieldType} {cy : ClassId} (hown : s.vm.findClass own = some m.cls) (hclink : (Cond.classLink own index ("[" ++ (FieldType.array ty).toString)).before args s = true) (hover : va_AOA ty s) (harr : (Cond.arrayClass ty).before args s = true) (hcy : s.vm.findClass (FieldType.array ty).toString = some cy)
    (hK : va_K D cl tys s) (hP : va_P D cl (X ++ va_pl L f) H) (hD : va_D A (X ++ va_pl L f)) (hS : va_S A H0 H locs) (hA : ∀ q, H0.size ≤ q → A q) {n k : Int32} {N' K' : Nat} {z : vp_A} (hn : ¬ n < 0) (hk : ¬ k < 0) (hN : n.toNatClampNeg = N') (hM : k.toNatClampNeg = K')
    (hb1 : N' * 4 ≤ 536870912) (hb2 : K' * componentBytes ty ≤ 536870912) (hb3 : K' ≤ 536870912) (hdf : fits ty (defaultValue ty) = true) (hdd : (defaultValue ty).isDefault = true) (hcells : cells + (1 + N') ≤ R.cells) (hslots : slots + (N' + N' * K') ≤ R.slots) (hz : ∀ c : ClassId, Jvm.Free.Multi.innerC c K' (defaultValue ty) = vp_cell c z) (hdg : decode cc pc = .ok (.multianewarray index 2, 4))
    (kk : ∀ (q : Nat) (r : Nat → Nat) (cA : ClassId) (H1 : Heap), (∀ i j : Nat, i < N' → j < N' → r i = r j → i = j) → (∀ i : Nat, i < N' → r i ∉ L) → va_K D cl (tys ++ [(cA, .array ty)]) s →
      va_P D cl ((X ++ [(q, .inl (cA, N', .inr (.inr (.inr (.inr (fun i => if i < N' then some (r i) else none))))))]) ++ va_pl (L ++ (List.range N').map r) (vr_up f ((List.range N').map r) (.inl (cy, z)))) H1 → va_D A ((X ++ [(q, .inl (cA, N', .inr (.inr (.inr (.inr (fun i => if i < N' then some (r i) else none))))))]) ++ va_pl (L ++ (List.range N').map r) (vr_up f ((List.range N').map r) (.inl (cy, z)))) → va_S A H0 H1 locs →
      W p l e R s m args below meth c H1 locs (cells + 1 + N') (slots + N' + N' * K') Q (F0 m (pc + 4) ls (.ref q :: rest))) : W p l e R s m args below meth c H locs cells slots Q (F0 m pc ls (.int k :: .int n :: rest)) := by
  subst hN
  subst hM
  intro T hT Xs
  obtain ⟨vm₁, cA, comp, -, fA, fC, hO, -, X', step⟩ := Xs.multianewarray2F hexec hown hclink (va_AOA.use hover) harr (g := F0 m pc ls (.int k :: .int n :: rest)) rfl (by rw [hb]; exact hdg) rfl hn hk hb1 hb2 hb3 hdf hdd hcells hslots
  have ec : some cy = some comp := hcy.symm.trans fC
  cases ec
  generalize hF : Jvm.Free.Multi.fill (T.setVm vm₁) cA cy n.toNatClampNeg k.toNatClampNeg (defaultValue ty) n.toNatClampNeg = F at X' step
  have hTh : (T.setVm vm₁).heap = H := hT
  obtain ⟨f1, f2, -, -⟩ := Jvm.Free.Multi.fill_facts (T.setVm vm₁) cA cy n.toNatClampNeg k.toNatClampNeg (defaultValue ty) n.toNatClampNeg
  rw [hF, hTh] at f1 f2
  have hold : ∀ x : Nat, x < H.size → F.heap[x]? = H[x]? := fun x hx => by
    have := Jvm.Free.Multi.fill_old (T.setVm vm₁) cA cy n.toNatClampNeg k.toNatClampNeg (defaultValue ty) (a := x) (by rw [hTh]; exact hx) n.toNatClampNeg
    rw [hF, hTh] at this
    exact this
  have hrow : ∀ j : Nat, j < n.toNatClampNeg → F.heap[H.size + 1 + j]? = some (vp_cell cy z) := fun j hj => by
    have := Jvm.Free.Multi.fill_inner (T.setVm vm₁) cA cy n.toNatClampNeg k.toNatClampNeg (defaultValue ty) n.toNatClampNeg j hj
    rw [hF, hTh, hz] at this
    exact this
  have hout : Jvm.Free.Multi.outerC cA n.toNatClampNeg H.size n.toNatClampNeg = vp_cell cA (n.toNatClampNeg, .inr (.inr (.inr (.inr (fun i => if i < n.toNatClampNeg then some (H.size + 1 + i) else none))))) := by
    rw [vp_cell_q]
    exact vr_outer cA n.toNatClampNeg H.size n.toNatClampNeg
  rw [hout] at f2
  have hlt : ∀ a, a ∈ L → a < H.size := fun a ha => by
    obtain ⟨k9, hk9⟩ := va_pl_get (X := X) (f := f) ha
    exact (hP k9 _ hk9).lt
  have hnl : ∀ i : Nat, i < n.toNatClampNeg → H.size + 1 + i ∉ L := fun i _ h => by
    have := hlt _ h
    omega
  have hnm : ∀ a, a ∈ (List.range n.toNatClampNeg).map (fun i => H.size + 1 + i) → a ∉ L := fun a ha h => by
    obtain ⟨i, -, rfl⟩ := List.mem_map.mp ha
    have := hlt _ h
    omega
  have hP0 : va_P D cl (X ++ va_pl L f) F.heap := hP.kept (fun k9 x hx => hold x.1 ((hP k9 x hx).lt))
  have hP1 : va_P D cl ((X ++ va_pl L f) ++ [(H.size, .inl (cA, n.toNatClampNeg, .inr (.inr (.inr (.inr (fun i => if i < n.toNatClampNeg then some (H.size + 1 + i) else none))))))]) F.heap := hP0.app (fun k9 x hx => by
    have h0 : k9 < 1 := (List.getElem?_eq_some_iff.mp hx).1
    rw [show k9 = 0 by omega] at hx
    cases hx
    exact f2)
  have hP2 : va_P D cl (((X ++ va_pl L f) ++ [(H.size, .inl (cA, n.toNatClampNeg, .inr (.inr (.inr (.inr (fun i => if i < n.toNatClampNeg then some (H.size + 1 + i) else none))))))]) ++ ((List.range n.toNatClampNeg).map (fun i => H.size + 1 + i)).map (fun a => (a, .inl (cy, z)))) F.heap := hP1.app (fun k9 x hx => by
    obtain ⟨a, ha, rfl⟩ := List.mem_map.mp (List.mem_of_getElem? hx)
    obtain ⟨i, hi, rfl⟩ := List.mem_map.mp ha
    exact hrow i (List.mem_range.mp hi))
  have hD2 : va_D A (((X ++ va_pl L f) ++ [(H.size, .inl (cA, n.toNatClampNeg, .inr (.inr (.inr (.inr (fun i => if i < n.toNatClampNeg then some (H.size + 1 + i) else none))))))]) ++ ((List.range n.toNatClampNeg).map (fun i => H.size + 1 + i)).map (fun a => (a, .inl (cy, z)))) := by
    have hD1 := hD.push (e := .inl (cA, n.toNatClampNeg, .inr (.inr (.inr (.inr (fun i => if i < n.toNatClampNeg then some (H.size + 1 + i) else none)))))) hP rfl (hA _ hS.1)
    generalize hW1 : (X ++ va_pl L f) ++ [(H.size, .inl (cA, n.toNatClampNeg, .inr (.inr (.inr (.inr (fun i => if i < n.toNatClampNeg then some (H.size + 1 + i) else none))))))] = W1 at hD1 hP1 ⊢
    have hle : ∀ (k9 : Nat) (x : Nat × va_E), W1[k9]? = some x → x.1 ≤ H.size := fun k9 x hx => by
      rw [← hW1] at hx
      by_cases hl : k9 < (X ++ va_pl L f).length
      · rw [List.getElem?_append_left hl] at hx
        exact Nat.le_of_lt ((hP k9 x hx).lt)
      · rw [List.getElem?_append_right (by omega)] at hx
        have h0 : k9 - (X ++ va_pl L f).length < 1 := (List.getElem?_eq_some_iff.mp hx).1
        rw [show k9 - (X ++ va_pl L f).length = 0 by omega] at hx
        cases hx
        exact Nat.le_refl _
    have hr : ∀ (k9 : Nat) (x : Nat × va_E), (((List.range n.toNatClampNeg).map (fun i => H.size + 1 + i)).map (fun a => ((a, .inl (cy, z)) : Nat × va_E)))[k9]? = some x → x.1 = H.size + 1 + k9 := fun k9 x hx => by
      rw [List.getElem?_map, List.getElem?_map] at hx
      by_cases h9 : k9 < n.toNatClampNeg
      · rw [List.getElem?_range h9] at hx
        cases hx
        rfl
      · have hn0 : (List.range n.toNatClampNeg)[k9]? = none := List.getElem?_eq_none (by rw [List.length_range]; omega)
        rw [hn0] at hx
        cases hx
    refine ⟨fun i j x y hi hj hxy => ?_, fun k9 x hx => ?_⟩
    · by_cases h1 : i < W1.length <;> by_cases h2 : j < W1.length
      · rw [List.getElem?_append_left h1] at hi
        rw [List.getElem?_append_left h2] at hj
        exact hD1.1 i j x y hi hj hxy
      · rw [List.getElem?_append_left h1] at hi
        rw [List.getElem?_append_right (by omega)] at hj
        have := hle _ _ hi
        have := hr _ _ hj
        omega
      · rw [List.getElem?_append_right (by omega)] at hi
        rw [List.getElem?_append_left h2] at hj
        have := hle _ _ hj
        have := hr _ _ hi
        omega
      · rw [List.getElem?_append_right (by omega)] at hi hj
        have := hr _ _ hi
        have := hr _ _ hj
        omega
    · by_cases h1 : k9 < W1.length
      · rw [List.getElem?_append_left h1] at hx
        exact hD1.2 k9 x hx
      · rw [List.getElem?_append_right (by omega)] at hx
        have := hr _ _ hx
        exact hA _ (by have := hS.1; omega)
  have hAr : ArrOfT s cA (.array ty) := fun N9 z9 => by
    obtain ⟨-, k9, hk9, cm9, hkk9⟩ := (hO 0 0 0).1
    exact ⟨(fun q hq => by cases hq), k9, hk9, cm9, hkk9⟩
  have hK2 : va_K D cl (tys ++ [(cA, .array ty)]) s := ⟨hK.1, fun k9 x hx => by
    by_cases hl : k9 < tys.length
    · rw [List.getElem?_append_left hl] at hx
      exact hK.2 k9 x hx
    · rw [List.getElem?_append_right (by omega)] at hx
      have h0 : k9 - tys.length < 1 := (List.getElem?_eq_some_iff.mp hx).1
      rw [show k9 - tys.length = 0 by omega] at hx
      cases hx
      exact ⟨hAr, fA⟩⟩
  obtain ⟨t, a1, b1⟩ := kk H.size (fun i => H.size + 1 + i) cA F.heap (fun i j _ _ h => by have h9 : H.size + 1 + i = H.size + 1 + j := h; omega) hnl hK2 (by rw [← vr_rows hnm]; exact vr_lay hP2) (by rw [← vr_rows hnm]; exact vr_layD hD2) ⟨by rw [f1]; have := hS.1; omega, fun x h1 h2 => (hold x (Nat.lt_of_lt_of_le h1 hS.1)).trans (hS.2.1 x h1 h2), hS.2.2⟩ F rfl X'
  refine ⟨t, step t ?_, b1⟩
  have e : T.heap.size = H.size := by rw [hT]
  rw [e]
  exact a1
end VGM
/-! ===== constructors: Octave, Arrays.fill ===== -/
theorem td_1_0 : decode prog_5_method_1_code 0 = .ok (.aload_n 0, 1) := by decide +kernel
theorem td_1_1 : decode prog_5_method_1_code 1 = .ok (.invokespecial 3, 3) := by decide +kernel
theorem td_1_4 : decode prog_5_method_1_code 4 = .ok (.aload_n 0, 1) := by decide +kernel
theorem td_1_5 : decode prog_5_method_1_code 5 = .ok (.bipush 12, 2) := by decide +kernel
theorem td_1_7 : decode prog_5_method_1_code 7 = .ok (.putfield 9, 3) := by decide +kernel
theorem td_1_10 : decode prog_5_method_1_code 10 = .ok (.aload_n 0, 1) := by decide +kernel
theorem td_1_11 : decode prog_5_method_1_code 11 = .ok (.iconst 3, 1) := by decide +kernel
theorem td_1_12 : decode prog_5_method_1_code 12 = .ok (.sipush 4096, 3) := by decide +kernel
theorem td_1_15 : decode prog_5_method_1_code 15 = .ok (.multianewarray 15 2, 4) := by decide +kernel
theorem td_1_19 : decode prog_5_method_1_code 19 = .ok (.putfield 17, 3) := by decide +kernel
theorem td_1_22 : decode prog_5_method_1_code 22 = .ok (.aload_n 0, 1) := by decide +kernel
theorem td_1_23 : decode prog_5_method_1_code 23 = .ok (.iconst 3, 1) := by decide +kernel
theorem td_1_24 : decode prog_5_method_1_code 24 = .ok (.newarray .boolean, 2) := by decide +kernel
theorem td_1_26 : decode prog_5_method_1_code 26 = .ok (.putfield 20, 3) := by decide +kernel
theorem td_1_29 : decode prog_5_method_1_code 29 = .ok (.return_, 1) := by decide +kernel
set_option maxRecDepth 100000 in
set_option maxHeartbeats 4000000 in
theorem ti_1 (l : Launch) (D : va_G) (cI cJ cZ : ClassId) (h0 sz : Nat) : Met l ⟨"ToneHouse$Octave", "<init>", "()V"⟩ (tt_wi ⟨"ToneHouse$Octave", "<init>", "()V"⟩ prog_5_method_1_code) (ti_rm 1 5 12294) (va_Pc [.ref h0] (fun U => U.heap.size = sz ∧ va_P D tt_cl [(h0, .inr (1, [.int 0, .null, .null]))] U.heap ∧ va_K D tt_cl [(cI, .int), (cJ, .long), (cZ, .boolean)] U ∧ va_D (fun _ => True) [(h0, .inr (1, [.int 0, .null, .null]))] ∧ va_AOA .int U)) (va_Qv (fun _ : Unit => True) (fun _ t => ∃ (q15 q24 : Nat) (r : Nat → Nat) (c3 : ClassId), va_P D tt_cl [(h0, .inr (1, [.int 12, .ref q15, .ref q24])), (q15, .inl (c3, 3, .inr (.inr (.inr (.inr (fun i => if i < 3 then some (r i) else none)))))), (r 0, .inl (cI, 4096, .inl (fun _ => 0))), (r 1, .inl (cI, 4096, .inl (fun _ => 0))), (r 2, .inl (cI, 4096, .inl (fun _ => 0))), (q24, .inl (cZ, 3, .inl (fun _ => 0)))] t.heap ∧ va_K D tt_cl ([(cI, .int), (cJ, .long), (cZ, .boolean)] ++ [(c3, .array .int)]) t ∧ va_D (va_A [(h0, .inr (1, [.int 0, .null, .null]))] sz) [(h0, .inr (1, [.int 12, .ref q15, .ref q24])), (q15, .inl (c3, 3, .inr (.inr (.inr (.inr (fun i => if i < 3 then some (r i) else none)))))), (r 0, .inl (cI, 4096, .inl (fun _ => 0))), (r 1, .inl (cI, 4096, .inl (fun _ => 0))), (r 2, .inl (cI, 4096, .inl (fun _ => 0))), (q24, .inl (cZ, 3, .inl (fun _ => 0)))]) (va_A [(h0, .inr (1, [.int 0, .null, .null]))] sz)) 5 12294 (va_A [(h0, .inr (1, [.int 0, .null, .null]))] sz) := by
  refine Met.ofW (cc := prog_5_method_1_code) (maxL := 1) (ret := none) (by decide) rfl ?_
  intro p e s m args below meth c s₁ B hml hv
  obtain ⟨rfl, hsz, hP, hK, hD0, hov⟩ := hv
  have hx := B.exec
  have hb := B.bytes
  have hr := B.returns
  have hts := atoms_spec (ws := tt_wi ⟨"ToneHouse$Octave", "<init>", "()V"⟩ prog_5_method_1_code) B.pre
  have hown : s.vm.findClass "ToneHouse$Octave" = some m.cls := findClass_of_methodNamed B.named
  have hlocks := B.notSynchronized
  have hin : meth.name = "<init>" := (name_of_methodNamed B.named B.method).1
  subst hsz
  have hD := hD0.self (sz := s.heap.size)
  generalize hAe : va_A [(h0, .inr (1, [.int 0, .null, .null]))] s.heap.size = A at hD ⊢
  have hA : ∀ q : Nat, s.heap.size ≤ q → A q := fun q h => by rw [← hAe]; exact Or.inr h
  have hS : va_S A s.heap s.heap [] := va_S.rf
  have hP : va_P D tt_cl [(h0, .inr (1, [.int 0, .null, .null]))] s.heap := hP
  have hl := lv_entry ([.ref h0]) (n := 1) (Nat.le_of_ble_eq_true rfl)
  rw [lg_entry_eq]
  generalize (lg_sl ([.ref h0]) ++ List.replicate (1 - (lg_sl ([.ref h0])).length) Slot.unset).toArray = ls at hl ⊢
  have hl : lv_has ls 1 [(0, .ref h0)] := hl
  refine lv_aload_n hx hb td_1_0 rfl (lv_at hl 0 rfl) ?_
  refine W.objInit hx hb hown (ti_w hts 114 (by decide +kernel)) (ti_w hts 107 (by decide +kernel)) (ti_w hts 108 (by decide +kernel)) rfl (by rw [hml]; exact hl.1) rfl td_1_1 (Nat.le_of_ble_eq_true rfl) (Nat.le_of_ble_eq_true rfl) ?_
  refine W.eq (g2 := F0 m 4 ls []) rfl ?_
  refine lv_aload_n hx hb td_1_4 rfl (lv_at hl 0 rfl) ?_
  refine lv_bipush (v := 12) hx hb td_1_5 (by decide) ?_
  refine va_put (D := D) (ci := 1) (v := .int 12) (ty := .int) (C := tt_R1) (T := tt_T1) (N := 3) hx hb hts (fun w hw => List.mem_cons_of_mem _ (tm_tbl_in (tt_in1 w hw).1 (tt_in1 w hw).2)) tt_ty1 tt_tok1 tt_nm1 hown hK hP hD hS 0 rfl rfl 0 (by decide) (ti_w hts 117 (by decide +kernel)) (fun _ h9 => h9) rfl (by decide +kernel) rfl rfl (Nat.le_of_ble_eq_true rfl) td_1_7 (fun H locs hP hD hS => ?_)
  have hP : va_P D tt_cl [(h0, .inr (1, [.int 12, .null, .null]))] H := hP
  have hD : va_D A [(h0, .inr (1, [.int 12, .null, .null]))] := hD
  refine lv_aload_n hx hb td_1_10 rfl (lv_at hl 0 rfl) ?_
  refine lv_iconst (v := 3) hx hb td_1_11 (by decide) ?_
  refine lv_sipush (v := 4096) hx hb td_1_12 (by decide) ?_
  refine va_mna (X := [(h0, .inr (1, [.int 12, .null, .null]))]) (L := []) (f := fun _ => .inr (0, [])) (ty := .int) (cy := cI) (N' := 3) (K' := 4096) (z := (4096, .inl (fun _ => 0))) hx hb hown (ti_w hts 115 (by decide +kernel)) hov (ti_w hts 127 (by decide +kernel)) (hK.2 0 _ rfl).2 hK hP hD hS hA (by decide) (by decide) (by decide) (by decide) (by decide) (by decide) (by decide) rfl rfl (Nat.le_of_ble_eq_true rfl) (Nat.le_of_ble_eq_true rfl) (fun c => by unfold Jvm.Free.Multi.innerC; rw [vp_cell_i]; exact arrV_new c 4096 _) td_1_15 (fun q15 r c3 H rinj rno hK hP hD hS => ?_)
  have ev : ∀ i : Nat, i < 3 → vr_up (fun _ => (.inr (0, []) : va_E)) ((List.range 3).map r) (.inl (cI, 4096, .inl (fun _ => 0))) (r i) = .inl (cI, 4096, .inl (fun _ => 0)) := fun i hi => vr_up_in (List.mem_map.mpr ⟨i, List.mem_range.mpr hi, rfl⟩)
  have ep : va_pl ([] ++ (List.range 3).map r) (vr_up (fun _ => (.inr (0, []) : va_E)) ((List.range 3).map r) (.inl (cI, 4096, .inl (fun _ => 0)))) = [(r 0, .inl (cI, 4096, .inl (fun _ => 0))), (r 1, .inl (cI, 4096, .inl (fun _ => 0))), (r 2, .inl (cI, 4096, .inl (fun _ => 0)))] := by
    show [(r 0, _), (r 1, _), (r 2, _)] = _
    rw [ev 0 (by decide), ev 1 (by decide), ev 2 (by decide)]
  rw [ep] at hP hD
  have hP : va_P D tt_cl [(h0, .inr (1, [.int 12, .null, .null])), (q15, .inl (c3, 3, .inr (.inr (.inr (.inr (fun i => if i < 3 then some (r i) else none)))))), (r 0, .inl (cI, 4096, .inl (fun _ => 0))), (r 1, .inl (cI, 4096, .inl (fun _ => 0))), (r 2, .inl (cI, 4096, .inl (fun _ => 0)))] H := hP
  have hD : va_D A [(h0, .inr (1, [.int 12, .null, .null])), (q15, .inl (c3, 3, .inr (.inr (.inr (.inr (fun i => if i < 3 then some (r i) else none)))))), (r 0, .inl (cI, 4096, .inl (fun _ => 0))), (r 1, .inl (cI, 4096, .inl (fun _ => 0))), (r 2, .inl (cI, 4096, .inl (fun _ => 0)))] := hD
  refine va_putF (D := D) (ci := 1) (v := .ref q15) (ty := .array (.array .int)) (C := tt_R1) (T := tt_T1) (N := 3) hx hb hts (fun w hw => List.mem_cons_of_mem _ (tm_tbl_in (tt_in1 w hw).1 (tt_in1 w hw).2)) tt_ty1 tt_tok1 tt_nm1 hown hK hP hD hS 0 rfl rfl 1 (by decide) (ti_w hts 118 (by decide +kernel)) (fun _ h9 => h9) rfl hin rfl (by decide +kernel) rfl rfl (Nat.le_of_ble_eq_true rfl) td_1_19 (fun H locs hP hD hS => ?_)
  have hP : va_P D tt_cl [(h0, .inr (1, [.int 12, .ref q15, .null])), (q15, .inl (c3, 3, .inr (.inr (.inr (.inr (fun i => if i < 3 then some (r i) else none)))))), (r 0, .inl (cI, 4096, .inl (fun _ => 0))), (r 1, .inl (cI, 4096, .inl (fun _ => 0))), (r 2, .inl (cI, 4096, .inl (fun _ => 0)))] H := hP
  have hD : va_D A [(h0, .inr (1, [.int 12, .ref q15, .null])), (q15, .inl (c3, 3, .inr (.inr (.inr (.inr (fun i => if i < 3 then some (r i) else none)))))), (r 0, .inl (cI, 4096, .inl (fun _ => 0))), (r 1, .inl (cI, 4096, .inl (fun _ => 0))), (r 2, .inl (cI, 4096, .inl (fun _ => 0)))] := hD
  refine lv_aload_n hx hb td_1_22 rfl (lv_at hl 0 rfl) ?_
  refine lv_iconst (v := 3) hx hb td_1_23 (by decide) ?_
  refine va_newa (ty := .boolean) (N' := 3) (a0 := (3, .inl (fun _ => 0))) hx hb (ti_w hts 128 (by decide +kernel)) rfl hK hP hD hS hA (fun _ => rfl) (by decide) (by decide) (by decide) (Nat.le_of_ble_eq_true rfl) (Nat.le_of_ble_eq_true rfl) td_1_24 (fun q24 cA H hK2 hP hD hS => ?_)
  rw [show cA = cZ from Option.some.inj ((hK2.2 4 _ rfl).2.symm.trans (hK2.2 2 _ rfl).2)] at hP hD
  refine va_putF (D := D) (ci := 1) (v := .ref q24) (ty := .array .boolean) (C := tt_R1) (T := tt_T1) (N := 3) hx hb hts (fun w hw => List.mem_cons_of_mem _ (tm_tbl_in (tt_in1 w hw).1 (tt_in1 w hw).2)) tt_ty1 tt_tok1 tt_nm1 hown hK hP hD hS 0 rfl rfl 2 (by decide) (ti_w hts 119 (by decide +kernel)) (fun _ h9 => h9) rfl hin rfl (by decide +kernel) rfl rfl (Nat.le_of_ble_eq_true rfl) td_1_26 (fun H locs hP hD hS => ?_)
  have hP : va_P D tt_cl [(h0, .inr (1, [.int 12, .ref q15, .ref q24])), (q15, .inl (c3, 3, .inr (.inr (.inr (.inr (fun i => if i < 3 then some (r i) else none)))))), (r 0, .inl (cI, 4096, .inl (fun _ => 0))), (r 1, .inl (cI, 4096, .inl (fun _ => 0))), (r 2, .inl (cI, 4096, .inl (fun _ => 0))), (q24, .inl (cZ, 3, .inl (fun _ => 0)))] H := hP
  have hD : va_D A [(h0, .inr (1, [.int 12, .ref q15, .ref q24])), (q15, .inl (c3, 3, .inr (.inr (.inr (.inr (fun i => if i < 3 then some (r i) else none)))))), (r 0, .inl (cI, 4096, .inl (fun _ => 0))), (r 1, .inl (cI, 4096, .inl (fun _ => 0))), (r 2, .inl (cI, 4096, .inl (fun _ => 0))), (q24, .inl (cZ, 3, .inl (fun _ => 0)))] := hD
  refine W.widen (k := 5) (n := 12294) (by decide) (by decide) ?_
  exact W.vret hx hb hr (fun t ht hW => ⟨⟨(), rfl, trivial, q15, q24, r, c3, by rw [ht]; exact hP, va_K.moved hW.alike hK, hD⟩, hS.F ht⟩) hS.2.2 td_1_29
theorem td_f_0 : decode prog_21_method_101_code 0 = .ok (.iconst 0, 1) := by decide +kernel
theorem td_f_1 : decode prog_21_method_101_code 1 = .ok (.istore_n 3, 1) := by decide +kernel
theorem td_f_2 : decode prog_21_method_101_code 2 = .ok (.aload_n 0, 1) := by decide +kernel
theorem td_f_3 : decode prog_21_method_101_code 3 = .ok (.arraylength, 1) := by decide +kernel
theorem td_f_4 : decode prog_21_method_101_code 4 = .ok (.istore 4, 2) := by decide +kernel
theorem td_f_6 : decode prog_21_method_101_code 6 = .ok (.iload_n 3, 1) := by decide +kernel
theorem td_f_7 : decode prog_21_method_101_code 7 = .ok (.iload 4, 2) := by decide +kernel
theorem td_f_9 : decode prog_21_method_101_code 9 = .ok (.if_icmp .ge 13, 3) := by decide +kernel
theorem td_f_12 : decode prog_21_method_101_code 12 = .ok (.aload_n 0, 1) := by decide +kernel
theorem td_f_13 : decode prog_21_method_101_code 13 = .ok (.iload_n 3, 1) := by decide +kernel
theorem td_f_14 : decode prog_21_method_101_code 14 = .ok (.lload_n 1, 1) := by decide +kernel
theorem td_f_15 : decode prog_21_method_101_code 15 = .ok (.lastore, 1) := by decide +kernel
theorem td_f_16 : decode prog_21_method_101_code 16 = .ok (.iinc 3 1, 3) := by decide +kernel
theorem td_f_19 : decode prog_21_method_101_code 19 = .ok (.goto (-13), 3) := by decide +kernel
theorem td_f_22 : decode prog_21_method_101_code 22 = .ok (.return_, 1) := by decide +kernel
def tt_wf : List Cond := Cond.code ⟨"java/util/Arrays", "fill", "([JJ)V"⟩ prog_21_method_101_code 5 none :: tm_tbl
set_option maxRecDepth 100000 in
set_option maxHeartbeats 4000000 in
theorem ti_fill (l : Launch) (D : va_G) (cI cJ cZ : ClassId) (q sz : Nat) (f : Nat → Int64) (hf : ∀ k : Nat, f k = 0 ∨ f k = -1) : Met l ⟨"java/util/Arrays", "fill", "([JJ)V"⟩ tt_wf (ti_rm 0 0 0) (va_Pc [.ref q, .long (-1)] (fun U => U.heap.size = sz ∧ va_P D tt_cl [(q, .inl (cJ, 6, .inr (.inl f)))] U.heap ∧ va_K D tt_cl [(cI, .int), (cJ, .long), (cZ, .boolean)] U ∧ va_D (fun _ => True) [(q, .inl (cJ, 6, .inr (.inl f)))])) (va_Qv (fun _ : Unit => True) (fun _ t => ∃ g : Nat → Int64, (∀ k : Nat, g k = 0 ∨ g k = -1) ∧ va_P D tt_cl [(q, .inl (cJ, 6, .inr (.inl g)))] t.heap ∧ va_K D tt_cl [(cI, .int), (cJ, .long), (cZ, .boolean)] t ∧ va_D (va_A [(q, .inl (cJ, 6, .inr (.inl f)))] sz) [(q, .inl (cJ, 6, .inr (.inl g)))]) (va_A [(q, .inl (cJ, 6, .inr (.inl f)))] sz)) 0 0 (va_A [(q, .inl (cJ, 6, .inr (.inl f)))] sz) := by
  refine Met.ofW (cc := prog_21_method_101_code) (maxL := 5) (ret := none) (by decide) rfl ?_
  intro p e s m args below meth c s₁ B hml hv
  obtain ⟨rfl, hsz, hP, hK, hD0⟩ := hv
  have hx := B.exec
  have hb := B.bytes
  have hr := B.returns
  have hlocks := B.notSynchronized
  subst hsz
  have hD := hD0.self (sz := s.heap.size)
  have eA : ∀ g : Nat → Int64, va_A [(q, (.inl (cJ, 6, .inr (.inl g)) : va_E))] s.heap.size = va_A [(q, (.inl (cJ, 6, .inr (.inl f)) : va_E))] s.heap.size := fun g => by
    funext a
    unfold va_A
    refine propext ⟨?_, ?_⟩ <;> rintro (⟨k, ee, h1⟩ | h1)
    · cases k with
      | zero => cases h1; exact Or.inl ⟨0, _, rfl⟩
      | succ k => cases h1
    · exact Or.inr h1
    · cases k with
      | zero => cases h1; exact Or.inl ⟨0, _, rfl⟩
      | succ k => cases h1
    · exact Or.inr h1
  generalize hAe : va_A [(q, (.inl (cJ, 6, .inr (.inl f)) : va_E))] s.heap.size = A at hD eA ⊢
  have hS : va_S A s.heap s.heap [] := va_S.rf
  have hl := lv_entry ([.ref q, .long (-1)]) (n := 5) (Nat.le_of_ble_eq_true rfl)
  rw [lg_entry_eq]
  generalize (lg_sl ([.ref q, .long (-1)]) ++ List.replicate (5 - (lg_sl ([.ref q, .long (-1)])).length) Slot.unset).toArray = ls at hl ⊢
  have hl : lv_has ls 5 [(0, .ref q), (1, .long (-1))] := hl
  have loop : ∀ (m9 : Nat) (i : Int32) (g : Nat → Int64) (H : Heap) (locs : List Loc) (ls : Array Slot), 0 ≤ i.toInt → 6 ≤ i.toInt + m9 → (∀ k : Nat, g k = 0 ∨ g k = -1) → va_P D tt_cl [(q, .inl (cJ, 6, .inr (.inl g)))] H → va_D A [(q, .inl (cJ, 6, .inr (.inl g)))] → va_S A s.heap H locs → lv_has ls 5 [(3, .int i), (4, .int 6), (0, .ref q), (1, .long (-1))] → W p l e (headSpec tt_wf (ti_rm 0 0 0)).room s m #[.ref q, .long (-1)] below meth c H locs 0 0 (MQ below (va_Qv (fun _ : Unit => True) (fun _ t => ∃ g : Nat → Int64, (∀ k : Nat, g k = 0 ∨ g k = -1) ∧ va_P D tt_cl [(q, .inl (cJ, 6, .inr (.inl g)))] t.heap ∧ va_K D tt_cl [(cI, .int), (cJ, .long), (cZ, .boolean)] t ∧ va_D A [(q, .inl (cJ, 6, .inr (.inl g)))]) A) #[.ref q, .long (-1)] s 0 0 A) (F0 m 6 ls []) := by
    intro m9
    induction m9 with
    | zero =>
      intro i g H locs ls h1 h2 hg hP hD hS hl
      refine lv_iload_n hx hb td_f_6 rfl (lv_at hl 0 rfl) ?_
      refine lv_iload hx hb td_f_7 (lv_at hl 1 rfl) ?_
      refine lv_icmp_ge (tgt := 22) hx hb td_f_9 rfl (fun _ => ?_) (fun h => absurd (tn_leI.mpr (by show (6 : Int) ≤ _; omega)) h)
      exact W.vret hx hb hr (fun t ht hW => ⟨⟨(), rfl, trivial, g, hg, by rw [ht]; exact hP, va_K.moved hW.alike hK, hD⟩, hS.F ht⟩) hS.2.2 td_f_22
    | succ m9 ih =>
      intro i g H locs ls h1 h2 hg hP hD hS hl
      refine lv_iload_n hx hb td_f_6 rfl (lv_at hl 0 rfl) ?_
      refine lv_iload hx hb td_f_7 (lv_at hl 1 rfl) ?_
      refine lv_icmp_ge (tgt := 22) hx hb td_f_9 rfl (fun _ => ?_) (fun h => ?_)
      · exact W.vret hx hb hr (fun t ht hW => ⟨⟨(), rfl, trivial, g, hg, by rw [ht]; exact hP, va_K.moved hW.alike hK, hD⟩, hS.F ht⟩) hS.2.2 td_f_22
      · have e9 : i.toInt < 6 := by rw [tn_leI] at h; exact Int.not_le.mp h
        have e3 := tn_add1 (x := i) (by omega)
        refine lv_aload_n hx hb td_f_12 rfl (lv_at hl 2 rfl) ?_
        refine lv_iload_n hx hb td_f_13 rfl (lv_at hl 0 rfl) ?_
        refine lv_lload_n hx hb td_f_14 rfl (lv_at hl 3 rfl) ?_
        refine va_last hx hb hK hP hD hS 0 1 rfl rfl (tn_in h1 (by omega)) td_f_15 (fun H locs hP hD hS => ?_)
        refine lv_iinc (k := 0) (v := i + 1) (lv' := [(3, .int (i + 1)), (4, .int 6), (0, .ref q), (1, .long (-1))]) hx hb td_f_16 hl rfl rfl (by decide) rfl (fun ls hl => ?_)
        refine lv_goto (tgt := 6) hx hb td_f_19 rfl ?_
        refine ih (i + 1) _ H locs ls (by omega) (by omega) (fun k => ?_) hP hD hS hl
        unfold vp_updL
        split
        · exact Or.inr rfl
        · exact hg k
  refine lv_iconst (v := 0) hx hb td_f_0 (by decide) ?_
  refine lv_istore_n (lv' := [(3, .int 0), (0, .ref q), (1, .long (-1))]) hx hb td_f_1 rfl hl (by decide) rfl (fun ls hl => ?_)
  refine lv_aload_n hx hb td_f_2 rfl (lv_at hl 1 rfl) ?_
  refine va_alen (v := 6) hx hb hK hP 0 1 rfl rfl rfl td_f_3 ?_
  refine lv_istore (lv' := [(4, .int 6), (3, .int 0), (0, .ref q), (1, .long (-1))]) hx hb td_f_4 hl (by decide) rfl (fun ls hl => ?_)
  exact loop 6 0 f s.heap [] ls (by decide) (by decide) hf hP hD hS (lv_sub hl [1, 0, 2, 3] rfl)
