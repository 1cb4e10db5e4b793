/-! ===== the law: its words, calls out of it ===== -/
def R_law : String := "ToneHouseLaw"
def lw_P (b : Addr) (xs : List Int32) (args : Array Value) (s : State) : Prop := args = #[.ref b] ∧ s.IntsAt b xs ∧ xs.length ≤ 3072 ∧ (Jvm.Cond.and given_1 narrow_1).before args s = true
def lw_Q (_ : Array Value) (s : State) (o : Outcome) (t : State) : Prop := o = .returned (some (.int 1)) ∧ Framed s o t [] 600000 7302250
def lw_Z (below : List Frame) (a : Array Value) (s : State) : State → Prop := fun t => ∃ o, t.status = .running ∧ Ended t below o ∧ lw_Q a s o t
/-- the law's own end, with 1 on the stack, nothing written that was there before, its room as the claim has it -/
theorem lw_ret {p : Program} {l : Launch} {e : Env} {s : State} {m : MethodId} {below : List Frame} {meth : Method} {c : Code} {b : Nat} (hx : p.tables.exec = Jvm.exec) (hb : c.code = code) (hr : meth.sig.returnType = ret) (hlocks : meth.locks = false) {pc : Nat} {H : Heap} {ls : Array Slot} (hdg : decode code pc = .ok (.ireturn, 1)) : W p l e room_1 s m #[Value.ref b] below meth c H [] 600000 7302250 (lw_Z below #[Value.ref b] s) (F0 m pc ls [.int 1]) := by
  intro T hT X
  obtain ⟨fs, hret, hrun, hended, hW, hframe⟩ := X.leave (v := some (.int 1)) (hlocks := hlocks) (fun h => by rw [hr] at h; cases h)
  have hmeth' : T.vm.method? m = some meth := X.method'
  refine ⟨T.setFrames fs, ?_, .returned (some (.int 1)), hrun, hended, rfl, ⟨_, rfl⟩, hW, hframe⟩
  jvm_step X.here [X.here.top, hx, hb, hdg, hmeth', hr, ret, narrow_b1]
  (try refine ⟨rfl, ?_⟩); (try refine ⟨rfl, ?_⟩)
  first | (intro acts; rw [hret _ acts rfl rfl rfl]) | rw [hret _ _ rfl rfl rfl]
  exact Steps.refl _
/-- what holds at the law's entry: the machine, the code, the tables' words (any of lw_tbl by 'hts w (by decide +kernel)'), the script of L ints xs at the cell b, what the Statement gives of the start (any of its parts by flat_of_before) -/
def lw_At (p : Program) (s : State) (m : MethodId) (meth : Method) (c : Code) (b L : Nat) (xs : Nat → Int32) : Prop :=
  p.tables.exec = Jvm.exec ∧ c.code = code ∧ meth.sig.returnType = ret ∧ c.maxLocals = 4 ∧ s.vm.findClass R_law = some m.cls ∧ (∀ w ∈ lw_tbl, w.before #[Value.ref b] s = true) ∧ va_X b L xs s s.heap ∧ b < s.heap.size ∧ meth.locks = false ∧ (Jvm.Cond.and given_1 narrow_1).before #[Value.ref b] s = true
/-- what holds throughout the law's loop -/
def lw_F (s : State) (adr : Nat → Nat) (D : va_G) (dA : Nat → ClassId) : Prop := va_K D tt_cl (tm_ty dA) s ∧ tm_inj adr ∧ tm_K adr (fun q : Nat => s.heap.size ≤ q) s s.heap ∧ ∀ k : Nat, k < tt_NP → s.heap.size ≤ adr k
theorem lw_good {j : Nat} (hj : j < tt_NM) : GoodIn lw_tbl (tm_ws j) := by
  intro w hw
  have h := tm_ws_good hj w hw
  exact ⟨(List.mem_filter.mp h.1).1, h.2⟩
theorem lw_A {s : State} {adr : Nat → Nat} {H : Heap} (h : ∀ k : Nat, k < tt_NP → s.heap.size ≤ adr k) (hz : s.heap.size ≤ H.size) : ∀ q, tm_A adr H.size q → s.heap.size ≤ q := by
  intro q hq
  rcases hq with ⟨k, hk, rfl⟩ | hq
  · exact h k hk
  · exact Nat.le_trans hz hq
set_option maxHeartbeats 4000000 in
theorem lw_call {p : Program} {l : Launch} {e : Env} {s : State} {m : MethodId} {below : List Frame} {meth : Method} {c : Code} {b L : Nat} {xs : Nat → Int32} {H : Heap} {locs : List Loc} {Qf : State → Prop} {adr : Nat → Nat} {D : va_G} {dA : Nat → ClassId} {pc idx j q : Nat} {ls : Array Slot} {B st st0 : List Value} {σ : tm_S} {Q' : Int32 → tm_S → Prop}
    (C0 : lw_At p s m meth c b L xs) (F : lw_F s adr D dA) (hd : decode code pc = .ok (.invokevirtual idx, 3)) (hj : j < tt_NM) (hs : tt_s j = false) (hq : tm_isA q (tt_y j).cls) (hlen : B.length = tt_p j) (hsl : (lg_sl (.ref q :: B)).length ≤ tt_n j) (hlink : Cond.methodLink "ToneHouseLaw" idx (tt_y j) ∈ lw_tbl)
    (hM : WM 90 j (.ref q :: B) σ (fun r σ' => ∃ z : Int32, r = some (.int z) ∧ Q' z σ')) (hB : B.map (tm_tr adr) = B) (hst : st0 = B.reverse ++ .ref (adr q) :: st) (hcat : (st.map fun v => v.category).sum ≤ 8) (hP : va_P D tt_cl (tm_w adr dA σ) H) (hS : va_S (fun q : Nat => s.heap.size ≤ q) s.heap H locs) (hl : ls.size = 4)
    (kk : ∀ (z : Int32) (σ' : tm_S) (H1 : Heap) (locs1 : List Loc), Q' z σ' → va_P D tt_cl (tm_w adr dA σ') H1 → va_S (fun q : Nat => s.heap.size ≤ q) s.heap H1 locs1 → W p l e room_1 s m #[Value.ref b] below meth c H1 locs1 100 80000 Qf (F0 m (pc + 3) ls (.int z :: st))) : W p l e room_1 s m #[Value.ref b] below meth c H locs 100 80000 Qf (F0 m pc ls st0) := by
  obtain ⟨hx, hb, hr, hml, hown, hts, hX, hbl, hlocks, hgv⟩ := C0
  obtain ⟨hK, hi, hKo, hA⟩ := F
  obtain ⟨m1, m2, m3, m4, m5, m6, m7⟩ := tm_meth hj
  have hse := m7 hs
  have hMet := tm_met hM m1 hsl l hi D dA H.size
  have hts' : ∀ w ∈ tm_tbl, w.before #[Value.ref b] s = true := fun w hw => hts w (List.mem_filter.mp hw).1
  have hR : (tm_rm 90).frames + 1 ≤ room_1.frames ∧ 8 + (tt_n j + 11) + (tm_rm 90).locals ≤ room_1.locals := ⟨Nat.le_of_ble_eq_true rfl, by
    have h1 : (tm_rm 90).locals = 5760 := rfl
    have h2 : (6000 : Nat) ≤ room_1.locals := Nat.le_of_ble_eq_true rfl
    omega⟩
  have hrc : ∃ cellB : Cell, H[adr q]? = some cellB ∧ cellB.vm.isStatics = false ∧ s.vm.findClass (tt_y j).cls = some cellB.cls := by
    rcases hq with ⟨ci, ks, r, g1, g2, g3⟩ | ⟨g1, i2, g2, rfl⟩
    · rw [← g3]
      exact va_recv hK hP g2 (tm_w_get g1)
    · rw [g1]
      exact vk_recv (adK := fun i => adr (tt_ST + i)) (i := i2) hKo.2.1 g2 hS
  have hpre : PreV s H (tt_y j).cls (adr q) (tm_P adr D dA (.ref q :: B) σ H.size) B := by
    refine ⟨tm_blind adr D dA _ σ H.size, hrc, fun U hU hW => ?_⟩
    refine ⟨by show _ = (List.map (tm_tr adr) (.ref q :: B)).toArray; rw [List.map_cons, hB]; rfl, by rw [hU], by rw [hU]; exact hP, va_K.moved hW.alike hK, ?_⟩
    rw [hU]
    exact tm_K_go hKo hW hS.2.1 (lw_A hA hS.1)
  have hrun := va_runV (cells := 100) (slots := 80000) (locs := locs) (meth := meth) (e := e) (below := below) (g := F0 m pc ls st0) (rest := st) (nL := 4) (own := "ToneHouseLaw") (Ts := lw_tbl) ⟨hx, hb, hml, hown, hts⟩ hMet ⟨callB_of (tt_p j) hts (lw_good hj) rfl rfl rfl (hts' _ m5) (hts _ hlink) m2 hR, hts' _ hse.1, hts' _ hse.2⟩ hpre rfl hlen hl hst (lv_room hcat) hd ⟨Nat.le_of_ble_eq_true rfl, Nat.le_of_ble_eq_true rfl⟩
  intro T hT X
  obtain ⟨v, st₀, t, T', L, h0, X', hL, e1, e2, ⟨r, σ', ⟨z, rfl, hq⟩, hv, hP2, hz, hk⟩, stp⟩ := hrun T hT X
  cases hv
  rw [h0] at hz hk
  obtain ⟨t2, a1, b1⟩ := kk z σ' T'.heap (locs ++ L) hq (by rw [e1]; exact hP2)
    ⟨Nat.le_trans hS.1 (by rw [e1]; exact hz), fun q h1 h2 => by rw [e1, hk q (Nat.lt_of_lt_of_le h1 hS.1) (fun z => h2 (lw_A hA hS.1 q z))]; exact hS.2.1 q h1 h2, fun q hq => by
      rcases List.mem_append.mp hq with h | h
      · exact hS.2.2 q h
      · exact lw_A hA hS.1 _ (hL q h)⟩ T' rfl X'
  exact ⟨t2, stp t2 a1, b1⟩
/-- an int of the script, by a place behind the head -/
theorem lw_arg {p : Program} {l : Launch} {e : Env} {s : State} {m : MethodId} {below : List Frame} {meth : Method} {c : Code} {b L : Nat} {xs : Nat → Int32} {H : Heap} {locs : List Loc} {cells slots : Nat} {Qf : State → Prop} {pc a1 a2 : Nat} {iv : Int32} {kz : Int} (kv : Int32) {ls : Array Slot} {st : List Value}
    (C0 : lw_At p s m meth c b L xs) (hS : va_S (fun q : Nat => s.heap.size ≤ q) s.heap H locs) (hl : lv_has ls 4 [(3, .int iv), (2, .ref a2), (1, .ref a1), (0, .ref b)]) (hin : vp_in (iv + kv) L) (d0 : decode code pc = .ok (.aload_n 0, 1)) (d1 : decode code (pc + 1) = .ok (.iload_n 3, 1)) (d2 : decode code (pc + 1 + 1) = .ok (.iconst kz, 1)) (hk : Int32.ofInt kz = kv) (d3 : decode code (pc + 1 + 1 + 1) = .ok (.iadd, 1)) (d4 : decode code (pc + 1 + 1 + 1 + 1) = .ok (.iaload, 1))
    (kk : W p l e room_1 s m #[Value.ref b] below meth c H locs cells slots Qf (F0 m (pc + 5) ls (.int (xs (iv + kv).toNatClampNeg) :: st))) : W p l e room_1 s m #[Value.ref b] below meth c H locs cells slots Qf (F0 m pc ls st) := by
  obtain ⟨hx, hb, hr, hml, hown, hts, hX, hbl, hlocks, hgv⟩ := C0
  have hbA : ¬ (fun q : Nat => s.heap.size ≤ q) b := Nat.not_le.mpr hbl
  refine lv_aload_n hx hb d0 rfl (lv_at hl 3 rfl) ?_
  refine lv_iload_n hx hb d1 rfl (lv_at hl 0 rfl) ?_
  refine lv_iconst (v := kv) hx hb d2 hk ?_
  refine lv_iadd hx hb d3 ?_
  exact va_sld hx hb hX hbl hbA hS hin d4 kk
theorem lw_in {i k L : Nat} {kv : Int32} (hk : kv = nI k) (h : i + k < L) (hL : L ≤ 3072) : vp_in (nI i + kv) L := by
  rw [hk, nI_add]
  exact vp_in_nI h (by omega)
theorem lw_isX : tm_isA 0 "ToneHouse" := Or.inl ⟨0, _, _, rfl, rfl, rfl⟩
theorem lw_isM : tm_isA 11 "ToneHouseModel" := Or.inl ⟨9, _, _, rfl, rfl, rfl⟩
theorem lw_Qd {d j n : Nat} {As : List Value} {σ : tm_S} (h : WM d j As σ (th_Qd n)) : WM d j As σ (fun r σ' => ∃ z : Int32, r = some (.int z) ∧ th_IV n σ') := h.mono (fun r σ' hq => by
  obtain ⟨⟨z, hz⟩, hI⟩ := hq
  exact ⟨z, hz, hI⟩)
theorem lw_Q4 {d j n : Nat} {As : List Value} {σ : tm_S} (h : WM d j As σ (th_Q4 n)) : WM d j As σ (fun r σ' => ∃ z : Int32, r = some (.int z) ∧ th_I4 n σ') := h.mono (fun r σ' hq => by
  obtain ⟨⟨z, hz⟩, hI⟩ := hq
  exact ⟨z, hz, hI⟩)
set_option maxRecDepth 100000 in
set_option maxHeartbeats 4000000 in
theorem th_moct2 {d : Nat} {σ : tm_S} {n : Int32} : WM d 160 [.ref 11, .int n] σ (fun r σ' => r = some (.int (th_oct n)) ∧ ((σ' = tm_sI σ 11 0 0 ∧ ¬ (3 ≤ n.toInt ∧ n.toInt ≤ 12)) ∨ (3 ≤ n.toInt ∧ n.toInt ≤ 12 ∧ ∃ σ1, th_row0 50 (tm_sI (tm_sI σ 11 0 0) 11 1 n) σ1 ∧ σ' = tm_sI (tm_sI (tm_sI σ1 11 23 0) 11 26 0) 11 11 0))) := by
  have k25 : ∀ (m : Nat) (i : Int32) (σ1 : tm_S), 3 ≤ n.toInt → n.toInt ≤ 12 → th_row0 50 (tm_sI (tm_sI σ 11 0 0) 11 1 n) σ1 → 0 ≤ i.toInt → 6 ≤ i.toInt + m → WP d 160 25 [(2, .int i), (0, .ref 11), (1, .int n)] [] σ1 (fun r σ' => r = some (.int (th_oct n)) ∧ ((σ' = tm_sI σ 11 0 0 ∧ ¬ (3 ≤ n.toInt ∧ n.toInt ≤ 12)) ∨ (3 ≤ n.toInt ∧ n.toInt ≤ 12 ∧ ∃ σ1, th_row0 50 (tm_sI (tm_sI σ 11 0 0) 11 1 n) σ1 ∧ σ' = tm_sI (tm_sI (tm_sI σ1 11 23 0) 11 26 0) 11 11 0))) := by
    intro m
    induction m with
    | zero =>
      intro i σ1 c1 c2 e1 h1 h2
      have e : th_oct n = 1 := if_pos ⟨c1, c2⟩
      refine wp_ldi rfl tm_m0 ?_
      refine wq_con (x := 6) rfl (by decide) ?_
      refine wq_icge rfl (fun h28 => ?_) (fun h28 => absurd (tn_leI.mpr (by show (6 : Int) ≤ _; omega)) h28)
      refine wp_lda rfl tm_m1 ?_
      refine wq_con (x := 0) rfl (by decide) ?_
      refine wq_puti rfl rfl (f := 23) rfl rfl ?_
      refine wp_lda rfl tm_m1 ?_
      refine wq_con (x := 0) rfl (by decide) ?_
      refine wq_puti rfl rfl (f := 26) rfl rfl ?_
      refine wp_lda rfl tm_m1 ?_
      refine wq_con (x := 0) rfl (by decide) ?_
      refine wq_puti rfl rfl (f := 11) rfl rfl ?_
      refine wq_con (x := 1) rfl (by decide) ?_
      exact wp_reti rfl (th_n1 rfl) ⟨by rw [e], Or.inr ⟨c1, c2, σ1, e1, rfl⟩⟩
    | succ m ih =>
      intro i σ1 c1 c2 e1 h1 h2
      have e : th_oct n = 1 := if_pos ⟨c1, c2⟩
      refine wp_ldi rfl tm_m0 ?_
      refine wq_con (x := 6) rfl (by decide) ?_
      refine wq_icge rfl (fun h28 => ?_) (fun h28 => ?_)
      · refine wp_lda rfl tm_m1 ?_
        refine wq_con (x := 0) rfl (by decide) ?_
        refine wq_puti rfl rfl (f := 23) rfl rfl ?_
        refine wp_lda rfl tm_m1 ?_
        refine wq_con (x := 0) rfl (by decide) ?_
        refine wq_puti rfl rfl (f := 26) rfl rfl ?_
        refine wp_lda rfl tm_m1 ?_
        refine wq_con (x := 0) rfl (by decide) ?_
        refine wq_puti rfl rfl (f := 11) rfl rfl ?_
        refine wq_con (x := 1) rfl (by decide) ?_
        exact wp_reti rfl (th_n1 rfl) ⟨by rw [e], Or.inr ⟨c1, c2, σ1, e1, rfl⟩⟩
      · have e28 : i.toInt < 6 := by rw [tn_leI] at h28; exact Int.not_le.mp h28
        have e3 := tn_add1 (x := i) (by omega)
        refine wp_lda rfl tm_m1 ?_
        refine wq_getr (p := 50) rfl rfl (f := 9) rfl rfl ?_
        refine wp_ldi rfl tm_m0 ?_
        refine wq_con (x := 0) rfl (by decide) ?_
        refine wp_zast rfl rfl (tn_in h1 (by omega)) (Or.inl rfl) ?_
        refine wq_inc (c := 1) [(2, .int (i + 1)), (0, .ref 11), (1, .int n)] rfl tm_m0 rfl rfl ?_
        refine wp_go rfl ?_
        exact WP.less (ih (i + 1) _ c1 c2 (th_row0_st e1) (by omega) (by omega)) (by simp)
  show WP d 160 0 [(0, .ref 11), (1, .int n)] [] σ _
  refine wp_lda rfl tm_m0 ?_
  refine wq_con (x := 0) rfl (by decide) ?_
  refine wq_puti rfl rfl (f := 0) rfl rfl ?_
  refine wp_ldi rfl tm_m1 ?_
  refine wq_con (x := 3) rfl (by decide) ?_
  refine wq_iclt rfl (fun h7 => ?_) (fun h7 => ?_)
  · have e16 : ¬ (3 ≤ n.toInt ∧ n.toInt ≤ 12) := fun e => by first | (have e2 : n.toInt < 3 := tn_ltI.mp h7; omega) | (have e8 : ¬ n.toInt ≤ 12 := fun g => h13 (tn_leI.mpr g); omega)
    refine wq_con (x := 0) rfl (by decide) ?_
    exact wp_reti rfl (th_n0 rfl) ⟨by rw [show th_oct n = 0 from if_neg e16], Or.inl ⟨rfl, e16⟩⟩
  · have e7 : 3 ≤ n.toInt := by rw [tn_ltI] at h7; exact Int.not_lt.mp h7
    refine wp_ldi rfl tm_m1 ?_
    refine wq_con (x := 12) rfl (by decide) ?_
    refine wq_icle rfl (fun h13 => ?_) (fun h13 => ?_)
    · have e13 : n.toInt ≤ 12 := tn_leI.mp h13
      refine wp_lda rfl tm_m0 ?_
      refine wp_ldi rfl tm_m1 ?_
      refine wq_puti rfl rfl (f := 1) rfl rfl ?_
      refine wq_con (x := 0) rfl (by decide) ?_
      refine wq_sti [(2, .int 0), (0, .ref 11), (1, .int n)] rfl rfl ?_
      exact WP.less (k25 6 0 _ e7 e13 th_row0_rf (by decide) (by decide)) (by simp)
    · have e16 : ¬ (3 ≤ n.toInt ∧ n.toInt ≤ 12) := fun e => by first | (have e2 : n.toInt < 3 := tn_ltI.mp h7; omega) | (have e8 : ¬ n.toInt ≤ 12 := fun g => h13 (tn_leI.mpr g); omega)
      refine wq_con (x := 0) rfl (by decide) ?_
      exact wp_reti rfl (th_n0 rfl) ⟨by rw [show th_oct n = 0 from if_neg e16], Or.inl ⟨rfl, e16⟩⟩
