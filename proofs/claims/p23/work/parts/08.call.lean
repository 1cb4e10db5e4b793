/-! ===== the rule of a call ===== -/
/-- the place q is an object of the class of that name -/
def tm_isA (q : Nat) (cls : String) : Prop := (∃ (ci : Nat) (ks : List Nat) (r : vw_C), tt_shp[q]? = some (.inl (ci, ks)) ∧ tt_cl[ci]? = some r ∧ r.1 = cls) ∨ (cls = "java/lang/String" ∧ ∃ i : Nat, i < tt_NS ∧ q = tt_ST + i)
theorem tm_meth {j : Nat} (hj : j < tt_NM) : plainName (tt_y j).cls = true ∧ ((tt_y j).cls ≠ "java/lang/invoke/MethodHandle" ∧ (tt_y j).cls ≠ "java/lang/invoke/VarHandle" ∧ (parseMethodDescriptor (tt_y j).desc).map (fun d => d.parameters.length) = some (tt_p j)) ∧ tt_n j ≤ 40 ∧
    Cond.code (tt_y j) (tt_c j) (tt_n j) (tt_r j) ∈ tm_tbl ∧ Cond.initialized (tt_y j).cls ∈ tm_tbl ∧ (tt_s j = true → Cond.static (tt_y j) ∈ tm_tbl) ∧ (tt_s j = false → Cond.instanceMethod (tt_y j) ∈ tm_tbl ∧ Cond.selects (tt_y j).cls (tt_y j) (tt_y j) ∈ tm_tbl) := by
  have h := tb_valid j hj
  rw [Bool.and_eq_true] at h
  have h1 := h.1
  unfold tb_m at h1
  simp only [Bool.and_eq_true, decide_eq_true_eq] at h1
  obtain ⟨⟨⟨⟨⟨⟨⟨a1, a2⟩, a3⟩, a4⟩, a5⟩, a6⟩, a7⟩, a8⟩ := h1
  refine ⟨a1, ⟨a2, a3, a4⟩, Nat.le_of_ble_eq_true a5, tb_w_in a6, tb_w_in a7, fun e => ?_, fun e => ?_⟩
  · rw [e] at a8
    exact tb_w_in a8
  · rw [e] at a8
    simp only [cond_false, Bool.and_eq_true] at a8
    exact ⟨tb_w_in a8.1, tb_w_in a8.2⟩
theorem tm_ws_good {j : Nat} (hj : j < tt_NM) : GoodIn tm_tbl (tm_ws j) := by
  intro w hw
  rcases List.mem_cons.mp hw with rfl | h
  · exact tm_tbl_good _ (tm_meth hj).2.2.2.1
  · exact tm_tbl_good _ h
set_option maxHeartbeats 4000000 in
theorem wp_call {d j pc n a : Nat} {ls : List (Nat × Value)} {st st0 : List Value} {σ : tm_S} {Q Q' : Option Value → tm_S → Prop} {zz : List (Int × Nat)} {z : Int} {As : List Value} (h : tt_at j pc = some ((30, a, z, zz), n)) (hst : st0 = As.reverse ++ st) (hlen : As.length = tt_p a + (cond (tt_s a) 0 1)) (hsl : (lg_sl As).length ≤ tt_n a)
    (hrec : tt_s a = false → ∃ (q : Nat) (B : List Value), As = .ref q :: B ∧ tm_isA q (tt_y a).cls) (hW : (st.map fun v => v.category).sum ≤ 8) (hM : WM d a As σ Q') (kk : ∀ r σ', Q' r σ' → WP (d + 1) j (pc + n) ls (r.toList ++ st) σ' Q) : WP (d + 1) j pc ls st0 σ Q := by
  obtain ⟨i, hd, hi⟩ := tb_ok h
  intro p l e R s m args below meth c H locs rls adr D dA C hP hS hl
  have hx := C.1.1
  have hb := C.1.2.1
  subst hst
  have hcat : ((st.map (tm_tr adr)).map fun v => v.category).sum ≤ 8 := by
    rw [List.map_map, show ((fun v : Value => v.category) ∘ tm_tr adr) = fun v => v.category from funext (tm_tr_cat adr)]
    exact hW
  have hstk : (As.reverse ++ st).map (tm_tr adr) = (As.map (tm_tr adr)).reverse ++ st.map (tm_tr adr) := by rw [List.map_append, List.map_reverse]
  change tb_cal (tt_y j).cls a z.toNat n i = true at hi
  have hres : ∀ r : Option Value, (r.map (tm_tr adr)).toList ++ st.map (tm_tr adr) = (r.toList ++ st).map (tm_tr adr) := fun r => by cases r <;> rfl
  have Rr : (tm_rm d).frames + 1 ≤ R.frames ∧ 8 + (40 + 11) + (tm_rm d).locals ≤ R.locals := by
    have g1 := C.2.1.2.2.1
    have g2 := C.2.1.2.2.2
    refine ⟨g1, ?_⟩
    show 8 + (40 + 11) + 64 * d ≤ R.locals
    omega
  unfold tb_cal at hi
  split at hi
  · rename_i idx
    simp only [Bool.and_eq_true, Bool.or_eq_true, beq_iff_eq, decide_eq_true_eq] at hi
    obtain ⟨⟨⟨rfl, e1⟩, e2⟩, e3⟩ := hi
    have hj : a < tt_NM := Nat.blt_eq.mp e1
    obtain ⟨m1, m2, m3, m4, m5, m6, m7⟩ := tm_meth hj
    have hMet := tm_met hM m1 hsl l C.2.2.2.1 D dA H.size
    have hR : (tm_rm d).frames + 1 ≤ R.frames ∧ 8 + (tt_n a + 11) + (tm_rm d).locals ≤ R.locals := ⟨Rr.1, by have := Rr.2; omega⟩
    rw [hstk]
    have hn : (As.map (tm_tr adr)).length = tt_p a := by rw [List.length_map, hlen, e2]; rfl
    have hpre : PreS s H (tm_P adr D dA As σ H.size) (As.map (tm_tr adr)) := ⟨tm_blind adr D dA As σ H.size, tm_start C.2.2.1 C.2.2.2.2 hP hS⟩
    rcases e3 with ⟨-, e4⟩ | ⟨-, e4⟩
    · refine tm_cont (va_runS (nL := tt_n j) ⟨hx, hb, C.1.2.2.1, C.1.2.2.2.1, C.1.2.2.2.2⟩ hMet ⟨callB_of (tt_p a) C.1.2.2.2.2 (tm_ws_good hj) rfl rfl rfl (C.1.2.2.2.2 _ m5) (C.1.2.2.2.2 _ (tb_w_in e4)) m2 hR, C.1.2.2.2.2 _ (m6 e2)⟩ hpre rfl hn hl.1 rfl (lv_room hcat) hd ⟨Nat.zero_le _, Nat.zero_le _⟩) hS (fun r σ' H1 locs1 g1 g2 g3 => ?_)
      rw [hres]
      exact kk r σ' g1 p l e R s m args below meth c H1 locs1 rls adr D dA C g2 g3 hl
    · have hnw : va_Nw (.methodLinkNest (tt_y j).cls idx (tt_y a) "ToneHouse") s := C.2.2.2.2.2.2.2.2.2 _ (List.mem_filter.mpr ⟨List.mem_of_getElem? e4, rfl⟩)
      refine tm_cont (va_runSN (nL := tt_n j) ⟨hx, hb, C.1.2.2.1, C.1.2.2.2.1, C.1.2.2.2.2⟩ hMet ⟨va_cnB (tt_p a) C.1.2.2.2.2 (tm_ws_good hj) rfl rfl rfl hnw (C.1.2.2.2.2 _ m5) m2 hR, C.1.2.2.2.2 _ (m6 e2), trivial⟩ hpre rfl hn hl.1 rfl (lv_room hcat) hd ⟨Nat.zero_le _, Nat.zero_le _⟩) hS (fun r σ' H1 locs1 g1 g2 g3 => ?_)
      rw [hres]
      exact kk r σ' g1 p l e R s m args below meth c H1 locs1 rls adr D dA C g2 g3 hl
  · rename_i idx
    simp only [Bool.and_eq_true, Bool.or_eq_true, beq_iff_eq, decide_eq_true_eq, Bool.not_eq_true'] at hi
    obtain ⟨⟨⟨rfl, e1⟩, e2⟩, e3⟩ := hi
    have hj : a < tt_NM := Nat.blt_eq.mp e1
    obtain ⟨m1, m2, m3, m4, m5, m6, m7⟩ := tm_meth hj
    obtain ⟨q, B, rfl, hq⟩ := hrec e2
    have hMet := tm_met hM m1 hsl l C.2.2.2.1 D dA H.size
    have hR : (tm_rm d).frames + 1 ≤ R.frames ∧ 8 + (tt_n a + 11) + (tm_rm d).locals ≤ R.locals := ⟨Rr.1, by have := Rr.2; omega⟩
    have hstk2 : ((Value.ref q :: B).map (tm_tr adr)).reverse ++ st.map (tm_tr adr) = (B.map (tm_tr adr)).reverse ++ .ref (adr q) :: st.map (tm_tr adr) := by
      rw [List.map_cons, List.reverse_cons, List.append_assoc]
      rfl
    rw [hstk, hstk2]
    have hn : (B.map (tm_tr adr)).length = tt_p a := by
      rw [e2] at hlen
      simpa using hlen
    have hrc : ∃ cellB : Cell, H[adr q]? = some cellB ∧ cellB.vm.isStatics = false ∧ s.vm.findClass (tt_y a).cls = some cellB.cls := by
      rcases hq with ⟨ci, ks, r, g1, g2, g3⟩ | ⟨g1, i2, g2, rfl⟩
      · rw [← g3]
        exact va_recv C.2.2.1 hP g2 (tm_w_get g1)
      · rw [g1]
        exact vk_recv (adK := fun i => adr (tt_ST + i)) (i := i2) C.2.2.2.2.2.1 g2 hS
    have hpre : PreV s H (tt_y a).cls (adr q) (tm_P adr D dA (.ref q :: B) σ H.size) (B.map (tm_tr adr)) := ⟨tm_blind adr D dA _ σ H.size, hrc, tm_start C.2.2.1 C.2.2.2.2 hP hS⟩
    have hse := m7 e2
    rcases e3 with ⟨-, e4⟩ | ⟨-, e4⟩
    · refine tm_cont (va_runV (nL := tt_n j) ⟨hx, hb, C.1.2.2.1, C.1.2.2.2.1, C.1.2.2.2.2⟩ hMet ⟨callB_of (tt_p a) C.1.2.2.2.2 (tm_ws_good hj) rfl rfl rfl (C.1.2.2.2.2 _ m5) (C.1.2.2.2.2 _ (tb_w_in e4)) m2 hR, C.1.2.2.2.2 _ hse.1, C.1.2.2.2.2 _ hse.2⟩ hpre rfl hn hl.1 rfl (lv_room hcat) hd ⟨Nat.zero_le _, Nat.zero_le _⟩) hS (fun r σ' H1 locs1 g1 g2 g3 => ?_)
      rw [hres]
      exact kk r σ' g1 p l e R s m args below meth c H1 locs1 rls adr D dA C g2 g3 hl
    · have hnw : va_Nw (.methodLinkNest (tt_y j).cls idx (tt_y a) "ToneHouse") s := C.2.2.2.2.2.2.2.2.2 _ (List.mem_filter.mpr ⟨List.mem_of_getElem? e4, rfl⟩)
      refine tm_cont (va_runVN (nL := tt_n j) ⟨hx, hb, C.1.2.2.1, C.1.2.2.2.1, C.1.2.2.2.2⟩ hMet ⟨va_cnB (tt_p a) C.1.2.2.2.2 (tm_ws_good hj) rfl rfl rfl hnw (C.1.2.2.2.2 _ m5) m2 hR, C.1.2.2.2.2 _ hse.1, C.1.2.2.2.2 _ hse.2⟩ hpre rfl hn hl.1 rfl (lv_room hcat) hd ⟨Nat.zero_le _, Nat.zero_le _⟩) hS (fun r σ' H1 locs1 g1 g2 g3 => ?_)
      rw [hres]
      exact kk r σ' g1 p l e R s m args below meth c H1 locs1 rls adr D dA C g2 g3 hl
  · cases hi
