/-! ===== reading, of the reference: rows, voices, the whole ===== -/
def tz_rn : tv_C := (240, [(3, 11, 11), (1, (-2147483648), 2147483647)], [], [((1, (-1), 5), [])], [], 38)
theorem tq_rn {T : tv_TT} {a1 : Int32} {σ σ' : tm_S} {r : Option Value} (h : tv_Qc T tz_rn [.ref 11, .int a1] σ r σ') : tv_TY T σ' ∧ tv_un σ σ' [] ∧ ((∃ z : Int32, r = some (.int z) ∧ (-1) ≤ z.toInt ∧ z.toInt ≤ 5)) := by
  obtain ⟨h1, h2, q, hq, hr, hn⟩ := h
  refine ⟨h1, h2, ?_⟩
  change q ∈ [((1, (-1), 5), [])] at hq
  simp only [List.mem_cons, List.not_mem_nil, or_false] at hq
  rcases hq with rfl
  rcases hr with ⟨e, -⟩ | ⟨x, rfl, hx⟩
  · cases e
  · obtain ⟨z, rfl, g1, g2⟩ := hx
    exact ⟨z, rfl, g1, g2⟩
def tz_sg : tv_C := (241, [(3, 11, 11), (1, (-2147483648), 2147483647)], [], [((1, 0, 0), []), ((1, 1, 1), [])], [], 38)
theorem tq_sg {T : tv_TT} {a1 : Int32} {σ σ' : tm_S} {r : Option Value} (h : tv_Qc T tz_sg [.ref 11, .int a1] σ r σ') : tv_TY T σ' ∧ tv_un σ σ' [] ∧ ((∃ z : Int32, r = some (.int z) ∧ 0 ≤ z.toInt ∧ z.toInt ≤ 0) ∨ (∃ z : Int32, r = some (.int z) ∧ 1 ≤ z.toInt ∧ z.toInt ≤ 1)) := by
  obtain ⟨h1, h2, q, hq, hr, hn⟩ := h
  refine ⟨h1, h2, ?_⟩
  change q ∈ [((1, 0, 0), []), ((1, 1, 1), [])] at hq
  simp only [List.mem_cons, List.not_mem_nil, or_false] at hq
  rcases hq with rfl | rfl
  · rcases hr with ⟨e, -⟩ | ⟨x, rfl, hx⟩
    · cases e
    · obtain ⟨z, rfl, g1, g2⟩ := hx
      exact Or.inl (⟨z, rfl, g1, g2⟩)
  · rcases hr with ⟨e, -⟩ | ⟨x, rfl, hx⟩
    · cases e
    · obtain ⟨z, rfl, g1, g2⟩ := hx
      exact Or.inr (⟨z, rfl, g1, g2⟩)
def tz_fl : tv_C := (239, [(3, 11, 11), (1, (-2147483648), 2147483647)], [], [((1, 0, 0), [])], [(11, 39), (11, 40)], 38)
theorem tq_fl {T : tv_TT} {a1 : Int32} {σ σ' : tm_S} {r : Option Value} (h : tv_Qc T tz_fl [.ref 11, .int a1] σ r σ') : tv_TY T σ' ∧ tv_un σ σ' [(11, 39), (11, 40)] ∧ ((∃ z : Int32, r = some (.int z) ∧ 0 ≤ z.toInt ∧ z.toInt ≤ 0)) := by
  obtain ⟨h1, h2, q, hq, hr, hn⟩ := h
  refine ⟨h1, h2, ?_⟩
  change q ∈ [((1, 0, 0), [])] at hq
  simp only [List.mem_cons, List.not_mem_nil, or_false] at hq
  rcases hq with rfl
  rcases hr with ⟨e, -⟩ | ⟨x, rfl, hx⟩
  · cases e
  · obtain ⟨z, rfl, g1, g2⟩ := hx
    exact ⟨z, rfl, g1, g2⟩
def th_RI (v : Int) (σ s : tm_S) : Prop := tv_TY (tc_T v) s ∧ tv_un σ s [(11, 35), (11, 36), (11, 37), (11, 38), (11, 39), (11, 40), (11, 41), (11, 42), (67, 64), (68, 64), (69, 64), (70, 64), (71, 64), (72, 64)]
theorem th_nx {d : Nat} {v : Int} {σ s : tm_S} (h : th_RI v σ s) : WM (d + 1) 234 [.ref 11] s (fun r s' => r = none ∧ th_RI v σ s' ∧ s'.1 11 41 = s.1 11 41 ∧ s'.1 11 42 = s.1 11 42 ∧ (s'.1 11 37 = 6 → 0 ≤ (s'.1 11 38).toInt)) := by
  refine WM.mono (th_next h.1) ?_
  rintro r s' ⟨e, ⟨h1, h2⟩, h3⟩
  exact ⟨e, ⟨h1, tv_un_tr h.2 (tv_un_mo h2 (by decide))⟩, tv_un_i h2 rfl rfl, tv_un_i h2 rfl rfl, h3⟩
theorem th_fl {v : Int} {σ s : tm_S} (hfl : tv_Snd (tc_T v) tz_fl) (k : Int32) (h : th_RI v σ s) : WM 38 239 [.ref 11, .int k] s (fun r s' => r = some (.int 0) ∧ th_RI v σ s') := by
  refine WM.mono (hfl [.ref 11, .int k] s ⟨⟨_, rfl, by decide, by decide⟩, ⟨_, rfl, (tn_rng _).1, (tn_rng _).2⟩, trivial⟩ h.1) ?_
  intro r s' hq
  obtain ⟨h1, h2, z, rfl, h3, h4⟩ := tq_fl hq
  obtain rfl : z = 0 := Int32.toInt_inj.mp (by show z.toInt = 0; omega)
  exact ⟨rfl, h1, tv_un_tr h.2 (tv_un_mo h2 (by decide))⟩
theorem th_rn {v : Int} {σ s : tm_S} (hrn : tv_Snd (tc_T v) tz_rn) (k : Int32) (h : th_RI v σ s) : WM 38 240 [.ref 11, .int k] s (fun r s' => (∃ z : Int32, r = some (.int z) ∧ (-1) ≤ z.toInt ∧ z.toInt ≤ 5) ∧ th_RI v σ s' ∧ ∀ f, tv_kd 11 f = some 0 → s'.1 11 f = s.1 11 f) := by
  refine WM.mono (hrn [.ref 11, .int k] s ⟨⟨_, rfl, by decide, by decide⟩, ⟨_, rfl, (tn_rng _).1, (tn_rng _).2⟩, trivial⟩ h.1) ?_
  intro r s' hq
  obtain ⟨h1, h2, h3⟩ := tq_rn hq
  exact ⟨h3, ⟨h1, tv_un_tr h.2 (tv_un_mo h2 (fun q hq => nomatch hq))⟩, fun f hf => tv_un_i h2 hf rfl⟩
theorem th_sg {v : Int} {σ s : tm_S} (hsg : tv_Snd (tc_T v) tz_sg) (k : Int32) (h : th_RI v σ s) : WM 38 241 [.ref 11, .int k] s (fun r s' => (∃ z : Int32, r = some (.int z)) ∧ th_RI v σ s' ∧ ∀ f, tv_kd 11 f = some 0 → s'.1 11 f = s.1 11 f) := by
  refine WM.mono (hsg [.ref 11, .int k] s ⟨⟨_, rfl, by decide, by decide⟩, ⟨_, rfl, (tn_rng _).1, (tn_rng _).2⟩, trivial⟩ h.1) ?_
  intro r s' hq
  obtain ⟨h1, h2, h3⟩ := tq_sg hq
  exact ⟨h3.elim (fun ⟨z, e, _⟩ => ⟨z, e⟩) (fun ⟨z, e, _⟩ => ⟨z, e⟩), ⟨h1, tv_un_tr h.2 (tv_un_mo h2 (fun q hq => nomatch hq))⟩, fun f hf => tv_un_i h2 hf rfl⟩
theorem th_RI_ar {v : Int} {σ s : tm_S} {p k : Nat} {x : Int32} {q : Nat × Nat} (h : th_RI v σ s) (hp : tt_shp[p]? = some (.inr q)) (hm : tv_mem [(11, 35), (11, 36), (11, 37), (11, 38), (11, 39), (11, 40), (11, 41), (11, 42), (67, 64), (68, 64), (69, 64), (70, 64), (71, 64), (72, 64)] p 64 = true) (h1 : (tv_ti (tc_T v) p k).1 ≤ x.toInt) (h2 : x.toInt ≤ (tv_ti (tc_T v) p k).2) : th_RI v σ (tm_sI s p k x) := ⟨tv_TY_sI h.1 h1 h2, tv_un_tr h.2 (tv_un_ar hp hm)⟩
theorem th_RI_f {v : Int} {σ s : tm_S} {f : Nat} {x : Int32} (h : th_RI v σ s) (hm : tv_mem [(11, 35), (11, 36), (11, 37), (11, 38), (11, 39), (11, 40), (11, 41), (11, 42), (67, 64), (68, 64), (69, 64), (70, 64), (71, 64), (72, 64)] 11 f = true) (h1 : (tv_ti (tc_T v) 11 f).1 ≤ x.toInt) (h2 : x.toInt ≤ (tv_ti (tc_T v) 11 f).2) : th_RI v σ (tm_sI s 11 f x) := ⟨tv_TY_sI h.1 h1 h2, tv_un_tr h.2 (tv_un_fI hm)⟩
set_option maxRecDepth 100000 in
set_option maxHeartbeats 4000000 in
theorem th_rrow {v : Int} {σ s : tm_S} (hfl : tv_Snd (tc_T v) tz_fl) (hrn : tv_Snd (tc_T v) tz_rn) (hsg : tv_Snd (tc_T v) tz_sg) (R : th_RI v σ s) (hv : v ≤ 12) : WM 39 238 [.ref 11] s (fun r s' => th_RI v σ s' ∧ (r = some (.int 0) ∨ (r = some (.int 1) ∧ (s'.1 11 41).toInt = (s.1 11 41).toInt + 1 ∧ s'.1 11 42 = s.1 11 42))) := by
  have gR : 0 ≤ (s.1 11 41).toInt ∧ (s.1 11 41).toInt ≤ 6 := R.1.1 11 41
  have k98 : (s.1 11 41).toInt < 6 → ∀ (k m : Nat) (nm : Int32) (t : tm_S), m < 4096 → th_RI v σ t → t.1 11 41 = s.1 11 41 → t.1 11 42 = s.1 11 42 → (t.1 11 37 = 6 → 0 ≤ (t.1 11 38).toInt) → 12 ≤ th_pc m + k → WP 39 238 98 [(3, .int (nI (th_pc m))), (2, .int (nI m)), (1, .int nm), (0, .ref 11)] [] t (fun r s' => th_RI v σ s' ∧ (r = some (.int 0) ∨ (r = some (.int 1) ∧ (s'.1 11 41).toInt = (s.1 11 41).toInt + 1 ∧ s'.1 11 42 = s.1 11 42))) := by
    intro g6 k
    induction k with
    | zero =>
      intro m nm t hm Rt at_ ct_ wt hk
      refine wp_lda rfl tm_m3 ?_
      refine wq_geti rfl rfl (f := 37) rfl rfl (Or.inl rfl) ?_
      refine wq_con (x := 6) rfl (by decide) ?_
      refine wq_icne rfl (fun h104 => ?_) (fun h104 => ?_)
      · refine wp_lda rfl tm_m3 ?_
        refine wq_con (x := 59) rfl (by decide) ?_
        refine wq_calv [.int 59] rfl rfl rfl rfl rfl rfl rfl rfl rfl (th_sg hsg 59 Rt) ?_
        rintro _ s177 ⟨⟨z177, rfl⟩, Rs177, es177⟩
        have as177 := es177 41 rfl
        have cs177 := es177 42 rfl
        refine wq_ifne rfl (fun h180 => ?_) (fun h180 => ?_)
        · refine wp_ldi rfl tm_m0 ?_
          refine wp_lda rfl tm_m3 ?_
          refine wq_geti rfl rfl (f := 1) rfl rfl (Or.inl rfl) ?_
          refine wq_icge rfl (fun h194 => ?_) (fun h194 => ?_)
          · have g194 : (s177.1 11 1).toInt ≤ (nI (th_pc m)).toInt := tn_leI.mp h194
            refine wp_lda rfl tm_m3 ?_
            refine wq_getr (p := 67) rfl rfl (f := 43) rfl rfl ?_
            refine wp_lda rfl tm_m3 ?_
            refine wq_geti rfl rfl (f := 41) rfl rfl (Or.inl rfl) ?_
            refine wp_ldi rfl tm_m2 ?_
            refine wp_iast rfl rfl (tn_in (by rw [as177, at_]; omega) (by rw [as177, at_]; show _ < (6 : Int); omega)) ?_
            refine wp_lda rfl tm_m3 ?_
            refine wp_lda rfl tm_m3 ?_
            refine wq_geti rfl rfl (f := 41) rfl rfl (Or.inl rfl) ?_
            refine wq_con (x := 1) rfl (by decide) ?_
            refine wq_iadd rfl ?_
            refine wq_puti rfl rfl (f := 41) rfl rfl ?_
            refine wp_lda rfl tm_m3 ?_
            refine wq_calv [] rfl rfl rfl rfl rfl rfl rfl rfl rfl (th_nx (th_RI_f (th_RI_ar Rs177 rfl rfl (tn_rng _).1 (tn_rng _).2) (by decide) (by rw [tn_add1 (by rw [tm_gI, if_neg (fun e => absurd e.1 (by decide)), as177, at_]; omega), tm_gI, if_neg (fun e => absurd e.1 (by decide)), as177, at_]; show (0 : Int) ≤ _; omega) (by rw [tn_add1 (by rw [tm_gI, if_neg (fun e => absurd e.1 (by decide)), as177, at_]; omega), tm_gI, if_neg (fun e => absurd e.1 (by decide)), as177, at_]; show _ ≤ (6 : Int); omega))) ?_
            rintro _ s224 ⟨rfl, Rs224, as224, cs224, ws224⟩
            refine wq_con (x := 1) rfl (by decide) ?_
            refine wp_reti rfl (th_n1 rfl) ⟨Rs224, Or.inr ⟨rfl, ?_, ?_⟩⟩
            · rw [as224, tm_gI, if_pos ⟨rfl, rfl⟩, tn_add1 (by rw [tm_gI, if_neg (fun e => absurd e.1 (by decide)), as177, at_]; omega), tm_gI, if_neg (fun e => absurd e.1 (by decide)), as177, at_]
            · rw [cs224, tm_gI, if_neg (fun e => absurd e.2 (by decide)), tm_gI, if_neg (fun e => absurd e.1 (by decide)), cs177, ct_]
          · have g194 : ¬ (s177.1 11 1).toInt ≤ (nI (th_pc m)).toInt := fun g => h194 (tn_leI.mpr g)
            refine wp_lda rfl tm_m3 ?_
            refine wq_con (x := 3) rfl (by decide) ?_
            refine wq_calv [.int 3] rfl rfl rfl rfl rfl rfl rfl rfl rfl (th_fl hfl 3 Rs177) ?_
            rintro _ s199 ⟨rfl, Rs199⟩
            exact wp_reti rfl (th_n0 rfl) ⟨Rs199, Or.inl rfl⟩
        · have g180 : (z177).toInt = 0 := congrArg Int32.toInt (Classical.not_not.mp h180)
          refine wp_lda rfl tm_m3 ?_
          refine wq_con (x := 1) rfl (by decide) ?_
          refine wq_calv [.int 1] rfl rfl rfl rfl rfl rfl rfl rfl rfl (th_fl hfl 1 Rs177) ?_
          rintro _ s185 ⟨rfl, Rs185⟩
          exact wp_reti rfl (th_n0 rfl) ⟨Rs185, Or.inl rfl⟩
      · have g104 : (t.1 11 37).toInt = 6 := congrArg Int32.toInt (Classical.not_not.mp h104)
        refine wp_lda rfl tm_m3 ?_
        refine wq_geti rfl rfl (f := 38) rfl rfl (Or.inl rfl) ?_
        refine wp_lda rfl tm_m3 ?_
        refine wq_geti rfl rfl (f := 1) rfl rfl (Or.inl rfl) ?_
        refine wq_icge rfl (fun h115 => ?_) (fun h115 => ?_)
        · have g115 : (t.1 11 1).toInt ≤ (t.1 11 38).toInt := tn_leI.mp h115
          refine wp_lda rfl tm_m3 ?_
          refine wq_con (x := 3) rfl (by decide) ?_
          refine wq_calv [.int 3] rfl rfl rfl rfl rfl rfl rfl rfl rfl (th_fl hfl 3 Rt) ?_
          rintro _ s132 ⟨rfl, Rs132⟩
          exact wp_reti rfl (th_n0 rfl) ⟨Rs132, Or.inl rfl⟩
        · have g115 : ¬ (t.1 11 1).toInt ≤ (t.1 11 38).toInt := fun g => h115 (tn_leI.mpr g)
          refine wp_lda rfl tm_m3 ?_
          refine wp_ldi rfl tm_m1 ?_
          refine wp_lda rfl tm_m3 ?_
          refine wq_geti rfl rfl (f := 38) rfl rfl (Or.inl rfl) ?_
          refine wq_calv [.int (nI m), .int (t.1 11 38)] rfl rfl rfl rfl rfl rfl rfl rfl rfl (th_has) ?_
          rintro _ _ ⟨rfl, rfl⟩
          refine wq_ifeq rfl (fun h127 => ?_) (fun h127 => ?_)
          · have g127 : (th_hs (nI m) (t.1 11 38)).toInt = 0 := congrArg Int32.toInt h127
            have w0 := wt (Classical.not_not.mp h104)
            have gn : (t.1 11 1).toInt = v := by have := Rt.1.1 11 1; exact Int.le_antisymm this.2 this.1
            have ew0 := tn_cl w0
            have ew : nI (t.1 11 38).toNatClampNeg = t.1 11 38 := Int32.toInt_inj.mp (by rw [show (nI (t.1 11 38).toNatClampNeg).toInt = ((t.1 11 38).toNatClampNeg : Nat) from tn_ofNat (by omega), ew0])
            have hb : ¬ th_hs (nI m) (nI (t.1 11 38).toNatClampNeg) = 1 := by rw [ew, h127]; decide
            obtain ⟨x1, x2, x3⟩ := th_set1 hm (w := (t.1 11 38).toNatClampNeg) (by omega) hb
            have x4 := th_pc12 (m ||| 2 ^ (t.1 11 38).toNatClampNeg)
            exact absurd hk (by omega)
          · refine wp_lda rfl tm_m3 ?_
            refine wq_con (x := 3) rfl (by decide) ?_
            refine wq_calv [.int 3] rfl rfl rfl rfl rfl rfl rfl rfl rfl (th_fl hfl 3 Rt) ?_
            rintro _ s132 ⟨rfl, Rs132⟩
            exact wp_reti rfl (th_n0 rfl) ⟨Rs132, Or.inl rfl⟩
    | succ k ih =>
      intro m nm t hm Rt at_ ct_ wt hk
      refine wp_lda rfl tm_m3 ?_
      refine wq_geti rfl rfl (f := 37) rfl rfl (Or.inl rfl) ?_
      refine wq_con (x := 6) rfl (by decide) ?_
      refine wq_icne rfl (fun h104 => ?_) (fun h104 => ?_)
      · refine wp_lda rfl tm_m3 ?_
        refine wq_con (x := 59) rfl (by decide) ?_
        refine wq_calv [.int 59] rfl rfl rfl rfl rfl rfl rfl rfl rfl (th_sg hsg 59 Rt) ?_
        rintro _ s177 ⟨⟨z177, rfl⟩, Rs177, es177⟩
        have as177 := es177 41 rfl
        have cs177 := es177 42 rfl
        refine wq_ifne rfl (fun h180 => ?_) (fun h180 => ?_)
        · refine wp_ldi rfl tm_m0 ?_
          refine wp_lda rfl tm_m3 ?_
          refine wq_geti rfl rfl (f := 1) rfl rfl (Or.inl rfl) ?_
          refine wq_icge rfl (fun h194 => ?_) (fun h194 => ?_)
          · have g194 : (s177.1 11 1).toInt ≤ (nI (th_pc m)).toInt := tn_leI.mp h194
            refine wp_lda rfl tm_m3 ?_
            refine wq_getr (p := 67) rfl rfl (f := 43) rfl rfl ?_
            refine wp_lda rfl tm_m3 ?_
            refine wq_geti rfl rfl (f := 41) rfl rfl (Or.inl rfl) ?_
            refine wp_ldi rfl tm_m2 ?_
            refine wp_iast rfl rfl (tn_in (by rw [as177, at_]; omega) (by rw [as177, at_]; show _ < (6 : Int); omega)) ?_
            refine wp_lda rfl tm_m3 ?_
            refine wp_lda rfl tm_m3 ?_
            refine wq_geti rfl rfl (f := 41) rfl rfl (Or.inl rfl) ?_
            refine wq_con (x := 1) rfl (by decide) ?_
            refine wq_iadd rfl ?_
            refine wq_puti rfl rfl (f := 41) rfl rfl ?_
            refine wp_lda rfl tm_m3 ?_
            refine wq_calv [] rfl rfl rfl rfl rfl rfl rfl rfl rfl (th_nx (th_RI_f (th_RI_ar Rs177 rfl rfl (tn_rng _).1 (tn_rng _).2) (by decide) (by rw [tn_add1 (by rw [tm_gI, if_neg (fun e => absurd e.1 (by decide)), as177, at_]; omega), tm_gI, if_neg (fun e => absurd e.1 (by decide)), as177, at_]; show (0 : Int) ≤ _; omega) (by rw [tn_add1 (by rw [tm_gI, if_neg (fun e => absurd e.1 (by decide)), as177, at_]; omega), tm_gI, if_neg (fun e => absurd e.1 (by decide)), as177, at_]; show _ ≤ (6 : Int); omega))) ?_
            rintro _ s224 ⟨rfl, Rs224, as224, cs224, ws224⟩
            refine wq_con (x := 1) rfl (by decide) ?_
            refine wp_reti rfl (th_n1 rfl) ⟨Rs224, Or.inr ⟨rfl, ?_, ?_⟩⟩
            · rw [as224, tm_gI, if_pos ⟨rfl, rfl⟩, tn_add1 (by rw [tm_gI, if_neg (fun e => absurd e.1 (by decide)), as177, at_]; omega), tm_gI, if_neg (fun e => absurd e.1 (by decide)), as177, at_]
            · rw [cs224, tm_gI, if_neg (fun e => absurd e.2 (by decide)), tm_gI, if_neg (fun e => absurd e.1 (by decide)), cs177, ct_]
          · have g194 : ¬ (s177.1 11 1).toInt ≤ (nI (th_pc m)).toInt := fun g => h194 (tn_leI.mpr g)
            refine wp_lda rfl tm_m3 ?_
            refine wq_con (x := 3) rfl (by decide) ?_
            refine wq_calv [.int 3] rfl rfl rfl rfl rfl rfl rfl rfl rfl (th_fl hfl 3 Rs177) ?_
            rintro _ s199 ⟨rfl, Rs199⟩
            exact wp_reti rfl (th_n0 rfl) ⟨Rs199, Or.inl rfl⟩
        · have g180 : (z177).toInt = 0 := congrArg Int32.toInt (Classical.not_not.mp h180)
          refine wp_lda rfl tm_m3 ?_
          refine wq_con (x := 1) rfl (by decide) ?_
          refine wq_calv [.int 1] rfl rfl rfl rfl rfl rfl rfl rfl rfl (th_fl hfl 1 Rs177) ?_
          rintro _ s185 ⟨rfl, Rs185⟩
          exact wp_reti rfl (th_n0 rfl) ⟨Rs185, Or.inl rfl⟩
      · have g104 : (t.1 11 37).toInt = 6 := congrArg Int32.toInt (Classical.not_not.mp h104)
        refine wp_lda rfl tm_m3 ?_
        refine wq_geti rfl rfl (f := 38) rfl rfl (Or.inl rfl) ?_
        refine wp_lda rfl tm_m3 ?_
        refine wq_geti rfl rfl (f := 1) rfl rfl (Or.inl rfl) ?_
        refine wq_icge rfl (fun h115 => ?_) (fun h115 => ?_)
        · have g115 : (t.1 11 1).toInt ≤ (t.1 11 38).toInt := tn_leI.mp h115
          refine wp_lda rfl tm_m3 ?_
          refine wq_con (x := 3) rfl (by decide) ?_
          refine wq_calv [.int 3] rfl rfl rfl rfl rfl rfl rfl rfl rfl (th_fl hfl 3 Rt) ?_
          rintro _ s132 ⟨rfl, Rs132⟩
          exact wp_reti rfl (th_n0 rfl) ⟨Rs132, Or.inl rfl⟩
        · have g115 : ¬ (t.1 11 1).toInt ≤ (t.1 11 38).toInt := fun g => h115 (tn_leI.mpr g)
          refine wp_lda rfl tm_m3 ?_
          refine wp_ldi rfl tm_m1 ?_
          refine wp_lda rfl tm_m3 ?_
          refine wq_geti rfl rfl (f := 38) rfl rfl (Or.inl rfl) ?_
          refine wq_calv [.int (nI m), .int (t.1 11 38)] rfl rfl rfl rfl rfl rfl rfl rfl rfl (th_has) ?_
          rintro _ _ ⟨rfl, rfl⟩
          refine wq_ifeq rfl (fun h127 => ?_) (fun h127 => ?_)
          · have g127 : (th_hs (nI m) (t.1 11 38)).toInt = 0 := congrArg Int32.toInt h127
            have w0 := wt (Classical.not_not.mp h104)
            have gn : (t.1 11 1).toInt = v := by have := Rt.1.1 11 1; exact Int.le_antisymm this.2 this.1
            have ew0 := tn_cl w0
            have ew : nI (t.1 11 38).toNatClampNeg = t.1 11 38 := Int32.toInt_inj.mp (by rw [show (nI (t.1 11 38).toNatClampNeg).toInt = ((t.1 11 38).toNatClampNeg : Nat) from tn_ofNat (by omega), ew0])
            have hb : ¬ th_hs (nI m) (nI (t.1 11 38).toNatClampNeg) = 1 := by rw [ew, h127]; decide
            obtain ⟨x1, x2, x3⟩ := th_set1 hm (w := (t.1 11 38).toNatClampNeg) (by omega) hb
            have x4 := th_pc12 (m ||| 2 ^ (t.1 11 38).toNatClampNeg)
            have y1 : (12 * t.1 11 41).toInt = 12 * (t.1 11 41).toInt := by rw [tn_mul (by show -2147483648 ≤ 12 * (t.1 11 41).toInt; rw [at_]; omega) (by show 12 * (t.1 11 41).toInt ≤ 2147483647; rw [at_]; omega)]; rfl
            have gt : (t.1 11 41).toInt = (s.1 11 41).toInt := congrArg Int32.toInt at_
            have y0 : (nI (th_pc m)).toInt = (th_pc m : Nat) := tn_ofNat (by omega)
            have y2 : (12 * t.1 11 41 + nI (th_pc m)).toInt = 12 * (t.1 11 41).toInt + (th_pc m : Nat) := by rw [tn_add (by rw [y1, y0, at_]; omega) (by rw [y1, y0, at_]; omega), y1, y0]
            refine wp_lda rfl tm_m3 ?_
            refine wq_getr (p := 68) rfl rfl (f := 44) rfl rfl ?_
            refine wq_con (x := 12) rfl (by decide) ?_
            refine wp_lda rfl tm_m3 ?_
            refine wq_geti rfl rfl (f := 41) rfl rfl (Or.inl rfl) ?_
            refine wq_imul rfl ?_
            refine wp_ldi rfl tm_m0 ?_
            refine wq_iadd rfl ?_
            refine wp_lda rfl tm_m3 ?_
            refine wq_geti rfl rfl (f := 38) rfl rfl (Or.inl rfl) ?_
            refine wp_iast rfl rfl (tn_in (by rw [y2]; omega) (by rw [y2, at_]; show _ < (72 : Int); omega)) ?_
            refine wp_ldi rfl tm_m1 ?_
            refine wq_con (x := 1) rfl (by decide) ?_
            refine wp_lda rfl tm_m3 ?_
            refine wq_geti rfl rfl (f := 38) rfl rfl (Or.inl rfl) ?_
            rw [tm_gI, if_neg (fun e => absurd e.1 (by decide))]
            refine wq_ishl rfl ?_
            refine wq_ior rfl ?_
            refine wq_sti [(2, .int ((nI m) ||| (1 <<< ((t.1 11 38) &&& 31)))), (3, .int (nI (th_pc m))), (1, .int nm), (0, .ref 11)] rfl rfl ?_
            refine wp_ldi rfl tm_m1 ?_
            refine wq_con (x := 1) rfl (by decide) ?_
            refine wq_iadd rfl ?_
            refine wq_sti [(3, .int ((nI (th_pc m)) + 1)), (2, .int ((nI m) ||| (1 <<< ((t.1 11 38) &&& 31)))), (1, .int nm), (0, .ref 11)] rfl rfl ?_
            refine wp_lda rfl tm_m3 ?_
            refine wq_calv [] rfl rfl rfl rfl rfl rfl rfl rfl rfl (th_nx (th_RI_ar Rt rfl rfl (tn_rng _).1 (tn_rng _).2)) ?_
            rintro _ s168 ⟨rfl, Rs168, as168, cs168, ws168⟩
            refine wp_go rfl ?_
            rw [show nI m ||| (1 <<< (t.1 11 38 &&& 31)) = nI (m ||| 2 ^ (t.1 11 38).toNatClampNeg) by rw [← x1, ew], show nI (th_pc m) + 1 = nI (th_pc (m ||| 2 ^ (t.1 11 38).toNatClampNeg)) by rw [x3]; exact Int32.toInt_inj.mp (by rw [tn_add1 (by omega), y0, show (nI (th_pc m + 1)).toInt = ((th_pc m + 1 : Nat) : Int) from tn_ofNat (by omega)]; omega)]
            exact WP.less (ih (m ||| 2 ^ (t.1 11 38).toNatClampNeg) nm s168 x2 Rs168 (by rw [as168, tm_gI, if_neg (fun e => absurd e.1 (by decide)), at_]) (by rw [cs168, tm_gI, if_neg (fun e => absurd e.1 (by decide)), ct_]) ws168 (by omega)) (by simp)
          · refine wp_lda rfl tm_m3 ?_
            refine wq_con (x := 3) rfl (by decide) ?_
            refine wq_calv [.int 3] rfl rfl rfl rfl rfl rfl rfl rfl rfl (th_fl hfl 3 Rt) ?_
            rintro _ s132 ⟨rfl, Rs132⟩
            exact wp_reti rfl (th_n0 rfl) ⟨Rs132, Or.inl rfl⟩
  show WP 39 238 0 [(0, .ref 11)] [] s _
  refine wp_lda rfl tm_m0 ?_
  refine wq_geti rfl rfl (f := 41) rfl rfl (Or.inl rfl) ?_
  refine wq_con (x := 6) rfl (by decide) ?_
  refine wq_icne rfl (fun h6 => ?_) (fun h6 => ?_)
  · have g6 : (s.1 11 41).toInt < 6 := by
      have : ¬ (s.1 11 41).toInt = 6 := fun e => h6 (Int32.toInt_inj.mp e)
      omega
    refine wp_lda rfl tm_m0 ?_
    refine wq_calv [] rfl rfl rfl rfl rfl rfl rfl rfl rfl (th_nx R) ?_
    rintro _ s16 ⟨rfl, Rs16, as16, cs16, ws16⟩
    refine wp_lda rfl tm_m0 ?_
    refine wq_geti rfl rfl (f := 37) rfl rfl (Or.inl rfl) ?_
    refine wq_con (x := 5) rfl (by decide) ?_
    refine wq_iceq rfl (fun h24 => ?_) (fun h24 => ?_)
    · have g24 : (s16.1 11 37).toInt = 5 := congrArg Int32.toInt h24
      refine wp_lda rfl tm_m0 ?_
      refine wp_lda rfl tm_m0 ?_
      refine wq_geti rfl rfl (f := 38) rfl rfl (Or.inl rfl) ?_
      refine wq_calv [.int (s16.1 11 38)] rfl rfl rfl rfl rfl rfl rfl rfl rfl (th_rn hrn (s16.1 11 38) Rs16) ?_
      rintro _ s38 ⟨⟨z38, rfl, lz38, uz38⟩, Rs38, es38⟩
      have as38 := es38 41 rfl
      have cs38 := es38 42 rfl
      refine wq_con (x := (-1)) rfl (by decide) ?_
      refine wq_iceq rfl (fun h42 => ?_) (fun h42 => ?_)
      · have g42 : (z38).toInt = (-1) := congrArg Int32.toInt h42
        refine wp_lda rfl tm_m0 ?_
        refine wq_geti rfl rfl (f := 38) rfl rfl (Or.inl rfl) ?_
        refine wq_sti [(1, .int (s38.1 11 38)), (0, .ref 11)] rfl rfl ?_
        refine wp_lda rfl tm_m1 ?_
        refine wq_calv [] rfl rfl rfl rfl rfl rfl rfl rfl rfl (th_nx Rs38) ?_
        rintro _ s57 ⟨rfl, Rs57, as57, cs57, ws57⟩
        refine wp_lda rfl tm_m1 ?_
        refine wq_con (x := 61) rfl (by decide) ?_
        refine wq_calv [.int 61] rfl rfl rfl rfl rfl rfl rfl rfl rfl (th_sg hsg 61 Rs57) ?_
        rintro _ s63 ⟨⟨z63, rfl⟩, Rs63, es63⟩
        have as63 := es63 41 rfl
        have cs63 := es63 42 rfl
        refine wq_ifne rfl (fun h66 => ?_) (fun h66 => ?_)
        · refine wp_lda rfl tm_m1 ?_
          refine wq_calv [] rfl rfl rfl rfl rfl rfl rfl rfl rfl (th_nx Rs63) ?_
          rintro _ s76 ⟨rfl, Rs76, as76, cs76, ws76⟩
          refine wp_lda rfl tm_m1 ?_
          refine wq_geti rfl rfl (f := 37) rfl rfl (Or.inl rfl) ?_
          refine wq_con (x := 6) rfl (by decide) ?_
          refine wq_iceq rfl (fun h85 => ?_) (fun h85 => ?_)
          · have g85 : (s76.1 11 37).toInt = 6 := congrArg Int32.toInt h85
            refine wq_con (x := 0) rfl (by decide) ?_
            refine wq_sti [(2, .int 0), (1, .int (s38.1 11 38)), (0, .ref 11)] rfl rfl ?_
            refine wq_con (x := 0) rfl (by decide) ?_
            refine wq_sti [(3, .int 0), (2, .int 0), (1, .int (s38.1 11 38)), (0, .ref 11)] rfl rfl ?_
            exact WP.less (k98 g6 12 0 (s38.1 11 38) s76 (by decide) Rs76 (by rw [as76, as63, as57, as38, as16]) (by rw [cs76, cs63, cs57, cs38, cs16]) ws76 (by decide)) (by simp [th_pc, nI_0])
          · refine wp_lda rfl tm_m1 ?_
            refine wq_con (x := 1) rfl (by decide) ?_
            refine wq_calv [.int 1] rfl rfl rfl rfl rfl rfl rfl rfl rfl (th_fl hfl 1 Rs76) ?_
            rintro _ s90 ⟨rfl, Rs90⟩
            exact wp_reti rfl (th_n0 rfl) ⟨Rs90, Or.inl rfl⟩
        · have g66 : (z63).toInt = 0 := congrArg Int32.toInt (Classical.not_not.mp h66)
          refine wp_lda rfl tm_m1 ?_
          refine wq_con (x := 1) rfl (by decide) ?_
          refine wq_calv [.int 1] rfl rfl rfl rfl rfl rfl rfl rfl rfl (th_fl hfl 1 Rs63) ?_
          rintro _ s71 ⟨rfl, Rs71⟩
          exact wp_reti rfl (th_n0 rfl) ⟨Rs71, Or.inl rfl⟩
      · refine wp_lda rfl tm_m0 ?_
        refine wq_con (x := 2) rfl (by decide) ?_
        refine wq_calv [.int 2] rfl rfl rfl rfl rfl rfl rfl rfl rfl (th_fl hfl 2 Rs38) ?_
        rintro _ s47 ⟨rfl, Rs47⟩
        exact wp_reti rfl (th_n0 rfl) ⟨Rs47, Or.inl rfl⟩
    · refine wp_lda rfl tm_m0 ?_
      refine wq_con (x := 1) rfl (by decide) ?_
      refine wq_calv [.int 1] rfl rfl rfl rfl rfl rfl rfl rfl rfl (th_fl hfl 1 Rs16) ?_
      rintro _ s29 ⟨rfl, Rs29⟩
      exact wp_reti rfl (th_n0 rfl) ⟨Rs29, Or.inl rfl⟩
  · have g6 : (s.1 11 41).toInt = 6 := congrArg Int32.toInt (Classical.not_not.mp h6)
    refine wp_lda rfl tm_m0 ?_
    refine wq_con (x := 4) rfl (by decide) ?_
    refine wq_calv [.int 4] rfl rfl rfl rfl rfl rfl rfl rfl rfl (th_fl hfl 4 R) ?_
    rintro _ s11 ⟨rfl, Rs11⟩
    exact wp_reti rfl (th_n0 rfl) ⟨Rs11, Or.inl rfl⟩
set_option maxRecDepth 100000 in
set_option maxHeartbeats 4000000 in
theorem th_rvoice {v : Int} {σ s : tm_S} (hfl : tv_Snd (tc_T v) tz_fl) (hrn : tv_Snd (tc_T v) tz_rn) (hsg : tv_Snd (tc_T v) tz_sg) (R : th_RI v σ s) : WM 39 242 [.ref 11] s (fun r s' => th_RI v σ s' ∧ (r = some (.int 0) ∨ (r = some (.int 1) ∧ (s'.1 11 42).toInt = (s.1 11 42).toInt + 1))) := by
  have gV : 0 ≤ (s.1 11 42).toInt ∧ (s.1 11 42).toInt ≤ 8 := R.1.1 11 42
  have k122 : (s.1 11 42).toInt < 8 → ∀ (z r1 : Int32) (t : tm_S), (-1) ≤ z.toInt → z.toInt ≤ 3 → 0 ≤ r1.toInt → r1.toInt ≤ 5 → th_RI v σ t → t.1 11 42 = s.1 11 42 → WP 39 242 122 [(1, .int r1), (0, .ref 11)] [.int z] t (fun r s' => th_RI v σ s' ∧ (r = some (.int 0) ∨ (r = some (.int 1) ∧ (s'.1 11 42).toInt = (s.1 11 42).toInt + 1))) := by
    intro g8 z r1 t z1 z2 r2 r3 Rt ct_
    refine wq_sti [(2, .int z), (1, .int r1), (0, .ref 11)] rfl rfl ?_
    refine wp_ldi rfl tm_m0 ?_
    refine wq_con (x := (-1)) rfl (by decide) ?_
    refine wq_icne rfl (fun h125 => ?_) (fun h125 => ?_)
    · have zz : 0 ≤ z.toInt := by
        have : ¬ z.toInt = -1 := fun e => h125 (Int32.toInt_inj.mp e)
        omega
      refine wp_lda rfl tm_m2 ?_
      refine wq_calv [] rfl rfl rfl rfl rfl rfl rfl rfl rfl (th_nx Rt) ?_
      rintro _ s135 ⟨rfl, Rs135, as135, cs135, ws135⟩
      refine wp_lda rfl tm_m2 ?_
      refine wq_geti rfl rfl (f := 37) rfl rfl (Or.inl rfl) ?_
      refine wq_con (x := 6) rfl (by decide) ?_
      refine wq_iceq rfl (fun h144 => ?_) (fun h144 => ?_)
      · have g144 : (s135.1 11 37).toInt = 6 := congrArg Int32.toInt h144
        refine wp_lda rfl tm_m2 ?_
        refine wq_geti rfl rfl (f := 38) rfl rfl (Or.inl rfl) ?_
        refine wp_lda rfl tm_m2 ?_
        refine wq_geti rfl rfl (f := 1) rfl rfl (Or.inl rfl) ?_
        refine wq_iclt rfl (fun h161 => ?_) (fun h161 => ?_)
        · have g161 : (s135.1 11 38).toInt < (s135.1 11 1).toInt := tn_ltI.mp h161
          refine wp_lda rfl tm_m2 ?_
          refine wq_getr (p := 71) rfl rfl (f := 47) rfl rfl ?_
          refine wp_lda rfl tm_m2 ?_
          refine wq_geti rfl rfl (f := 42) rfl rfl (Or.inl rfl) ?_
          refine wp_lda rfl tm_m2 ?_
          refine wq_geti rfl rfl (f := 38) rfl rfl (Or.inl rfl) ?_
          refine wp_iast rfl rfl (tn_in (by rw [cs135, ct_]; omega) (by rw [cs135, ct_]; show _ < (8 : Int); omega)) ?_
          refine wp_lda rfl tm_m2 ?_
          refine wq_calv [] rfl rfl rfl rfl rfl rfl rfl rfl rfl (th_nx (th_RI_ar Rs135 rfl rfl (tn_rng _).1 (tn_rng _).2)) ?_
          rintro _ s184 ⟨rfl, Rs184, as184, cs184, ws184⟩
          refine wp_lda rfl tm_m2 ?_
          refine wq_geti rfl rfl (f := 37) rfl rfl (Or.inl rfl) ?_
          refine wq_con (x := 4) rfl (by decide) ?_
          refine wq_iceq rfl (fun h192 => ?_) (fun h192 => ?_)
          · have g192 : (s184.1 11 37).toInt = 4 := congrArg Int32.toInt h192
            refine wp_lda rfl tm_m2 ?_
            refine wq_calv [] rfl rfl rfl rfl rfl rfl rfl rfl rfl (th_nx Rs184) ?_
            rintro _ s202 ⟨rfl, Rs202, as202, cs202, ws202⟩
            refine wp_lda rfl tm_m2 ?_
            refine wq_geti rfl rfl (f := 37) rfl rfl (Or.inl rfl) ?_
            refine wq_con (x := 6) rfl (by decide) ?_
            refine wq_iceq rfl (fun h211 => ?_) (fun h211 => ?_)
            · have g211 : (s202.1 11 37).toInt = 6 := congrArg Int32.toInt h211
              refine wp_lda rfl tm_m2 ?_
              refine wq_geti rfl rfl (f := 38) rfl rfl (Or.inl rfl) ?_
              refine wq_con (x := 40) rfl (by decide) ?_
              refine wq_icle rfl (fun h226 => ?_) (fun h226 => ?_)
              · have g226 : (s202.1 11 38).toInt ≤ 40 := tn_leI.mp h226
                refine wp_lda rfl tm_m2 ?_
                refine wq_getr (p := 72) rfl rfl (f := 48) rfl rfl ?_
                refine wp_lda rfl tm_m2 ?_
                refine wq_geti rfl rfl (f := 42) rfl rfl (Or.inl rfl) ?_
                refine wp_lda rfl tm_m2 ?_
                refine wq_geti rfl rfl (f := 38) rfl rfl (Or.inl rfl) ?_
                refine wp_iast rfl rfl (tn_in (by rw [cs202, cs184, tm_gI, if_neg (fun e => absurd e.1 (by decide)), cs135, ct_]; omega) (by rw [cs202, cs184, tm_gI, if_neg (fun e => absurd e.1 (by decide)), cs135, ct_]; show _ < (8 : Int); omega)) ?_
                refine wp_lda rfl tm_m2 ?_
                refine wq_calv [] rfl rfl rfl rfl rfl rfl rfl rfl rfl (th_nx (th_RI_ar Rs202 rfl rfl (by show (0 : Int) ≤ _; exact ws202 h211) (by show _ ≤ (40 : Int); exact g226))) ?_
                rintro _ s249 ⟨rfl, Rs249, as249, cs249, ws249⟩
                refine wp_lda rfl tm_m2 ?_
                refine wq_con (x := 59) rfl (by decide) ?_
                refine wq_calv [.int 59] rfl rfl rfl rfl rfl rfl rfl rfl rfl (th_sg hsg 59 Rs249) ?_
                rintro _ s255 ⟨⟨z255, rfl⟩, Rs255, es255⟩
                have as255 := es255 41 rfl
                have cs255 := es255 42 rfl
                refine wq_ifne rfl (fun h258 => ?_) (fun h258 => ?_)
                · refine wp_lda rfl tm_m2 ?_
                  refine wq_getr (p := 69) rfl rfl (f := 45) rfl rfl ?_
                  refine wp_lda rfl tm_m2 ?_
                  refine wq_geti rfl rfl (f := 42) rfl rfl (Or.inl rfl) ?_
                  refine wp_ldi rfl tm_m1 ?_
                  refine wp_iast rfl rfl (tn_in (by rw [cs255, cs249, tm_gI, if_neg (fun e => absurd e.1 (by decide)), cs202, cs184, tm_gI, if_neg (fun e => absurd e.1 (by decide)), cs135, ct_]; omega) (by rw [cs255, cs249, tm_gI, if_neg (fun e => absurd e.1 (by decide)), cs202, cs184, tm_gI, if_neg (fun e => absurd e.1 (by decide)), cs135, ct_]; show _ < (8 : Int); omega)) ?_
                  refine wp_lda rfl tm_m2 ?_
                  refine wq_getr (p := 70) rfl rfl (f := 46) rfl rfl ?_
                  refine wp_lda rfl tm_m2 ?_
                  refine wq_geti rfl rfl (f := 42) rfl rfl (Or.inl rfl) ?_
                  refine wp_ldi rfl tm_m0 ?_
                  refine wp_iast rfl rfl (tn_in (by rw [tm_gI, if_neg (fun e => absurd e.1 (by decide)), cs255, cs249, tm_gI, if_neg (fun e => absurd e.1 (by decide)), cs202, cs184, tm_gI, if_neg (fun e => absurd e.1 (by decide)), cs135, ct_]; omega) (by rw [tm_gI, if_neg (fun e => absurd e.1 (by decide)), cs255, cs249, tm_gI, if_neg (fun e => absurd e.1 (by decide)), cs202, cs184, tm_gI, if_neg (fun e => absurd e.1 (by decide)), cs135, ct_]; show _ < (8 : Int); omega)) ?_
                  refine wp_lda rfl tm_m2 ?_
                  refine wp_lda rfl tm_m2 ?_
                  refine wq_geti rfl rfl (f := 42) rfl rfl (Or.inl rfl) ?_
                  refine wq_con (x := 1) rfl (by decide) ?_
                  refine wq_iadd rfl ?_
                  refine wq_puti rfl rfl (f := 42) rfl rfl ?_
                  refine wp_lda rfl tm_m2 ?_
                  refine wq_calv [] rfl rfl rfl rfl rfl rfl rfl rfl rfl (th_nx (th_RI_f (th_RI_ar (th_RI_ar Rs255 rfl rfl (by show (0 : Int) ≤ _; exact r2) (by show _ ≤ (5 : Int); exact r3)) rfl rfl (by show (0 : Int) ≤ _; exact zz) (by show _ ≤ (3 : Int); exact z2)) (by decide) (by rw [tn_add1 (by rw [tm_gI, if_neg (fun e => absurd e.1 (by decide)), tm_gI, if_neg (fun e => absurd e.1 (by decide)), cs255, cs249, tm_gI, if_neg (fun e => absurd e.1 (by decide)), cs202, cs184, tm_gI, if_neg (fun e => absurd e.1 (by decide)), cs135, ct_]; omega), tm_gI, if_neg (fun e => absurd e.1 (by decide)), tm_gI, if_neg (fun e => absurd e.1 (by decide)), cs255, cs249, tm_gI, if_neg (fun e => absurd e.1 (by decide)), cs202, cs184, tm_gI, if_neg (fun e => absurd e.1 (by decide)), cs135, ct_]; show (0 : Int) ≤ _; omega) (by rw [tn_add1 (by rw [tm_gI, if_neg (fun e => absurd e.1 (by decide)), tm_gI, if_neg (fun e => absurd e.1 (by decide)), cs255, cs249, tm_gI, if_neg (fun e => absurd e.1 (by decide)), cs202, cs184, tm_gI, if_neg (fun e => absurd e.1 (by decide)), cs135, ct_]; omega), tm_gI, if_neg (fun e => absurd e.1 (by decide)), tm_gI, if_neg (fun e => absurd e.1 (by decide)), cs255, cs249, tm_gI, if_neg (fun e => absurd e.1 (by decide)), cs202, cs184, tm_gI, if_neg (fun e => absurd e.1 (by decide)), cs135, ct_]; show _ ≤ (8 : Int); omega))) ?_
                  rintro _ s298 ⟨rfl, Rs298, as298, cs298, ws298⟩
                  refine wq_con (x := 1) rfl (by decide) ?_
                  refine wp_reti rfl (th_n1 rfl) ⟨Rs298, Or.inr ⟨rfl, ?_⟩⟩
                  rw [cs298, tm_gI, if_pos ⟨rfl, rfl⟩, tn_add1 (by rw [tm_gI, if_neg (fun e => absurd e.1 (by decide)), tm_gI, if_neg (fun e => absurd e.1 (by decide)), cs255, cs249, tm_gI, if_neg (fun e => absurd e.1 (by decide)), cs202, cs184, tm_gI, if_neg (fun e => absurd e.1 (by decide)), cs135, ct_]; omega), tm_gI, if_neg (fun e => absurd e.1 (by decide)), tm_gI, if_neg (fun e => absurd e.1 (by decide)), cs255, cs249, tm_gI, if_neg (fun e => absurd e.1 (by decide)), cs202, cs184, tm_gI, if_neg (fun e => absurd e.1 (by decide)), cs135, ct_]
                · have g258 : (z255).toInt = 0 := congrArg Int32.toInt (Classical.not_not.mp h258)
                  refine wp_lda rfl tm_m2 ?_
                  refine wq_con (x := 1) rfl (by decide) ?_
                  refine wq_calv [.int 1] rfl rfl rfl rfl rfl rfl rfl rfl rfl (th_fl hfl 1 Rs255) ?_
                  rintro _ s263 ⟨rfl, Rs263⟩
                  exact wp_reti rfl (th_n0 rfl) ⟨Rs263, Or.inl rfl⟩
              · have g226 : ¬ (s202.1 11 38).toInt ≤ 40 := fun g => h226 (tn_leI.mpr g)
                refine wp_lda rfl tm_m2 ?_
                refine wq_con (x := 3) rfl (by decide) ?_
                refine wq_calv [.int 3] rfl rfl rfl rfl rfl rfl rfl rfl rfl (th_fl hfl 3 Rs202) ?_
                rintro _ s231 ⟨rfl, Rs231⟩
                exact wp_reti rfl (th_n0 rfl) ⟨Rs231, Or.inl rfl⟩
            · refine wp_lda rfl tm_m2 ?_
              refine wq_con (x := 1) rfl (by decide) ?_
              refine wq_calv [.int 1] rfl rfl rfl rfl rfl rfl rfl rfl rfl (th_fl hfl 1 Rs202) ?_
              rintro _ s216 ⟨rfl, Rs216⟩
              exact wp_reti rfl (th_n0 rfl) ⟨Rs216, Or.inl rfl⟩
          · refine wp_lda rfl tm_m2 ?_
            refine wq_con (x := 1) rfl (by decide) ?_
            refine wq_calv [.int 1] rfl rfl rfl rfl rfl rfl rfl rfl rfl (th_fl hfl 1 Rs184) ?_
            rintro _ s197 ⟨rfl, Rs197⟩
            exact wp_reti rfl (th_n0 rfl) ⟨Rs197, Or.inl rfl⟩
        · have g161 : ¬ (s135.1 11 38).toInt < (s135.1 11 1).toInt := fun g => h161 (tn_ltI.mpr g)
          refine wp_lda rfl tm_m2 ?_
          refine wq_con (x := 3) rfl (by decide) ?_
          refine wq_calv [.int 3] rfl rfl rfl rfl rfl rfl rfl rfl rfl (th_fl hfl 3 Rs135) ?_
          rintro _ s166 ⟨rfl, Rs166⟩
          exact wp_reti rfl (th_n0 rfl) ⟨Rs166, Or.inl rfl⟩
      · refine wp_lda rfl tm_m2 ?_
        refine wq_con (x := 1) rfl (by decide) ?_
        refine wq_calv [.int 1] rfl rfl rfl rfl rfl rfl rfl rfl rfl (th_fl hfl 1 Rs135) ?_
        rintro _ s149 ⟨rfl, Rs149⟩
        exact wp_reti rfl (th_n0 rfl) ⟨Rs149, Or.inl rfl⟩
    · have g125 : (z).toInt = (-1) := congrArg Int32.toInt (Classical.not_not.mp h125)
      refine wp_lda rfl tm_m2 ?_
      refine wq_con (x := 1) rfl (by decide) ?_
      refine wq_calv [.int 1] rfl rfl rfl rfl rfl rfl rfl rfl rfl (th_fl hfl 1 Rt) ?_
      rintro _ s130 ⟨rfl, Rs130⟩
      exact wp_reti rfl (th_n0 rfl) ⟨Rs130, Or.inl rfl⟩
  show WP 39 242 0 [(0, .ref 11)] [] s _
  refine wp_lda rfl tm_m0 ?_
  refine wq_geti rfl rfl (f := 42) rfl rfl (Or.inl rfl) ?_
  refine wq_con (x := 8) rfl (by decide) ?_
  refine wq_icne rfl (fun h6 => ?_) (fun h6 => ?_)
  · have g8 : (s.1 11 42).toInt < 8 := by
      have : ¬ (s.1 11 42).toInt = 8 := fun e => h6 (Int32.toInt_inj.mp e)
      omega
    refine wp_lda rfl tm_m0 ?_
    refine wq_calv [] rfl rfl rfl rfl rfl rfl rfl rfl rfl (th_nx R) ?_
    rintro _ s16 ⟨rfl, Rs16, as16, cs16, ws16⟩
    refine wp_lda rfl tm_m0 ?_
    refine wq_geti rfl rfl (f := 37) rfl rfl (Or.inl rfl) ?_
    refine wq_con (x := 5) rfl (by decide) ?_
    refine wq_iceq rfl (fun h24 => ?_) (fun h24 => ?_)
    · have g24 : (s16.1 11 37).toInt = 5 := congrArg Int32.toInt h24
      refine wp_lda rfl tm_m0 ?_
      refine wp_lda rfl tm_m0 ?_
      refine wq_geti rfl rfl (f := 38) rfl rfl (Or.inl rfl) ?_
      refine wq_calv [.int (s16.1 11 38)] rfl rfl rfl rfl rfl rfl rfl rfl rfl (th_rn hrn (s16.1 11 38) Rs16) ?_
      rintro _ s38 ⟨⟨z38, rfl, lz38, uz38⟩, Rs38, es38⟩
      have as38 := es38 41 rfl
      have cs38 := es38 42 rfl
      refine wq_sti [(1, .int z38), (0, .ref 11)] rfl rfl ?_
      refine wp_ldi rfl tm_m0 ?_
      refine wq_con (x := (-1)) rfl (by decide) ?_
      refine wq_icne rfl (fun h44 => ?_) (fun h44 => ?_)
      · have zz : 0 ≤ z38.toInt := by
          have : ¬ z38.toInt = -1 := fun e => h44 (Int32.toInt_inj.mp e)
          omega
        refine wp_lda rfl tm_m1 ?_
        refine wq_calv [] rfl rfl rfl rfl rfl rfl rfl rfl rfl (th_nx Rs38) ?_
        rintro _ s54 ⟨rfl, Rs54, as54, cs54, ws54⟩
        refine wp_lda rfl tm_m1 ?_
        refine wq_geti rfl rfl (f := 37) rfl rfl (Or.inl rfl) ?_
        refine wq_con (x := 5) rfl (by decide) ?_
        refine wq_iceq rfl (fun h62 => ?_) (fun h62 => ?_)
        · have g62 : (s54.1 11 37).toInt = 5 := congrArg Int32.toInt h62
          refine wp_lda rfl tm_m1 ?_
          refine wq_geti rfl rfl (f := 38) rfl rfl (Or.inl rfl) ?_
          refine wq_con (x := 112) rfl (by decide) ?_
          refine wq_icne rfl (fun h75 => ?_) (fun h75 => ?_)
          · refine wp_lda rfl tm_m1 ?_
            refine wq_geti rfl rfl (f := 38) rfl rfl (Or.inl rfl) ?_
            refine wq_con (x := 105) rfl (by decide) ?_
            refine wq_icne rfl (fun h88 => ?_) (fun h88 => ?_)
            · refine wp_lda rfl tm_m1 ?_
              refine wq_geti rfl rfl (f := 38) rfl rfl (Or.inl rfl) ?_
              refine wq_con (x := 114) rfl (by decide) ?_
              refine wq_icne rfl (fun h101 => ?_) (fun h101 => ?_)
              · refine wp_lda rfl tm_m1 ?_
                refine wq_geti rfl rfl (f := 38) rfl rfl (Or.inl rfl) ?_
                refine wq_con (x := 117) rfl (by decide) ?_
                refine wq_icne rfl (fun h114 => ?_) (fun h114 => ?_)
                · refine wq_con (x := (-1)) rfl (by decide) ?_
                  exact WP.less (k122 g8 (-1) z38 _ (by decide) (by decide) zz (by omega) Rs54 (by rw [cs54, cs38, cs16])) (by simp)
                · have g114 : (s54.1 11 38).toInt = 117 := congrArg Int32.toInt (Classical.not_not.mp h114)
                  refine wq_con (x := 3) rfl (by decide) ?_
                  refine wp_go rfl ?_
                  exact WP.less (k122 g8 3 z38 _ (by decide) (by decide) zz (by omega) Rs54 (by rw [cs54, cs38, cs16])) (by simp)
              · have g101 : (s54.1 11 38).toInt = 114 := congrArg Int32.toInt (Classical.not_not.mp h101)
                refine wq_con (x := 2) rfl (by decide) ?_
                refine wp_go rfl ?_
                exact WP.less (k122 g8 2 z38 _ (by decide) (by decide) zz (by omega) Rs54 (by rw [cs54, cs38, cs16])) (by simp)
            · have g88 : (s54.1 11 38).toInt = 105 := congrArg Int32.toInt (Classical.not_not.mp h88)
              refine wq_con (x := 1) rfl (by decide) ?_
              refine wp_go rfl ?_
              exact WP.less (k122 g8 1 z38 _ (by decide) (by decide) zz (by omega) Rs54 (by rw [cs54, cs38, cs16])) (by simp)
          · have g75 : (s54.1 11 38).toInt = 112 := congrArg Int32.toInt (Classical.not_not.mp h75)
            refine wq_con (x := 0) rfl (by decide) ?_
            refine wp_go rfl ?_
            exact WP.less (k122 g8 0 z38 _ (by decide) (by decide) zz (by omega) Rs54 (by rw [cs54, cs38, cs16])) (by simp)
        · refine wq_con (x := (-1)) rfl (by decide) ?_
          refine wp_go rfl ?_
          exact WP.less (k122 g8 (-1) z38 _ (by decide) (by decide) zz (by omega) Rs54 (by rw [cs54, cs38, cs16])) (by simp)
      · have g44 : (z38).toInt = (-1) := congrArg Int32.toInt (Classical.not_not.mp h44)
        refine wp_lda rfl tm_m1 ?_
        refine wq_con (x := 2) rfl (by decide) ?_
        refine wq_calv [.int 2] rfl rfl rfl rfl rfl rfl rfl rfl rfl (th_fl hfl 2 Rs38) ?_
        rintro _ s49 ⟨rfl, Rs49⟩
        exact wp_reti rfl (th_n0 rfl) ⟨Rs49, Or.inl rfl⟩
    · refine wp_lda rfl tm_m0 ?_
      refine wq_con (x := 1) rfl (by decide) ?_
      refine wq_calv [.int 1] rfl rfl rfl rfl rfl rfl rfl rfl rfl (th_fl hfl 1 Rs16) ?_
      rintro _ s29 ⟨rfl, Rs29⟩
      exact wp_reti rfl (th_n0 rfl) ⟨Rs29, Or.inl rfl⟩
  · have g6 : (s.1 11 42).toInt = 8 := congrArg Int32.toInt (Classical.not_not.mp h6)
    refine wp_lda rfl tm_m0 ?_
    refine wq_con (x := 4) rfl (by decide) ?_
    refine wq_calv [.int 4] rfl rfl rfl rfl rfl rfl rfl rfl rfl (th_fl hfl 4 R) ?_
    rintro _ s11 ⟨rfl, Rs11⟩
    exact wp_reti rfl (th_n0 rfl) ⟨Rs11, Or.inl rfl⟩
set_option maxRecDepth 100000 in
set_option maxHeartbeats 4000000 in
theorem th_reading {v : Int} {σ : tm_S} (hfl : tv_Snd (tc_T v) tz_fl) (hrn : tv_Snd (tc_T v) tz_rn) (hsg : tv_Snd (tc_T v) tz_sg) (hT : tv_TY (tc_T v) σ) (hv : v ≤ 12) : WM 40 233 [.ref 11] σ (fun r s' => th_RI v σ s' ∧ (r = some (.int 0) ∨ r = some (.int 1))) := by
  have k53 : ∀ s : tm_S, th_RI v σ s → WP 40 233 53 [(0, .ref 11)] [] s (fun r s' => th_RI v σ s' ∧ (r = some (.int 0) ∨ r = some (.int 1))) := by
    intro s R
    refine wp_lda rfl tm_m0 ?_
    refine wq_geti rfl rfl (f := 37) rfl rfl (Or.inl rfl) ?_
    refine wq_ifeq rfl (fun h57 => ?_) (fun h57 => ?_)
    · refine wq_con (x := 1) rfl (by decide) ?_
      refine wp_go rfl ?_
      exact wp_reti rfl (th_n1 rfl) ⟨R, Or.inr rfl⟩
    · refine wp_lda rfl tm_m0 ?_
      refine wq_con (x := 1) rfl (by decide) ?_
      refine wq_calv [.int 1] rfl rfl rfl rfl rfl rfl rfl rfl rfl (WM.deep (th_fl hfl 1 R) (by decide)) ?_
      rintro _ s62 ⟨rfl, Rs62⟩
      refine wq_ifeq rfl (fun h65 => ?_) (fun h65 => absurd rfl h65)
      refine wq_con (x := 0) rfl (by decide) ?_
      exact wp_reti rfl (th_n0 rfl) ⟨Rs62, Or.inl rfl⟩
  have k36 : ∀ (m : Nat) (s : tm_S), th_RI v σ s → 8 ≤ (s.1 11 42).toInt + m → WP 40 233 36 [(0, .ref 11)] [] s (fun r s' => th_RI v σ s' ∧ (r = some (.int 0) ∨ r = some (.int 1))) := by
    intro m
    induction m with
    | zero =>
      intro s R hm
      have gf : 0 ≤ (s.1 11 42).toInt ∧ (s.1 11 42).toInt ≤ 8 := R.1.1 11 42
      refine wp_lda rfl tm_m0 ?_
      refine wq_geti rfl rfl (f := 37) rfl rfl (Or.inl rfl) ?_
      refine wq_con (x := 3) rfl (by decide) ?_
      refine wq_icne rfl (fun h41 => ?_) (fun h41 => ?_)
      · exact k53 s R
      · refine wp_lda rfl tm_m0 ?_
        refine wq_calv [] rfl rfl rfl rfl rfl rfl rfl rfl rfl (th_rvoice hfl hrn hsg R) ?_
        rintro r s2 ⟨R2, hr⟩
        have gf2 : 0 ≤ (s2.1 11 42).toInt ∧ (s2.1 11 42).toInt ≤ 8 := R2.1.1 11 42
        rcases hr with rfl | ⟨rfl, hr⟩
        · refine wq_ifne rfl (fun e => absurd rfl e) (fun _ => ?_)
          refine wq_con (x := 0) rfl (by decide) ?_
          exact wp_reti rfl (th_n0 rfl) ⟨R2, Or.inl rfl⟩
        · refine wq_ifne rfl (fun _ => ?_) (fun e => absurd e (by decide))
          exact absurd hr (by omega)
    | succ m ih =>
      intro s R hm
      have gf : 0 ≤ (s.1 11 42).toInt ∧ (s.1 11 42).toInt ≤ 8 := R.1.1 11 42
      refine wp_lda rfl tm_m0 ?_
      refine wq_geti rfl rfl (f := 37) rfl rfl (Or.inl rfl) ?_
      refine wq_con (x := 3) rfl (by decide) ?_
      refine wq_icne rfl (fun h41 => ?_) (fun h41 => ?_)
      · exact k53 s R
      · refine wp_lda rfl tm_m0 ?_
        refine wq_calv [] rfl rfl rfl rfl rfl rfl rfl rfl rfl (th_rvoice hfl hrn hsg R) ?_
        rintro r s2 ⟨R2, hr⟩
        have gf2 : 0 ≤ (s2.1 11 42).toInt ∧ (s2.1 11 42).toInt ≤ 8 := R2.1.1 11 42
        rcases hr with rfl | ⟨rfl, hr⟩
        · refine wq_ifne rfl (fun e => absurd rfl e) (fun _ => ?_)
          refine wq_con (x := 0) rfl (by decide) ?_
          exact wp_reti rfl (th_n0 rfl) ⟨R2, Or.inl rfl⟩
        · refine wq_ifne rfl (fun _ => ?_) (fun e => absurd e (by decide))
          exact ih s2 R2 (by omega)
  have k19 : ∀ (m : Nat) (s : tm_S), th_RI v σ s → 6 ≤ (s.1 11 41).toInt + m → WP 40 233 19 [(0, .ref 11)] [] s (fun r s' => th_RI v σ s' ∧ (r = some (.int 0) ∨ r = some (.int 1))) := by
    intro m
    induction m with
    | zero =>
      intro s R hm
      have gf : 0 ≤ (s.1 11 41).toInt ∧ (s.1 11 41).toInt ≤ 6 := R.1.1 11 41
      refine wp_lda rfl tm_m0 ?_
      refine wq_geti rfl rfl (f := 37) rfl rfl (Or.inl rfl) ?_
      refine wq_con (x := 2) rfl (by decide) ?_
      refine wq_icne rfl (fun h24 => ?_) (fun h24 => ?_)
      · exact k36 8 s R (by have := (R.1.1 11 42).1; change 0 ≤ _ at this; omega)
      · refine wp_lda rfl tm_m0 ?_
        refine wq_calv [] rfl rfl rfl rfl rfl rfl rfl rfl rfl (th_rrow hfl hrn hsg R hv) ?_
        rintro r s2 ⟨R2, hr⟩
        have gf2 : 0 ≤ (s2.1 11 41).toInt ∧ (s2.1 11 41).toInt ≤ 6 := R2.1.1 11 41
        rcases hr with rfl | ⟨rfl, hr, hr3⟩
        · refine wq_ifne rfl (fun e => absurd rfl e) (fun _ => ?_)
          refine wq_con (x := 0) rfl (by decide) ?_
          exact wp_reti rfl (th_n0 rfl) ⟨R2, Or.inl rfl⟩
        · refine wq_ifne rfl (fun _ => ?_) (fun e => absurd e (by decide))
          exact absurd hr (by omega)
    | succ m ih =>
      intro s R hm
      have gf : 0 ≤ (s.1 11 41).toInt ∧ (s.1 11 41).toInt ≤ 6 := R.1.1 11 41
      refine wp_lda rfl tm_m0 ?_
      refine wq_geti rfl rfl (f := 37) rfl rfl (Or.inl rfl) ?_
      refine wq_con (x := 2) rfl (by decide) ?_
      refine wq_icne rfl (fun h24 => ?_) (fun h24 => ?_)
      · exact k36 8 s R (by have := (R.1.1 11 42).1; change 0 ≤ _ at this; omega)
      · refine wp_lda rfl tm_m0 ?_
        refine wq_calv [] rfl rfl rfl rfl rfl rfl rfl rfl rfl (th_rrow hfl hrn hsg R hv) ?_
        rintro r s2 ⟨R2, hr⟩
        have gf2 : 0 ≤ (s2.1 11 41).toInt ∧ (s2.1 11 41).toInt ≤ 6 := R2.1.1 11 41
        rcases hr with rfl | ⟨rfl, hr, hr3⟩
        · refine wq_ifne rfl (fun e => absurd rfl e) (fun _ => ?_)
          refine wq_con (x := 0) rfl (by decide) ?_
          exact wp_reti rfl (th_n0 rfl) ⟨R2, Or.inl rfl⟩
        · refine wq_ifne rfl (fun _ => ?_) (fun e => absurd e (by decide))
          exact ih s2 R2 (by omega)
  show WP 40 233 0 [(0, .ref 11)] [] σ _
  refine wp_lda rfl tm_m0 ?_
  refine wq_con (x := 0) rfl (by decide) ?_
  refine wq_puti rfl rfl (f := 35) rfl rfl ?_
  refine wp_lda rfl tm_m0 ?_
  refine wq_con (x := 0) rfl (by decide) ?_
  refine wq_puti rfl rfl (f := 41) rfl rfl ?_
  refine wp_lda rfl tm_m0 ?_
  refine wq_con (x := 0) rfl (by decide) ?_
  refine wq_puti rfl rfl (f := 42) rfl rfl ?_
  refine wp_lda rfl tm_m0 ?_
  refine wq_calv [] rfl rfl rfl rfl rfl rfl rfl rfl rfl (th_nx (th_RI_f (th_RI_f (th_RI_f ⟨hT, tv_un_rf⟩ (by decide) (by show (0 : Int) ≤ (0 : Int32).toInt; decide) (by show (0 : Int32).toInt ≤ (800 : Int); decide)) (by decide) (by show (0 : Int) ≤ (0 : Int32).toInt; decide) (by show (0 : Int32).toInt ≤ (6 : Int); decide)) (by decide) (by show (0 : Int) ≤ (0 : Int32).toInt; decide) (by show (0 : Int32).toInt ≤ (8 : Int); decide))) ?_
  rintro _ s16 ⟨rfl, Rs16, as16, cs16, ws16⟩
  exact k19 6 _ Rs16 (by have := (Rs16.1.1 11 41).1; change 0 ≤ _ at this; omega)
set_option maxRecDepth 100000 in
set_option maxHeartbeats 4000000 in
theorem ts_rdg {v : Int} (hfl : tv_Snd (tc_T v) tz_fl) (hrn : tv_Snd (tc_T v) tz_rn) (hsg : tv_Snd (tc_T v) tz_sg) (hv : v ≤ 12) : tv_Snd (tc_T v) (233, [(3, 11, 11)], [], [((1, 0, 1), [])], [(11, 35), (11, 36), (11, 37), (11, 38), (11, 39), (11, 40), (11, 41), (11, 42), (67, 64), (68, 64), (69, 64), (70, 64), (71, 64), (72, 64)], 40) := by
  intro As σ hva hT
  obtain ⟨x0, rfl, h0⟩ := tv_va1 hva
  obtain ⟨k0, rfl, l0, u0⟩ := h0
  obtain rfl : k0 = 11 := by omega
  refine WM.mono (th_reading hfl hrn hsg hT hv) ?_
  rintro r s1 ⟨R1, hr⟩
  exact tv_Qc1 R1.1 R1.2 (tv_rvb hr)
