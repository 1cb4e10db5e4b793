/-! ===== the reader of the class ===== -/
theorem tv_un_r {a b : tm_S} {w : List (Nat × Nat)} {k j : Nat} (h : tv_un a b w) (hk : tv_kd k j = some 3) (hm : tv_mem w k j = false) : b.2.2 k j = a.2.2 k j := Value.ref.inj (h.1 k j 3 hk hm)
theorem th_tkq {T : tv_TT} {σ : tm_S} (hT : tv_TY T σ) : σ.2.2 6 3 < tt_NQ := by
  have h := hT.2 ((6, 3), tt_EN, tt_EN + 8, false) (by decide)
  exact Nat.lt_of_le_of_lt h.2 (by decide)
def tz_adv : tv_C := (99, [(3, 6, 6)], [], [((0, 0, 0), [])], [(6, 3), (6, 4), (6, 5), (6, 6)], 50)
theorem tq_adv {T : tv_TT}  {σ σ' : tm_S} {r : Option Value} (h : tv_Qc T tz_adv [.ref 6] σ r σ') : tv_TY T σ' ∧ tv_un σ σ' [(6, 3), (6, 4), (6, 5), (6, 6)] ∧ ((r = none)) := by
  obtain ⟨h1, h2, q, hq, hr, hn⟩ := h
  refine ⟨h1, h2, ?_⟩
  change q ∈ [((0, 0, 0), [])] at hq
  simp only [List.mem_cons, List.not_mem_nil, or_false] at hq
  rcases hq with rfl
  rcases hr with ⟨-, e⟩ | ⟨x, -, hx⟩
  · exact e
  · exact hx.elim
def th_RD9 (n : Nat) (σ s : tm_S) : Prop := tv_TY (tc_T (n : Int)) s ∧ tv_un σ s [(6, 2), (6, 3), (6, 4), (6, 5), (6, 6), (6, 7), (6, 8), (9, 2), (9, 7), (31, 64), (32, 64), (33, 64), (34, 64), (35, 64), (36, 64)] ∧ s.2.2 6 1 = 9 ∧ s.1 6 2 = nI n ∧ th_CS n s 9
theorem th_RDu9 {n : Nat} {σ s s' : tm_S} {w : List (Nat × Nat)} (R : th_RD9 n σ s) (hT : tv_TY (tc_T (n : Int)) s') (hu : tv_un s s' w) (h1 : w.all (fun q => tv_mem [(6, 2), (6, 3), (6, 4), (6, 5), (6, 6), (6, 7), (6, 8), (9, 2), (9, 7), (31, 64), (32, 64), (33, 64), (34, 64), (35, 64), (36, 64)] q.1 q.2) = true := by rfl) (h2 : (tv_mem w 6 1 || tv_mem w 6 2 || tv_mem w 9 2 || tv_mem w 9 7 || tv_mem w 31 64 || tv_mem w 33 64 || tv_mem w 35 64) = false := by rfl) : th_RD9 n σ s' := by
  simp only [Bool.or_eq_false_iff] at h2
  obtain ⟨⟨⟨⟨⟨⟨a1, a2⟩, a3⟩, a4⟩, a5⟩, a6⟩, a7⟩ := h2
  have e3 : s'.1 9 2 = s.1 9 2 := tv_un_i hu rfl a3
  have e4 : s'.1 9 7 = s.1 9 7 := tv_un_i hu rfl a4
  have e5 := (tv_un_a hu (k := 31) rfl a5).2
  have e6 := (tv_un_a hu (k := 33) rfl a6).1
  have e7 := (tv_un_a hu (k := 35) rfl a7).1
  refine ⟨hT, tv_un_tr R.2.1 (tv_un_mo hu (fun q hq => List.all_eq_true.mp h1 q hq)), by rw [tv_un_r hu rfl a1]; exact R.2.2.1, by rw [tv_un_i hu rfl a2]; exact R.2.2.2.1, fun r hr => ?_, fun u hu2 => ?_⟩
  · rw [e3] at hr
    have := R.2.2.2.2.1 r hr
    show ∀ i : Nat, i < n → th_nb (s'.2.1 31 r) i < n
    rw [e5]
    exact this
  · rw [e4] at hu2
    have := R.2.2.2.2.2 u hu2
    show (s'.1 33 u).toInt < (s'.1 9 2).toInt ∧ 0 ≤ (s'.1 35 u).toInt ∧ (s'.1 35 u).toInt < n
    rw [e3, e6, e7]
    exact this
theorem th_nz {j : Nat} {z : Int32} (h : tt_r j = some .boolean) (hz : z = 0 ∨ z = 1) : ∀ ty, tt_r j = some ty → narrow ty (.int z) = .int z := by
  rcases hz with rfl | rfl
  · exact th_n0 h
  · exact th_n1 h
set_option maxRecDepth 100000 in
set_option maxHeartbeats 4000000 in
theorem th_hold9 {d n : Nat} {z k : Int32} {σ s : tm_S} (R : th_RD9 n σ s) (hz : z = 0 ∨ z = 1) : WM d 116 [.ref 6, .int z, .int k] s (fun q s' => q = some (.int z) ∧ th_RD9 n σ s' ∧ tv_un s s' [(6, 7), (6, 8)]) := by
  have gp : 0 ≤ (s.1 6 5).toInt ∧ (s.1 6 5).toInt ≤ 800 := R.1.1 6 5
  show WP d 116 0 [(0, .ref 6), (1, .int z), (2, .int k)] [] s _
  refine wp_ldi rfl tm_m1 ?_
  refine wq_ifne rfl (fun h1 => ?_) (fun h1 => ?_)
  · refine wp_ldi rfl tm_m1 ?_
    exact wp_reti rfl (th_nz rfl hz) ⟨rfl, R, tv_un_rf⟩
  · refine wp_lda rfl tm_m0 ?_
    refine wp_ldi rfl tm_m2 ?_
    refine wq_puti rfl rfl (f := 7) rfl rfl ?_
    refine wp_lda rfl tm_m0 ?_
    refine wp_lda rfl tm_m0 ?_
    refine wq_geti rfl rfl (f := 5) rfl rfl (Or.inl rfl) ?_
    refine wq_puti rfl rfl (f := 8) rfl rfl ?_
    refine wp_ldi rfl tm_m1 ?_
    have hu : tv_un s (tm_sI (tm_sI s 6 7 k) 6 8 ((tm_sI s 6 7 k).1 6 5)) [(6, 7), (6, 8)] := tv_un_tr (tv_un_fI rfl) (tv_un_fI rfl)
    exact wp_reti rfl (th_nz rfl hz) ⟨rfl, th_RDu9 R (tv_TY_sI (tv_TY_sI R.1 (tn_rng _).1 (tn_rng _).2) (tn_rng _).1 (tn_rng _).2) hu, hu⟩
set_option maxRecDepth 100000 in
set_option maxHeartbeats 4000000 in
theorem th_adv9 {n : Nat} {σ s : tm_S} (hadv : tv_Snd (tc_T (n : Int)) tz_adv) (R : th_RD9 n σ s) : WM 50 99 [.ref 6] s (fun q s' => q = none ∧ th_RD9 n σ s' ∧ tv_un s s' [(6, 3), (6, 4), (6, 5), (6, 6)]) := by
  refine WM.mono (hadv [.ref 6] s ⟨⟨_, rfl, by decide, by decide⟩, trivial⟩ R.1) ?_
  intro q s' hq
  obtain ⟨h1, h2, h3⟩ := tq_adv hq
  exact ⟨h3, th_RDu9 R h1 h2, h2⟩
set_option maxRecDepth 100000 in
set_option maxHeartbeats 4000000 in
theorem th_pass9 {n a : Nat} {σ s : tm_S} (hadv : tv_Snd (tc_T (n : Int)) tz_adv) (R : th_RD9 n σ s) (ha : a < tt_NQ) : WM 51 118 [.ref 6, .ref a] s (fun q s' => (q = some (.int 0) ∨ q = some (.int 1)) ∧ th_RD9 n σ s' ∧ tv_un s s' [(6, 3), (6, 4), (6, 5), (6, 6), (6, 7), (6, 8)]) := by
  have k14 : ∀ z : Int32, (z = 0 ∨ z = 1) → WP 51 118 14 [(0, .ref 6), (1, .ref a)] [.int z, .ref 6] s (fun q s' => (q = some (.int 0) ∨ q = some (.int 1)) ∧ th_RD9 n σ s' ∧ tv_un s s' [(6, 3), (6, 4), (6, 5), (6, 6), (6, 7), (6, 8)]) := by
    intro z hz
    refine wq_con (x := 1) rfl (by decide) ?_
    refine wq_calv [.int z, .int 1] rfl rfl rfl rfl rfl rfl rfl rfl rfl (th_hold9 R (hz)) ?_
    rintro _ s15 ⟨rfl, Rs15, us15⟩
    have cs15 : s15.1 9 2 = s.1 9 2 := tv_un_i us15 rfl rfl
    have vs15 : s15.1 6 4 = s.1 6 4 := tv_un_i us15 rfl rfl
    refine wq_ifne rfl (fun h18 => ?_) (fun h18 => ?_)
    · refine wp_lda rfl tm_m0 ?_
      refine wq_calv [] rfl rfl rfl rfl rfl rfl rfl rfl rfl (WM.deep (th_adv9 hadv Rs15) (by decide)) ?_
      rintro _ s24 ⟨rfl, Rs24, us24⟩
      have cs24 : s24.1 9 2 = s15.1 9 2 := tv_un_i us24 rfl rfl
      refine wq_con (x := 1) rfl (by decide) ?_
      exact wp_reti rfl (th_n1 rfl) ⟨Or.inr rfl, Rs24, tv_un_tr (tv_un_mo us15 (by decide)) (tv_un_mo us24 (by decide))⟩
    · refine wq_con (x := 0) rfl (by decide) ?_
      exact wp_reti rfl (th_n0 rfl) ⟨Or.inl rfl, Rs15, tv_un_mo us15 (by decide)⟩
  show WP 51 118 0 [(0, .ref 6), (1, .ref a)] [] s _
  refine wp_lda rfl tm_m0 ?_
  refine wp_lda rfl tm_m0 ?_
  refine wq_getv rfl rfl (f := 3) rfl rfl ?_
  refine wp_lda rfl tm_m1 ?_
  refine wp_ac rfl (th_tkq R.1) ha (fun h6 => ?_) (fun h6 => ?_)
  · refine wq_con (x := 0) rfl (by decide) ?_
    exact k14 0 (Or.inl rfl)
  · refine wq_con (x := 1) rfl (by decide) ?_
    refine wp_go rfl ?_
    exact k14 1 (Or.inr rfl)
set_option maxRecDepth 100000 in
set_option maxHeartbeats 4000000 in
theorem th_pnum9 {n : Nat} {m : Int32} {σ s : tm_S} (hadv : tv_Snd (tc_T (n : Int)) tz_adv) (R : th_RD9 n σ s) : WM 51 128 [.ref 6, .int m] s (fun q s' => ((q = some (.int 1) ∧ (s.1 6 4).toInt ≤ m.toInt) ∨ q = some (.int 0)) ∧ th_RD9 n σ s' ∧ tv_un s s' [(6, 3), (6, 4), (6, 5), (6, 6), (6, 7), (6, 8)]) := by
  have k37 : ∀ (z : Int32) (t : tm_S), (z = 0 ∨ z = 1) → th_RD9 n σ t → tv_un s t [(6, 7), (6, 8)] → (z = 1 → (s.1 6 4).toInt ≤ m.toInt) → WP 51 128 37 [(0, .ref 6), (1, .int m)] [.int z, .ref 6] t (fun q s' => ((q = some (.int 1) ∧ (s.1 6 4).toInt ≤ m.toInt) ∨ q = some (.int 0)) ∧ th_RD9 n σ s' ∧ tv_un s s' [(6, 3), (6, 4), (6, 5), (6, 6), (6, 7), (6, 8)]) := by
    intro z t hz Rt Ut hv
    refine wq_con (x := 3) rfl (by decide) ?_
    refine wq_calv [.int z, .int 3] rfl rfl rfl rfl rfl rfl rfl rfl rfl (th_hold9 Rt (hz)) ?_
    rintro _ s38 ⟨rfl, Rs38, us38⟩
    have cs38 : s38.1 9 2 = t.1 9 2 := tv_un_i us38 rfl rfl
    have vs38 : s38.1 6 4 = t.1 6 4 := tv_un_i us38 rfl rfl
    refine wq_ifne rfl (fun h41 => ?_) (fun h41 => ?_)
    · refine wp_lda rfl tm_m0 ?_
      refine wq_calv [] rfl rfl rfl rfl rfl rfl rfl rfl rfl (WM.deep (th_adv9 hadv Rs38) (by decide)) ?_
      rintro _ s47 ⟨rfl, Rs47, us47⟩
      have cs47 : s47.1 9 2 = s38.1 9 2 := tv_un_i us47 rfl rfl
      refine wq_con (x := 1) rfl (by decide) ?_
      exact wp_reti rfl (th_n1 rfl) ⟨Or.inl ⟨rfl, hv (hz.resolve_left h41)⟩, Rs47, tv_un_tr (tv_un_mo (tv_un_tr Ut us38) (by decide)) (tv_un_mo us47 (by decide))⟩
    · refine wq_con (x := 0) rfl (by decide) ?_
      exact wp_reti rfl (th_n0 rfl) ⟨Or.inr rfl, Rs38, tv_un_mo (tv_un_tr Ut us38) (by decide)⟩
  have k16 : ∀ z : Int32, (z = 0 ∨ z = 1) → WP 51 128 16 [(0, .ref 6), (1, .int m)] [.int z, .ref 6] s (fun q s' => ((q = some (.int 1) ∧ (s.1 6 4).toInt ≤ m.toInt) ∨ q = some (.int 0)) ∧ th_RD9 n σ s' ∧ tv_un s s' [(6, 3), (6, 4), (6, 5), (6, 6), (6, 7), (6, 8)]) := by
    intro z hz
    refine wq_con (x := 1) rfl (by decide) ?_
    refine wq_calv [.int z, .int 1] rfl rfl rfl rfl rfl rfl rfl rfl rfl (th_hold9 R (hz)) ?_
    rintro _ s17 ⟨rfl, Rs17, us17⟩
    have cs17 : s17.1 9 2 = s.1 9 2 := tv_un_i us17 rfl rfl
    have vs17 : s17.1 6 4 = s.1 6 4 := tv_un_i us17 rfl rfl
    refine wq_ifeq rfl (fun h20 => ?_) (fun h20 => ?_)
    · have g20 : (z).toInt = 0 := congrArg Int32.toInt h20
      refine wq_con (x := 0) rfl (by decide) ?_
      exact wp_reti rfl (th_n0 rfl) ⟨Or.inr rfl, Rs17, tv_un_mo us17 (by decide)⟩
    · refine wp_lda rfl tm_m0 ?_
      refine wp_lda rfl tm_m0 ?_
      refine wq_geti rfl rfl (f := 4) rfl rfl (Or.inl rfl) ?_
      refine wp_ldi rfl tm_m1 ?_
      refine wq_icgt rfl (fun h29 => ?_) (fun h29 => ?_)
      · have g29 : (m).toInt < (s17.1 6 4).toInt := tn_ltI.mp h29
        refine wq_con (x := 0) rfl (by decide) ?_
        exact k37 0 s17 (Or.inl rfl) Rs17 us17 (fun e => absurd e (by decide))
      · have g29 : ¬ (m).toInt < (s17.1 6 4).toInt := fun g => h29 (tn_ltI.mpr g)
        refine wq_con (x := 1) rfl (by decide) ?_
        refine wp_go rfl ?_
        exact k37 1 s17 (Or.inr rfl) Rs17 us17 (fun e => by rw [vs17] at g29; omega)
  show WP 51 128 0 [(0, .ref 6), (1, .int m)] [] s _
  refine wp_lda rfl tm_m0 ?_
  refine wp_lda rfl tm_m0 ?_
  refine wq_getv rfl rfl (f := 3) rfl rfl ?_
  refine wp_gsE rfl ?_
  refine wp_ac rfl (th_tkq R.1) (by decide) (fun h8 => ?_) (fun h8 => ?_)
  · refine wq_con (x := 0) rfl (by decide) ?_
    exact k16 0 (Or.inl rfl)
  · refine wq_con (x := 1) rfl (by decide) ?_
    refine wp_go rfl ?_
    exact k16 1 (Or.inr rfl)
set_option maxRecDepth 100000 in
set_option maxHeartbeats 4000000 in
theorem th_rowCount9 {d : Nat} {σ : tm_S} : WM d 115 [.ref 9] σ (th_is (.int (σ.1 9 2)) σ) := by
  show WP d 115 0 [(0, .ref 9)] [] σ _
  refine wp_lda rfl tm_m0 ?_
  refine wq_geti rfl rfl (f := 2) rfl rfl (Or.inl rfl) ?_
  exact wp_reti rfl (th_nI rfl) ⟨rfl, rfl⟩
set_option maxRecDepth 100000 in
set_option maxHeartbeats 4000000 in
theorem th_voiceCount9 {d : Nat} {σ : tm_S} : WM d 122 [.ref 9] σ (th_is (.int (σ.1 9 7)) σ) := by
  show WP d 122 0 [(0, .ref 9)] [] σ _
  refine wp_lda rfl tm_m0 ?_
  refine wq_geti rfl rfl (f := 7) rfl rfl (Or.inl rfl) ?_
  exact wp_reti rfl (th_nI rfl) ⟨rfl, rfl⟩
set_option maxRecDepth 100000 in
set_option maxHeartbeats 4000000 in
theorem th_frow9 {d n : Nat} {l : Int32} {s : tm_S} (hT : tv_TY (tc_T (n : Int)) s) : WM d 117 [.ref 9, .int l] s (fun q s' => (∃ z : Int32, q = some (.int z) ∧ -1 ≤ z.toInt ∧ z.toInt < (s.1 9 2).toInt) ∧ s = s') := by
  have gr : 0 ≤ (s.1 9 2).toInt ∧ (s.1 9 2).toInt ≤ 6 := hT.1 9 2
  have k2 : ∀ (m : Nat) (i : Int32), 0 ≤ i.toInt → 6 ≤ i.toInt + m → WP d 117 2 [(2, .int i), (0, .ref 9), (1, .int l)] [] s (fun q s' => (∃ z : Int32, q = some (.int z) ∧ -1 ≤ z.toInt ∧ z.toInt < (s.1 9 2).toInt) ∧ s = s') := by
    intro m
    induction m with
    | zero =>
      intro i hi hm
      refine wp_ldi rfl tm_m0 ?_
      refine wp_lda rfl tm_m1 ?_
      refine wq_geti rfl rfl (f := 2) rfl rfl (Or.inl rfl) ?_
      refine wq_icge rfl (fun h7 => ?_) (fun h7 => absurd (tn_leI.mpr (by omega)) h7)
      have g7 : (s.1 9 2).toInt ≤ (i).toInt := tn_leI.mp h7
      refine wq_con (x := (-1)) rfl (by decide) ?_
      exact wp_reti rfl (th_nI rfl) ⟨⟨_, rfl, by decide, by show (-1 : Int) < _; omega⟩, rfl⟩
    | succ m ih =>
      intro i hi hm
      refine wp_ldi rfl tm_m0 ?_
      refine wp_lda rfl tm_m1 ?_
      refine wq_geti rfl rfl (f := 2) rfl rfl (Or.inl rfl) ?_
      refine wq_icge rfl (fun h7 => ?_) (fun h7 => ?_)
      · have g7 : (s.1 9 2).toInt ≤ (i).toInt := tn_leI.mp h7
        refine wq_con (x := (-1)) rfl (by decide) ?_
        exact wp_reti rfl (th_nI rfl) ⟨⟨_, rfl, by decide, by show (-1 : Int) < _; omega⟩, rfl⟩
      · have g7 : ¬ (s.1 9 2).toInt ≤ (i).toInt := fun g => h7 (tn_leI.mpr g)
        refine wp_lda rfl tm_m1 ?_
        refine wq_getr (p := 32) rfl rfl (f := 1) rfl rfl ?_
        refine wp_ldi rfl tm_m0 ?_
        refine wp_iald rfl rfl (tn_in hi (by show _ < (6 : Int); omega)) ?_
        refine wp_ldi rfl tm_m2 ?_
        refine wq_icne rfl (fun h17 => ?_) (fun h17 => ?_)
        · refine wq_inc (c := 1) [(2, .int (i + 1)), (0, .ref 9), (1, .int l)] rfl tm_m0 rfl rfl ?_
          refine wp_go rfl ?_
          have e1 := tn_add1 (x := i) (by omega)
          exact WP.less (ih (i + 1) (by omega) (by omega)) (by simp)
        · have g17 : (s.1 32 i.toNatClampNeg).toInt = (l).toInt := congrArg Int32.toInt (Classical.not_not.mp h17)
          refine wp_ldi rfl tm_m0 ?_
          exact wp_reti rfl (th_nI rfl) ⟨⟨_, rfl, by omega, by omega⟩, rfl⟩
  show WP d 117 0 [(0, .ref 9), (1, .int l)] [] s _
  refine wq_con (x := 0) rfl (by decide) ?_
  refine wq_sti [(2, .int 0), (0, .ref 9), (1, .int l)] rfl rfl ?_
  exact WP.less (k2 6 0 (by decide) (by decide)) (by simp)
set_option maxRecDepth 100000 in
set_option maxHeartbeats 4000000 in
theorem th_arow9 {d n : Nat} {l : Int32} {r : Int64} {σ s : tm_S} (R : th_RD9 n σ s) (hr : ∀ i : Nat, i < n → th_nb r i < n) : WM d 120 [.ref 9, .int l, .long r] s (fun q s' => q = none ∧ th_RD9 n σ s') := by
  have gr : 0 ≤ (s.1 9 2).toInt ∧ (s.1 9 2).toInt ≤ 6 := R.1.1 9 2
  show WP d 120 0 [(0, .ref 9), (1, .int l), (2, .long r)] [] s _
  refine wp_lda rfl tm_m0 ?_
  refine wq_geti rfl rfl (f := 2) rfl rfl (Or.inl rfl) ?_
  refine wq_con (x := 6) rfl (by decide) ?_
  refine wq_icge rfl (fun h6 => ?_) (fun h6 => ?_)
  · have g6 : 6 ≤ (s.1 9 2).toInt := tn_leI.mp h6
    exact wp_retv rfl ⟨rfl, R⟩
  · have g6 : ¬ 6 ≤ (s.1 9 2).toInt := fun g => h6 (tn_leI.mpr g)
    refine wp_lda rfl tm_m0 ?_
    refine wq_getr (p := 32) rfl rfl (f := 1) rfl rfl ?_
    refine wp_lda rfl tm_m0 ?_
    refine wq_geti rfl rfl (f := 2) rfl rfl (Or.inl rfl) ?_
    refine wp_ldi rfl tm_m1 ?_
    refine wp_iast rfl rfl (tn_in gr.1 (by show _ < (6 : Int); omega)) ?_
    refine wp_lda rfl tm_m0 ?_
    refine wq_getr (p := 31) rfl rfl (f := 0) rfl rfl ?_
    refine wp_lda rfl tm_m0 ?_
    refine wq_geti rfl rfl (f := 2) rfl rfl (Or.inl rfl) ?_
    rw [tm_gI, if_neg (fun e => absurd e.1 (by decide))]
    refine wp_ldl rfl tm_m2 ?_
    refine wp_last rfl rfl (tn_in gr.1 (by show _ < (6 : Int); omega)) ?_
    refine wp_lda rfl tm_m0 ?_
    refine wp_dup rfl rfl ?_
    refine wq_geti rfl rfl (f := 2) rfl rfl (Or.inl rfl) ?_
    rw [tm_gIJ, tm_gI, if_neg (fun e => absurd e.1 (by decide))]
    refine wq_con (x := 1) rfl (by decide) ?_
    refine wq_iadd rfl ?_
    refine wq_puti rfl rfl (f := 2) rfl rfl ?_
    have e1 := tn_add1 (x := s.1 9 2) (by omega)
    have cl := tn_cl gr.1
    have n2 : (tm_sI (tm_sJ (tm_sI s 32 (s.1 9 2).toNatClampNeg l) 31 (s.1 9 2).toNatClampNeg r) 9 2 ((s.1 9 2) + 1)).1 9 2 = s.1 9 2 + 1 := by rw [tm_gI, if_pos ⟨rfl, rfl⟩]
    have n7 : (tm_sI (tm_sJ (tm_sI s 32 (s.1 9 2).toNatClampNeg l) 31 (s.1 9 2).toNatClampNeg r) 9 2 ((s.1 9 2) + 1)).1 9 7 = s.1 9 7 := by rw [tm_gI, if_neg (fun e => absurd e.2 (by decide)), tm_gIJ, tm_gI, if_neg (fun e => absurd e.1 (by decide))]
    refine wp_retv rfl ⟨rfl, tv_TY_sI (σ := tm_sJ (tm_sI s 32 _ l) 31 _ r) (show tv_TY _ (tm_sJ (tm_sI s 32 _ l) 31 _ r) from ⟨(tv_TY_row R.1 (ty := (tv_lo, tv_hi)) (fun _ => rfl) (tn_rng l).1 (tn_rng l).2).1, R.1.2⟩) (by rw [e1]; show (0 : Int) ≤ _; omega) (by rw [e1]; show _ ≤ (6 : Int); omega), tv_un_tr (tv_un_tr (tv_un_tr R.2.1 (tv_un_ar rfl rfl)) (tv_un_aJ rfl rfl)) (tv_un_fI rfl), R.2.2.1, by rw [tm_gI, if_neg (fun e => absurd e.1 (by decide)), tm_gIJ, tm_gI, if_neg (fun e => absurd e.1 (by decide))]; exact R.2.2.2.1, fun k hk => ?_, fun u hu => ?_⟩
    · rw [n2, e1] at hk
      show ∀ i : Nat, i < n → th_nb ((tm_sJ (tm_sI s 32 (s.1 9 2).toNatClampNeg l) 31 (s.1 9 2).toNatClampNeg r).2.1 31 k) i < n
      rw [tm_gJ]
      by_cases e : k = (s.1 9 2).toNatClampNeg
      · rw [if_pos ⟨rfl, e⟩]
        exact hr
      · rw [if_neg (fun x => e x.2)]
        exact R.2.2.2.2.1 k (by omega)
    · rw [n7] at hu
      have q := R.2.2.2.2.2 u hu
      rw [n2, e1]
      change (s.1 33 u).toInt < (s.1 9 2).toInt ∧ 0 ≤ (s.1 35 u).toInt ∧ (s.1 35 u).toInt < n at q
      show (s.1 33 u).toInt < _ ∧ 0 ≤ (s.1 35 u).toInt ∧ (s.1 35 u).toInt < n
      omega
set_option maxRecDepth 100000 in
set_option maxHeartbeats 4000000 in
theorem th_avoice9 {d n : Nat} {r k t bg : Int32} {σ s : tm_S} (R : th_RD9 n σ s) (r0 : 0 ≤ r.toInt) (r1 : r.toInt < (s.1 9 2).toInt) (k0 : 0 ≤ k.toInt) (k1 : k.toInt ≤ 3) (t0 : 0 ≤ t.toInt) (t1 : t.toInt < n) : WM d 129 [.ref 9, .int r, .int k, .int t, .int bg] s (fun q s' => q = none ∧ th_RD9 n σ s') := by
  have gv : 0 ≤ (s.1 9 7).toInt ∧ (s.1 9 7).toInt ≤ 8 := R.1.1 9 7
  have g2 : (s.1 9 2).toInt ≤ 6 := (R.1.1 9 2).2
  show WP d 129 0 [(0, .ref 9), (1, .int r), (2, .int k), (3, .int t), (4, .int bg)] [] s _
  refine wp_lda rfl tm_m0 ?_
  refine wq_geti rfl rfl (f := 7) rfl rfl (Or.inl rfl) ?_
  refine wq_con (x := 8) rfl (by decide) ?_
  refine wq_icge rfl (fun h6 => ?_) (fun h6 => ?_)
  · have g6 : 8 ≤ (s.1 9 7).toInt := tn_leI.mp h6
    exact wp_retv rfl ⟨rfl, R⟩
  · have g6 : ¬ 8 ≤ (s.1 9 7).toInt := fun g => h6 (tn_leI.mpr g)
    refine wp_lda rfl tm_m0 ?_
    refine wq_getr (p := 33) rfl rfl (f := 3) rfl rfl ?_
    refine wp_lda rfl tm_m0 ?_
    refine wq_geti rfl rfl (f := 7) rfl rfl (Or.inl rfl) ?_
    refine wp_ldi rfl tm_m1 ?_
    refine wp_iast rfl rfl (tn_in gv.1 (by show _ < (8 : Int); omega)) ?_
    refine wp_lda rfl tm_m0 ?_
    refine wq_getr (p := 34) rfl rfl (f := 4) rfl rfl ?_
    refine wp_lda rfl tm_m0 ?_
    refine wq_geti rfl rfl (f := 7) rfl rfl (Or.inl rfl) ?_
    rw [tm_gI, if_neg (fun e => absurd e.1 (by decide))]
    refine wp_ldi rfl tm_m2 ?_
    refine wp_iast rfl rfl (tn_in gv.1 (by show _ < (8 : Int); omega)) ?_
    refine wp_lda rfl tm_m0 ?_
    refine wq_getr (p := 35) rfl rfl (f := 5) rfl rfl ?_
    refine wp_lda rfl tm_m0 ?_
    refine wq_geti rfl rfl (f := 7) rfl rfl (Or.inl rfl) ?_
    rw [tm_gI, if_neg (fun e => absurd e.1 (by decide)), tm_gI, if_neg (fun e => absurd e.1 (by decide))]
    refine wp_ldi rfl tm_m3 ?_
    refine wp_iast rfl rfl (tn_in gv.1 (by show _ < (8 : Int); omega)) ?_
    refine wp_lda rfl tm_m0 ?_
    refine wq_getr (p := 36) rfl rfl (f := 6) rfl rfl ?_
    refine wp_lda rfl tm_m0 ?_
    refine wq_geti rfl rfl (f := 7) rfl rfl (Or.inl rfl) ?_
    rw [tm_gI, if_neg (fun e => absurd e.1 (by decide)), tm_gI, if_neg (fun e => absurd e.1 (by decide)), tm_gI, if_neg (fun e => absurd e.1 (by decide))]
    refine wp_ldi rfl tm_m4 ?_
    refine wp_iast rfl rfl (tn_in gv.1 (by show _ < (8 : Int); omega)) ?_
    refine wp_lda rfl tm_m0 ?_
    refine wp_dup rfl rfl ?_
    refine wq_geti rfl rfl (f := 7) rfl rfl (Or.inl rfl) ?_
    rw [tm_gI, if_neg (fun e => absurd e.1 (by decide)), tm_gI, if_neg (fun e => absurd e.1 (by decide)), tm_gI, if_neg (fun e => absurd e.1 (by decide)), tm_gI, if_neg (fun e => absurd e.1 (by decide))]
    refine wq_con (x := 1) rfl (by decide) ?_
    refine wq_iadd rfl ?_
    refine wq_puti rfl rfl (f := 7) rfl rfl ?_
    have e1 := tn_add1 (x := s.1 9 7) (by omega)
    have cl := tn_cl gv.1
    have T4 : tv_TY (tc_T (n : Int)) (tm_sI (tm_sI (tm_sI (tm_sI s 33 (s.1 9 7).toNatClampNeg r) 34 (s.1 9 7).toNatClampNeg k) 35 (s.1 9 7).toNatClampNeg t) 36 (s.1 9 7).toNatClampNeg bg) := tv_TY_row (tv_TY_row (tv_TY_row (tv_TY_row R.1 (ty := (0, 5)) (fun _ => rfl) r0 (by show r.toInt ≤ (5 : Int); omega)) (ty := (0, 3)) (fun _ => rfl) k0 k1) (ty := (tv_lo, tv_hi)) (fun _ => rfl) (tn_rng t).1 (tn_rng t).2) (ty := (tv_lo, tv_hi)) (fun _ => rfl) (tn_rng bg).1 (tn_rng bg).2
    have n7 : (tm_sI (tm_sI (tm_sI (tm_sI (tm_sI s 33 (s.1 9 7).toNatClampNeg r) 34 (s.1 9 7).toNatClampNeg k) 35 (s.1 9 7).toNatClampNeg t) 36 (s.1 9 7).toNatClampNeg bg) 9 7 ((s.1 9 7) + 1)).1 9 7 = s.1 9 7 + 1 := by rw [tm_gI, if_pos ⟨rfl, rfl⟩]
    have n2 : (tm_sI (tm_sI (tm_sI (tm_sI (tm_sI s 33 (s.1 9 7).toNatClampNeg r) 34 (s.1 9 7).toNatClampNeg k) 35 (s.1 9 7).toNatClampNeg t) 36 (s.1 9 7).toNatClampNeg bg) 9 7 ((s.1 9 7) + 1)).1 9 2 = s.1 9 2 := by rw [tm_gI, if_neg (fun e => absurd e.2 (by decide)), tm_gI, if_neg (fun e => absurd e.1 (by decide)), tm_gI, if_neg (fun e => absurd e.1 (by decide)), tm_gI, if_neg (fun e => absurd e.1 (by decide)), tm_gI, if_neg (fun e => absurd e.1 (by decide))]
    have no : ∀ u : Nat, (tm_sI (tm_sI (tm_sI (tm_sI (tm_sI s 33 (s.1 9 7).toNatClampNeg r) 34 (s.1 9 7).toNatClampNeg k) 35 (s.1 9 7).toNatClampNeg t) 36 (s.1 9 7).toNatClampNeg bg) 9 7 ((s.1 9 7) + 1)).1 33 u = if u = (s.1 9 7).toNatClampNeg then r else s.1 33 u := by
      intro u
      rw [tm_gI, if_neg (fun e => absurd e.1 (by decide)), tm_gI, if_neg (fun e => absurd e.1 (by decide)), tm_gI, if_neg (fun e => absurd e.1 (by decide)), tm_gI, if_neg (fun e => absurd e.1 (by decide)), tm_gI]
      by_cases e : u = (s.1 9 7).toNatClampNeg
      · rw [if_pos ⟨rfl, e⟩, if_pos e]
      · rw [if_neg (fun x => e x.2), if_neg e]
    have nt : ∀ u : Nat, (tm_sI (tm_sI (tm_sI (tm_sI (tm_sI s 33 (s.1 9 7).toNatClampNeg r) 34 (s.1 9 7).toNatClampNeg k) 35 (s.1 9 7).toNatClampNeg t) 36 (s.1 9 7).toNatClampNeg bg) 9 7 ((s.1 9 7) + 1)).1 35 u = if u = (s.1 9 7).toNatClampNeg then t else s.1 35 u := by
      intro u
      rw [tm_gI, if_neg (fun e => absurd e.1 (by decide)), tm_gI, if_neg (fun e => absurd e.1 (by decide)), tm_gI]
      by_cases e : u = (s.1 9 7).toNatClampNeg
      · rw [if_pos ⟨rfl, e⟩, if_pos e]
      · rw [if_neg (fun x => e x.2), if_neg e, tm_gI, if_neg (fun e => absurd e.1 (by decide)), tm_gI, if_neg (fun e => absurd e.1 (by decide))]
    refine wp_retv rfl ⟨rfl, tv_TY_sI T4 (by rw [e1]; show (0 : Int) ≤ _; omega) (by rw [e1]; show _ ≤ (8 : Int); omega), tv_un_tr (tv_un_tr (tv_un_tr (tv_un_tr (tv_un_tr R.2.1 (tv_un_ar rfl rfl)) (tv_un_ar rfl rfl)) (tv_un_ar rfl rfl)) (tv_un_ar rfl rfl)) (tv_un_fI rfl), R.2.2.1, by rw [tm_gI, if_neg (fun e => absurd e.1 (by decide)), tm_gI, if_neg (fun e => absurd e.1 (by decide)), tm_gI, if_neg (fun e => absurd e.1 (by decide)), tm_gI, if_neg (fun e => absurd e.1 (by decide)), tm_gI, if_neg (fun e => absurd e.1 (by decide))]; exact R.2.2.2.1, fun q hq => ?_, fun u hu => ?_⟩
    · rw [n2] at hq
      exact R.2.2.2.2.1 q hq
    · rw [n7, e1] at hu
      rw [n2]
      show ((tm_sI (tm_sI (tm_sI (tm_sI (tm_sI s 33 (s.1 9 7).toNatClampNeg r) 34 (s.1 9 7).toNatClampNeg k) 35 (s.1 9 7).toNatClampNeg t) 36 (s.1 9 7).toNatClampNeg bg) 9 7 ((s.1 9 7) + 1)).1 33 u).toInt < _ ∧ 0 ≤ ((tm_sI (tm_sI (tm_sI (tm_sI (tm_sI s 33 (s.1 9 7).toNatClampNeg r) 34 (s.1 9 7).toNatClampNeg k) 35 (s.1 9 7).toNatClampNeg t) 36 (s.1 9 7).toNatClampNeg bg) 9 7 ((s.1 9 7) + 1)).1 35 u).toInt ∧ ((tm_sI (tm_sI (tm_sI (tm_sI (tm_sI s 33 (s.1 9 7).toNatClampNeg r) 34 (s.1 9 7).toNatClampNeg k) 35 (s.1 9 7).toNatClampNeg t) 36 (s.1 9 7).toNatClampNeg bg) 9 7 ((s.1 9 7) + 1)).1 35 u).toInt < n
      rw [no, nt]
      by_cases e : u = (s.1 9 7).toNatClampNeg
      · rw [if_pos e, if_pos e]
        exact ⟨r1, t0, t1⟩
      · rw [if_neg e, if_neg e]
        exact R.2.2.2.2.2 u (by omega)
set_option maxRecDepth 100000 in
set_option maxHeartbeats 4000000 in
theorem th_rnotes9 {n : Nat} {σ s : tm_S} (hn : n ≤ 12) (h3 : 3 ≤ n) (hadv : tv_Snd (tc_T (n : Int)) tz_adv) (R : th_RD9 n σ s) : WM 51 119 [.ref 6] s (fun q s' => th_RD9 n σ s' ∧ (q = some (.long (-1)) ∨ ∃ a k : Nat, q = some (.long (th_L a)) ∧ th_di n k a ∧ k ≤ 16)) := by
  have k153 : ∀ (z c se : Int32) (a k : Nat) (t : tm_S), th_RD9 n σ t → th_di n k a → k ≤ 16 → WP 51 119 153 [(1, .long (th_L a)), (3, .int se), (4, .int c), (0, .ref 6)] [.int z] t (fun q s' => th_RD9 n σ s' ∧ (q = some (.long (-1)) ∨ ∃ a k : Nat, q = some (.long (th_L a)) ∧ th_di n k a ∧ k ≤ 16)) := by
    intro z c se a k t Rt ha hk
    refine wq_sti [(5, .int z), (1, .long (th_L a)), (3, .int se), (4, .int c), (0, .ref 6)] rfl rfl ?_
    refine wp_ldi rfl tm_m0 ?_
    refine wq_ifeq rfl (fun h157 => ?_) (fun h157 => ?_)
    · refine wq_lco (x := (-1)) rfl (by decide) ?_
      exact wp_retl rfl ⟨Rt, Or.inl rfl⟩
    · refine wp_ldl rfl tm_m1 ?_
      refine wp_go rfl ?_
      exact wp_retl rfl ⟨Rt, Or.inr ⟨a, k, rfl, ha, hk⟩⟩
  have k141 : ∀ (z c se : Int32) (a k : Nat) (t : tm_S), (z = 0 ∨ z = 1) → th_RD9 n σ t → th_di n k a → k ≤ 16 → WP 51 119 141 [(1, .long (th_L a)), (3, .int se), (4, .int c), (0, .ref 6)] [.int z, .ref 6] t (fun q s' => th_RD9 n σ s' ∧ (q = some (.long (-1)) ∨ ∃ a k : Nat, q = some (.long (th_L a)) ∧ th_di n k a ∧ k ≤ 16)) := by
    intro z c se a k t hz Rt ha hk
    refine wq_con (x := 3) rfl (by decide) ?_
    refine wq_calv [.int z, .int 3] rfl rfl rfl rfl rfl rfl rfl rfl rfl (th_hold9 Rt (hz)) ?_
    rintro _ s142 ⟨rfl, Rs142, us142⟩
    have cs142 : s142.1 9 2 = t.1 9 2 := tv_un_i us142 rfl rfl
    have vs142 : s142.1 6 4 = t.1 6 4 := tv_un_i us142 rfl rfl
    refine wq_ifeq rfl (fun h145 => ?_) (fun h145 => ?_)
    · refine wq_con (x := 0) rfl (by decide) ?_
      exact WP.less (k153 0 c se a k s142 Rs142 ha hk) (by simp)
    · refine wq_con (x := 1) rfl (by decide) ?_
      refine wp_go rfl ?_
      exact WP.less (k153 1 c se a k s142 Rs142 ha hk) (by simp)
  have k119 : ∀ (z c se : Int32) (a k : Nat) (t : tm_S), (z = 0 ∨ z = 1) → th_RD9 n σ t → th_di n k a → k ≤ 16 → WP 51 119 119 [(1, .long (th_L a)), (3, .int se), (4, .int c), (0, .ref 6)] [.int z, .ref 6] t (fun q s' => th_RD9 n σ s' ∧ (q = some (.long (-1)) ∨ ∃ a k : Nat, q = some (.long (th_L a)) ∧ th_di n k a ∧ k ≤ 16)) := by
    intro z c se a k t hz Rt ha hk
    refine wq_con (x := 1) rfl (by decide) ?_
    refine wq_calv [.int z, .int 1] rfl rfl rfl rfl rfl rfl rfl rfl rfl (th_hold9 Rt (hz)) ?_
    rintro _ s120 ⟨rfl, Rs120, us120⟩
    have cs120 : s120.1 9 2 = t.1 9 2 := tv_un_i us120 rfl rfl
    have vs120 : s120.1 6 4 = t.1 6 4 := tv_un_i us120 rfl rfl
    refine wq_ifeq rfl (fun h123 => ?_) (fun h123 => ?_)
    · refine wq_con (x := 0) rfl (by decide) ?_
      exact WP.less (k153 0 c se a k s120 Rs120 ha hk) (by simp)
    · refine wp_lda rfl tm_m3 ?_
      refine wp_ldi rfl tm_m2 ?_
      refine wp_lda rfl tm_m3 ?_
      refine wq_geti rfl rfl (f := 2) rfl rfl (Or.inl rfl) ?_
      refine wq_icne rfl (fun h133 => ?_) (fun h133 => ?_)
      · refine wq_con (x := 0) rfl (by decide) ?_
        exact WP.less (k141 0 c se a k s120 (Or.inl rfl) Rs120 ha hk) (by simp)
      · refine wq_con (x := 1) rfl (by decide) ?_
        refine wp_go rfl ?_
        exact WP.less (k141 1 c se a k s120 (Or.inr rfl) Rs120 ha hk) (by simp)
  have k103 : ∀ (c se : Int32) (a k : Nat) (t : tm_S), th_RD9 n σ t → th_di n k a → k ≤ 16 → WP 51 119 103 [(1, .long (th_L a)), (3, .int se), (4, .int c), (0, .ref 6)] [] t (fun q s' => th_RD9 n σ s' ∧ (q = some (.long (-1)) ∨ ∃ a k : Nat, q = some (.long (th_L a)) ∧ th_di n k a ∧ k ≤ 16)) := by
    intro c se a k t Rt ha hk
    refine wp_lda rfl tm_m3 ?_
    refine wp_lda rfl tm_m3 ?_
    refine wq_getv rfl rfl (f := 3) rfl rfl ?_
    refine wp_gsE rfl ?_
    refine wp_ac rfl (th_tkq Rt.1) (by decide) (fun h111 => ?_) (fun h111 => ?_)
    · refine wq_con (x := 0) rfl (by decide) ?_
      exact WP.less (k119 0 c se a k t (Or.inl rfl) Rt ha hk) (by simp)
    · refine wq_con (x := 1) rfl (by decide) ?_
      refine wp_go rfl ?_
      exact WP.less (k119 1 c se a k t (Or.inr rfl) Rt ha hk) (by simp)
  have k10 : ∀ (m c a : Nat) (se : Int32) (t : tm_S), c + m = n + 1 → th_RD9 n σ t → th_di n c a → WP 51 119 10 [(1, .long (th_L a)), (3, .int se), (4, .int (nI c)), (5, .int (nI c)), (0, .ref 6)] [] t (fun q s' => th_RD9 n σ s' ∧ (q = some (.long (-1)) ∨ ∃ a k : Nat, q = some (.long (th_L a)) ∧ th_di n k a ∧ k ≤ 16)) := by
    intro m
    induction m with
    | zero =>
      intro c a se t hc Rt ha
      refine wp_ldi rfl tm_m3 ?_
      refine wp_lda rfl tm_m4 ?_
      refine wq_geti rfl rfl (f := 2) rfl rfl (Or.inl rfl) ?_
      rw [Rt.2.2.2.1]
      refine wq_icgt rfl (fun h16 => ?_) (fun h16 => absurd (nI_lt (by omega) (by omega)) h16)
      exact WP.less (k103 (nI c) se a c t Rt ha (by omega)) (by simp)
    | succ m ih =>
      intro c a se t hc Rt ha
      have gv : 0 ≤ (t.1 6 4).toInt ∧ (t.1 6 4).toInt ≤ 255 := Rt.1.1 6 4
      obtain ⟨x, x1, x2⟩ := nI_of (x := t.1 6 4) (by rw [tn_ltI]; show ¬ _ < (0 : Int); omega)
      have k57 : ∀ z : Int32, (z = 0 ∨ z = 1) → (z = 1 → x < n) → WP 51 119 57 [(1, .long (th_L a)), (3, .int se), (4, .int (nI c)), (5, .int (nI c)), (0, .ref 6)] [.int z, .ref 6] t (fun q s' => th_RD9 n σ s' ∧ (q = some (.long (-1)) ∨ ∃ a k : Nat, q = some (.long (th_L a)) ∧ th_di n k a ∧ k ≤ 16)) := by
        intro z hz hx
        refine wq_con (x := 3) rfl (by decide) ?_
        refine wq_calv [.int z, .int 3] rfl rfl rfl rfl rfl rfl rfl rfl rfl (th_hold9 Rt (hz)) ?_
        rintro _ s58 ⟨rfl, Rs58, us58⟩
        have cs58 : s58.1 9 2 = t.1 9 2 := tv_un_i us58 rfl rfl
        have vs58 : s58.1 6 4 = t.1 6 4 := tv_un_i us58 rfl rfl
        refine wq_ifne rfl (fun h61 => ?_) (fun h61 => ?_)
        · have hx2 := hx (hz.resolve_left h61)
          refine wp_ldi rfl tm_m1 ?_
          refine wq_con (x := 1) rfl (by decide) ?_
          refine wp_lda rfl tm_m4 ?_
          refine wq_geti rfl rfl (f := 4) rfl rfl (Or.inl rfl) ?_
          rw [vs58, x2]
          refine wq_ishl rfl ?_
          refine wq_ior rfl ?_
          generalize se ||| (1 <<< ((nI x) &&& 31)) = se2
          refine wq_sti [(3, .int se2), (1, .long (th_L a)), (4, .int (nI c)), (5, .int (nI c)), (0, .ref 6)] rfl rfl ?_
          refine wp_ldl rfl tm_m1 ?_
          refine wp_lda rfl tm_m4 ?_
          refine wq_geti rfl rfl (f := 4) rfl rfl (Or.inl rfl) ?_
          rw [vs58, x2]
          refine wp_i2l rfl ?_
          refine wq_con (x := 4) rfl (by decide) ?_
          refine wp_ldi rfl tm_m2 ?_
          refine wq_imul rfl ?_
          refine wq_lshl rfl ?_
          refine wq_lor rfl ?_
          rw [th_app ha.1 (by omega) (by omega)]
          refine wq_stl [(1, .long (th_L (a + x * 16 ^ c))), (3, .int se2), (4, .int (nI c)), (5, .int (nI c)), (0, .ref 6)] rfl rfl ?_
          refine wq_inc (c := 1) [(4, .int ((nI c) + 1)), (1, .long (th_L (a + x * 16 ^ c))), (3, .int se2), (5, .int (nI c)), (0, .ref 6)] rfl tm_m2 rfl rfl ?_
          refine wp_lda rfl tm_m4 ?_
          refine wq_calv [] rfl rfl rfl rfl rfl rfl rfl rfl rfl (WM.deep (th_adv9 hadv Rs58) (by decide)) ?_
          rintro _ s94 ⟨rfl, Rs94, us94⟩
          have cs94 : s94.1 9 2 = s58.1 9 2 := tv_un_i us94 rfl rfl
          refine wq_inc (c := 1) [(5, .int ((nI c) + 1)), (4, .int ((nI c) + 1)), (1, .long (th_L (a + x * 16 ^ c))), (3, .int se2), (0, .ref 6)] rfl tm_m3 rfl rfl ?_
          refine wp_go rfl ?_
          rw [nI_1]
          exact WP.less (ih (c + 1) (a + x * 16 ^ c) se2 s94 (by omega) Rs94 (th_di1 ha hx2 (by omega))) (by simp)
        · refine wq_lco (x := (-1)) rfl (by decide) ?_
          exact wp_retl rfl ⟨Rs58, Or.inl rfl⟩
      refine wp_ldi rfl tm_m3 ?_
      refine wp_lda rfl tm_m4 ?_
      refine wq_geti rfl rfl (f := 2) rfl rfl (Or.inl rfl) ?_
      rw [Rt.2.2.2.1]
      refine wq_icgt rfl (fun h16 => ?_) (fun h16 => ?_)
      · exact WP.less (k103 (nI c) se a c t Rt ha (by omega)) (by simp)
      · refine wp_lda rfl tm_m4 ?_
        refine wq_getv rfl rfl (f := 3) rfl rfl ?_
        refine wp_gsE rfl ?_
        refine wp_ac rfl (th_tkq Rt.1) (by decide) (fun h26 => ?_) (fun h26 => ?_)
        · exact WP.less (k103 (nI c) se a c t Rt ha (by omega)) (by simp)
        · refine wp_lda rfl tm_m4 ?_
          refine wp_lda rfl tm_m4 ?_
          refine wq_geti rfl rfl (f := 4) rfl rfl (Or.inl rfl) ?_
          rw [x2]
          refine wp_lda rfl tm_m4 ?_
          refine wq_geti rfl rfl (f := 2) rfl rfl (Or.inl rfl) ?_
          rw [Rt.2.2.2.1]
          refine wq_icge rfl (fun h38 => ?_) (fun h38 => ?_)
          · refine wq_con (x := 0) rfl (by decide) ?_
            exact k57 0 (Or.inl rfl) (fun e => absurd e (by decide))
          · refine wp_ldi rfl tm_m1 ?_
            refine wp_lda rfl tm_m4 ?_
            refine wq_geti rfl rfl (f := 4) rfl rfl (Or.inl rfl) ?_
            rw [x2]
            refine wq_ishr rfl ?_
            refine wq_con (x := 1) rfl (by decide) ?_
            refine wq_iand rfl ?_
            refine wq_ifne rfl (fun h49 => ?_) (fun h49 => ?_)
            · refine wq_con (x := 0) rfl (by decide) ?_
              exact k57 0 (Or.inl rfl) (fun e => absurd e (by decide))
            · refine wq_con (x := 1) rfl (by decide) ?_
              refine wp_go rfl ?_
              exact k57 1 (Or.inr rfl) (fun e => by rcases Nat.lt_or_ge x n with g | g; exact g; exact absurd (nI_le g x1) h38)
  show WP 51 119 0 [(0, .ref 6)] [] s _
  refine wq_lco (x := 0) rfl (by decide) ?_
  refine wq_stl [(1, .long 0), (0, .ref 6)] rfl rfl ?_
  refine wq_con (x := 0) rfl (by decide) ?_
  refine wq_sti [(3, .int 0), (1, .long 0), (0, .ref 6)] rfl rfl ?_
  refine wq_con (x := nI 0) rfl (by decide) ?_
  refine wq_sti [(4, .int (nI 0)), (3, .int 0), (1, .long 0), (0, .ref 6)] rfl rfl ?_
  refine wq_con (x := nI 0) rfl (by decide) ?_
  refine wq_sti [(5, .int (nI 0)), (4, .int (nI 0)), (3, .int 0), (1, .long 0), (0, .ref 6)] rfl rfl ?_
  exact WP.less (k10 (n + 1) 0 0 0 s (by omega) R (th_di0 (by omega))) (by simp [th_L0])
set_option maxRecDepth 100000 in
set_option maxHeartbeats 4000000 in
theorem th_xrrow9 {n : Nat} {σ s : tm_S} (hn : n ≤ 12) (h3 : 3 ≤ n) (hadv : tv_Snd (tc_T (n : Int)) tz_adv) (R : th_RD9 n σ s) : WM 52 114 [.ref 6] s (fun q s' => th_RD9 n σ s' ∧ (q = some (.int 0) ∨ q = some (.int 1))) := by
  have k116 : ∀ (z lt : Int32) (t : tm_S), (z = 0 ∨ z = 1) → th_RD9 n σ t → WP 52 114 116 [(1, .int lt), (0, .ref 6)] [.int z, .ref 6] t (fun q s' => th_RD9 n σ s' ∧ (q = some (.int 0) ∨ q = some (.int 1))) := by
    intro z lt t hz Rt
    refine wq_con (x := 1) rfl (by decide) ?_
    refine wq_calv [.int z, .int 1] rfl rfl rfl rfl rfl rfl rfl rfl rfl (th_hold9 Rt (hz)) ?_
    rintro _ s117 ⟨rfl, Rs117, us117⟩
    have cs117 : s117.1 9 2 = t.1 9 2 := tv_un_i us117 rfl rfl
    have vs117 : s117.1 6 4 = t.1 6 4 := tv_un_i us117 rfl rfl
    refine wq_ifne rfl (fun h120 => ?_) (fun h120 => ?_)
    · refine wp_lda rfl tm_m1 ?_
      refine wq_calv [] rfl rfl rfl rfl rfl rfl rfl rfl rfl (th_rnotes9 hn h3 hadv Rs117) ?_
      rintro r126 s126 ⟨Rs126, hr126⟩
      obtain ⟨rr, rfl, hrr⟩ : ∃ rr : Int64, r126 = some (.long rr) ∧ (¬ rr = -1 → ∀ i : Nat, i < n → th_nb rr i < n) := by
        rcases hr126 with rfl | ⟨a, k, rfl, ha, hk⟩
        · exact ⟨_, rfl, fun e => absurd rfl e⟩
        · exact ⟨_, rfl, fun _ i _ => th_di_dg ha hk (Nat.le_refl _) i⟩
      refine wq_stl [(2, .long rr), (1, .int lt), (0, .ref 6)] rfl rfl ?_
      refine wp_ldl rfl tm_m0 ?_
      refine wq_lco (x := (-1)) rfl (by decide) ?_
      refine wp_cmp rfl ?_
      refine wq_ifeq rfl (fun h135 => ?_) (fun h135 => ?_)
      · refine wq_con (x := 0) rfl (by decide) ?_
        exact wp_reti rfl (th_n0 rfl) ⟨Rs126, Or.inl rfl⟩
      · refine wp_lda rfl tm_m2 ?_
        refine wp_gsE rfl ?_
        refine wq_calv [.ref 79] rfl rfl rfl rfl rfl rfl rfl rfl rfl (th_pass9 hadv Rs126 (by decide)) ?_
        rintro r142 s142 ⟨hr142, Rs142, us142⟩
        obtain ⟨z142, rfl⟩ : ∃ z : Int32, r142 = some (.int z) := by rcases hr142 with rfl | rfl <;> exact ⟨_, rfl⟩
        have cs142 : s142.1 9 2 = s126.1 9 2 := tv_un_i us142 rfl rfl
        refine wq_ifne rfl (fun h145 => ?_) (fun h145 => ?_)
        · refine wp_lda rfl tm_m2 ?_
          refine wq_getv rfl rfl (f := 1) rfl rfl ?_
          rw [Rs142.2.2.1]
          refine wp_ldi rfl tm_m1 ?_
          refine wp_ldl rfl tm_m0 ?_
          refine wq_calv [.int lt, .long rr] rfl rfl rfl rfl rfl rfl rfl rfl rfl (th_arow9 Rs142 (hrr (fun e => h135 ((lg_cmp_eq _ _).mpr e)))) ?_
          rintro _ s156 ⟨rfl, Rs156⟩
          refine wq_con (x := 1) rfl (by decide) ?_
          exact wp_reti rfl (th_n1 rfl) ⟨Rs156, Or.inr rfl⟩
        · refine wq_con (x := 0) rfl (by decide) ?_
          exact wp_reti rfl (th_n0 rfl) ⟨Rs142, Or.inl rfl⟩
    · refine wq_con (x := 0) rfl (by decide) ?_
      exact wp_reti rfl (th_n0 rfl) ⟨Rs117, Or.inl rfl⟩
  have k77 : ∀ (z lt : Int32) (t : tm_S), (z = 0 ∨ z = 1) → th_RD9 n σ t → WP 52 114 77 [(1, .int lt), (0, .ref 6)] [.int z, .ref 6] t (fun q s' => th_RD9 n σ s' ∧ (q = some (.int 0) ∨ q = some (.int 1))) := by
    intro z lt t hz Rt
    refine wq_con (x := 2) rfl (by decide) ?_
    refine wq_calv [.int z, .int 2] rfl rfl rfl rfl rfl rfl rfl rfl rfl (th_hold9 Rt (hz)) ?_
    rintro _ s78 ⟨rfl, Rs78, us78⟩
    have cs78 : s78.1 9 2 = t.1 9 2 := tv_un_i us78 rfl rfl
    have vs78 : s78.1 6 4 = t.1 6 4 := tv_un_i us78 rfl rfl
    refine wq_ifne rfl (fun h81 => ?_) (fun h81 => ?_)
    · refine wp_lda rfl tm_m1 ?_
      refine wq_calv [] rfl rfl rfl rfl rfl rfl rfl rfl rfl (WM.deep (th_adv9 hadv Rs78) (by decide)) ?_
      rintro _ s87 ⟨rfl, Rs87, us87⟩
      have cs87 : s87.1 9 2 = s78.1 9 2 := tv_un_i us87 rfl rfl
      refine wp_lda rfl tm_m1 ?_
      refine wp_gsE rfl ?_
      refine wq_calv [.ref 78] rfl rfl rfl rfl rfl rfl rfl rfl rfl (th_pass9 hadv Rs87 (by decide)) ?_
      rintro r94 s94 ⟨hr94, Rs94, us94⟩
      obtain ⟨z94, rfl⟩ : ∃ z : Int32, r94 = some (.int z) := by rcases hr94 with rfl | rfl <;> exact ⟨_, rfl⟩
      have cs94 : s94.1 9 2 = s87.1 9 2 := tv_un_i us94 rfl rfl
      refine wq_ifeq rfl (fun h97 => ?_) (fun h97 => ?_)
      · refine wq_con (x := 0) rfl (by decide) ?_
        exact wp_reti rfl (th_n0 rfl) ⟨Rs94, Or.inl rfl⟩
      · refine wp_lda rfl tm_m1 ?_
        refine wp_lda rfl tm_m1 ?_
        refine wq_getv rfl rfl (f := 3) rfl rfl ?_
        refine wp_gsE rfl ?_
        refine wp_ac rfl (th_tkq Rs94.1) (by decide) (fun h108 => ?_) (fun h108 => ?_)
        · refine wq_con (x := 0) rfl (by decide) ?_
          exact k116 0 lt s94 (Or.inl rfl) Rs94
        · refine wq_con (x := 1) rfl (by decide) ?_
          refine wp_go rfl ?_
          exact k116 1 lt s94 (Or.inr rfl) Rs94
    · refine wq_con (x := 0) rfl (by decide) ?_
      exact wp_reti rfl (th_n0 rfl) ⟨Rs78, Or.inl rfl⟩
  have k52 : ∀ (z lt : Int32) (t : tm_S), (z = 0 ∨ z = 1) → th_RD9 n σ t → WP 52 114 52 [(1, .int lt), (0, .ref 6)] [.int z, .ref 6] t (fun q s' => th_RD9 n σ s' ∧ (q = some (.int 0) ∨ q = some (.int 1))) := by
    intro z lt t hz Rt
    refine wq_con (x := 1) rfl (by decide) ?_
    refine wq_calv [.int z, .int 1] rfl rfl rfl rfl rfl rfl rfl rfl rfl (th_hold9 Rt (hz)) ?_
    rintro _ s53 ⟨rfl, Rs53, us53⟩
    have cs53 : s53.1 9 2 = t.1 9 2 := tv_un_i us53 rfl rfl
    have vs53 : s53.1 6 4 = t.1 6 4 := tv_un_i us53 rfl rfl
    refine wq_ifeq rfl (fun h56 => ?_) (fun h56 => ?_)
    · refine wq_con (x := 0) rfl (by decide) ?_
      exact wp_reti rfl (th_n0 rfl) ⟨Rs53, Or.inl rfl⟩
    · refine wp_lda rfl tm_m1 ?_
      refine wp_lda rfl tm_m1 ?_
      refine wq_getv rfl rfl (f := 1) rfl rfl ?_
      rw [Rs53.2.2.1]
      refine wp_ldi rfl tm_m0 ?_
      refine wq_calv [.int lt] rfl rfl rfl rfl rfl rfl rfl rfl rfl (th_frow9 Rs53.1) ?_
      rintro _ _ ⟨⟨zf, rfl, zf1, zf2⟩, rfl⟩
      refine wq_con (x := (-1)) rfl (by decide) ?_
      refine wq_icne rfl (fun h69 => ?_) (fun h69 => ?_)
      · refine wq_con (x := 0) rfl (by decide) ?_
        exact k77 0 lt s53 (Or.inl rfl) Rs53
      · refine wq_con (x := 1) rfl (by decide) ?_
        refine wp_go rfl ?_
        exact k77 1 lt s53 (Or.inr rfl) Rs53
  have k18 : ∀ z : Int32, (z = 0 ∨ z = 1) → WP 52 114 18 [(0, .ref 6)] [.int z, .ref 6] s (fun q s' => th_RD9 n σ s' ∧ (q = some (.int 0) ∨ q = some (.int 1))) := by
    intro z hz
    refine wq_con (x := 4) rfl (by decide) ?_
    refine wq_calv [.int z, .int 4] rfl rfl rfl rfl rfl rfl rfl rfl rfl (th_hold9 R (hz)) ?_
    rintro _ s19 ⟨rfl, Rs19, us19⟩
    have cs19 : s19.1 9 2 = s.1 9 2 := tv_un_i us19 rfl rfl
    have vs19 : s19.1 6 4 = s.1 6 4 := tv_un_i us19 rfl rfl
    refine wq_ifne rfl (fun h22 => ?_) (fun h22 => ?_)
    · refine wp_lda rfl tm_m0 ?_
      refine wq_calv [] rfl rfl rfl rfl rfl rfl rfl rfl rfl (WM.deep (th_adv9 hadv Rs19) (by decide)) ?_
      rintro _ s28 ⟨rfl, Rs28, us28⟩
      have cs28 : s28.1 9 2 = s19.1 9 2 := tv_un_i us28 rfl rfl
      refine wp_lda rfl tm_m0 ?_
      refine wq_geti rfl rfl (f := 4) rfl rfl (Or.inl rfl) ?_
      refine wq_sti [(1, .int (s28.1 6 4)), (0, .ref 6)] rfl rfl ?_
      refine wp_lda rfl tm_m1 ?_
      refine wp_lda rfl tm_m1 ?_
      refine wq_getv rfl rfl (f := 3) rfl rfl ?_
      refine wp_gsE rfl ?_
      refine wp_ac rfl (th_tkq Rs28.1) (by decide) (fun h44 => ?_) (fun h44 => ?_)
      · refine wq_con (x := 0) rfl (by decide) ?_
        exact k52 0 (s28.1 6 4) s28 (Or.inl rfl) Rs28
      · refine wq_con (x := 1) rfl (by decide) ?_
        refine wp_go rfl ?_
        exact k52 1 (s28.1 6 4) s28 (Or.inr rfl) Rs28
    · refine wq_con (x := 0) rfl (by decide) ?_
      exact wp_reti rfl (th_n0 rfl) ⟨Rs19, Or.inl rfl⟩
  show WP 52 114 0 [(0, .ref 6)] [] s _
  refine wp_lda rfl tm_m0 ?_
  refine wp_lda rfl tm_m0 ?_
  refine wq_getv rfl rfl (f := 1) rfl rfl ?_
  rw [R.2.2.1]
  refine wq_calv [] rfl rfl rfl rfl rfl rfl rfl rfl rfl (th_rowCount9) ?_
  rintro _ _ ⟨rfl, rfl⟩
  refine wq_con (x := 6) rfl (by decide) ?_
  refine wq_icge rfl (fun h10 => ?_) (fun h10 => ?_)
  · refine wq_con (x := 0) rfl (by decide) ?_
    exact k18 0 (Or.inl rfl)
  · refine wq_con (x := 1) rfl (by decide) ?_
    refine wp_go rfl ?_
    exact k18 1 (Or.inr rfl)
set_option maxRecDepth 100000 in
set_option maxHeartbeats 4000000 in
theorem th_xrvoice9 {n : Nat} {σ s : tm_S} (hn : n ≤ 12) (h3 : 3 ≤ n) (hadv : tv_Snd (tc_T (n : Int)) tz_adv) (R : th_RD9 n σ s) : WM 52 121 [.ref 6] s (fun q s' => th_RD9 n σ s' ∧ (q = some (.int 0) ∨ q = some (.int 1))) := by
  have k139 : ∀ (z kd r1 : Int32) (t : tm_S), (z = 0 ∨ z = 1) → th_RD9 n σ t → 0 ≤ r1.toInt → r1.toInt < (t.1 9 2).toInt → (z = 1 → 0 ≤ kd.toInt) → kd.toInt ≤ 3 → WP 52 121 139 [(2, .int kd), (1, .int r1), (0, .ref 6)] [.int z, .ref 6] t (fun q s' => th_RD9 n σ s' ∧ (q = some (.int 0) ∨ q = some (.int 1))) := by
    intro z kd r1 t hz Rt r2 r3 kd0 kd1
    refine wq_con (x := 1) rfl (by decide) ?_
    refine wq_calv [.int z, .int 1] rfl rfl rfl rfl rfl rfl rfl rfl rfl (th_hold9 Rt (hz)) ?_
    rintro _ s140 ⟨rfl, Rs140, us140⟩
    have cs140 : s140.1 9 2 = t.1 9 2 := tv_un_i us140 rfl rfl
    have vs140 : s140.1 6 4 = t.1 6 4 := tv_un_i us140 rfl rfl
    refine wq_ifne rfl (fun h143 => ?_) (fun h143 => ?_)
    · have kdz := kd0 (hz.resolve_left h143)
      have en1 : nI n - 1 = nI (n - 1) := by rw [show n = (n - 1) + 1 by omega]; exact nI_pred _
      refine wp_lda rfl tm_m2 ?_
      refine wq_calv [] rfl rfl rfl rfl rfl rfl rfl rfl rfl (WM.deep (th_adv9 hadv Rs140) (by decide)) ?_
      rintro _ s149 ⟨rfl, Rs149, us149⟩
      have cs149 : s149.1 9 2 = s140.1 9 2 := tv_un_i us149 rfl rfl
      refine wp_lda rfl tm_m2 ?_
      refine wq_geti rfl rfl (f := 4) rfl rfl (Or.inl rfl) ?_
      refine wq_sti [(3, .int (s149.1 6 4)), (2, .int kd), (1, .int r1), (0, .ref 6)] rfl rfl ?_
      refine wp_lda rfl tm_m3 ?_
      refine wp_lda rfl tm_m3 ?_
      refine wq_geti rfl rfl (f := 2) rfl rfl (Or.inl rfl) ?_
      rw [Rs149.2.2.2.1]
      refine wq_con (x := 1) rfl (by decide) ?_
      refine wq_isub rfl ?_
      rw [en1]
      refine wq_calv [.int (nI (n - 1))] rfl rfl rfl rfl rfl rfl rfl rfl rfl (th_pnum9 hadv Rs149) ?_
      rintro r164 s164 ⟨hr164, Rs164, us164⟩
      obtain ⟨z164, rfl, hz164⟩ : ∃ z : Int32, r164 = some (.int z) ∧ (¬ z = 0 → (s149.1 6 4).toInt ≤ (nI (n - 1)).toInt) := by
        rcases hr164 with ⟨rfl, g⟩ | rfl
        · exact ⟨_, rfl, fun _ => g⟩
        · exact ⟨_, rfl, fun e => absurd rfl e⟩
      have cs164 : s164.1 9 2 = s149.1 9 2 := tv_un_i us164 rfl rfl
      refine wq_ifeq rfl (fun h167 => ?_) (fun h167 => ?_)
      · refine wq_con (x := 0) rfl (by decide) ?_
        exact wp_reti rfl (th_n0 rfl) ⟨Rs164, Or.inl rfl⟩
      · have gt : 0 ≤ (s149.1 6 4).toInt ∧ (s149.1 6 4).toInt ≤ 255 := Rs149.1.1 6 4
        have gt1 := hz164 h167
        have gt2 : (s149.1 6 4).toInt < n := by rw [nI_toInt (by omega)] at gt1; omega
        refine wp_lda rfl tm_m3 ?_
        refine wp_gsE rfl ?_
        refine wq_calv [.ref 75] rfl rfl rfl rfl rfl rfl rfl rfl rfl (th_pass9 hadv Rs164 (by decide)) ?_
        rintro r174 s174 ⟨hr174, Rs174, us174⟩
        obtain ⟨z174, rfl⟩ : ∃ z : Int32, r174 = some (.int z) := by rcases hr174 with rfl | rfl <;> exact ⟨_, rfl⟩
        have cs174 : s174.1 9 2 = s164.1 9 2 := tv_un_i us174 rfl rfl
        refine wq_ifne rfl (fun h177 => ?_) (fun h177 => ?_)
        · refine wp_lda rfl tm_m3 ?_
          refine wq_geti rfl rfl (f := 4) rfl rfl (Or.inl rfl) ?_
          refine wq_sti [(4, .int (s174.1 6 4)), (3, .int (s149.1 6 4)), (2, .int kd), (1, .int r1), (0, .ref 6)] rfl rfl ?_
          refine wp_lda rfl tm_m4 ?_
          refine wq_con (x := 40) rfl (by decide) ?_
          refine wq_calv [.int 40] rfl rfl rfl rfl rfl rfl rfl rfl rfl (th_pnum9 hadv Rs174) ?_
          rintro r191 s191 ⟨hr191, Rs191, us191⟩
          obtain ⟨z191, rfl, hz191⟩ : ∃ z : Int32, r191 = some (.int z) ∧ (¬ z = 0 → (s174.1 6 4).toInt ≤ (40 : Int32).toInt) := by
            rcases hr191 with ⟨rfl, g⟩ | rfl
            · exact ⟨_, rfl, fun _ => g⟩
            · exact ⟨_, rfl, fun e => absurd rfl e⟩
          have cs191 : s191.1 9 2 = s174.1 9 2 := tv_un_i us191 rfl rfl
          refine wq_ifeq rfl (fun h194 => ?_) (fun h194 => ?_)
          · refine wq_con (x := 0) rfl (by decide) ?_
            exact wp_reti rfl (th_n0 rfl) ⟨Rs191, Or.inl rfl⟩
          · refine wp_lda rfl tm_m4 ?_
            refine wp_gsE rfl ?_
            refine wq_calv [.ref 79] rfl rfl rfl rfl rfl rfl rfl rfl rfl (th_pass9 hadv Rs191 (by decide)) ?_
            rintro r201 s201 ⟨hr201, Rs201, us201⟩
            obtain ⟨z201, rfl⟩ : ∃ z : Int32, r201 = some (.int z) := by rcases hr201 with rfl | rfl <;> exact ⟨_, rfl⟩
            have cs201 : s201.1 9 2 = s191.1 9 2 := tv_un_i us201 rfl rfl
            refine wq_ifne rfl (fun h204 => ?_) (fun h204 => ?_)
            · refine wp_lda rfl tm_m4 ?_
              refine wq_getv rfl rfl (f := 1) rfl rfl ?_
              rw [Rs201.2.2.1]
              refine wp_ldi rfl tm_m3 ?_
              refine wp_ldi rfl tm_m2 ?_
              refine wp_ldi rfl tm_m1 ?_
              refine wp_ldi rfl tm_m0 ?_
              refine wq_calv [.int r1, .int kd, .int (s149.1 6 4), .int (s174.1 6 4)] rfl rfl rfl rfl rfl rfl rfl rfl rfl (th_avoice9 Rs201 r2 (by rw [cs201, cs191, cs174, cs164, cs149, cs140]; exact r3) kdz kd1 gt.1 gt2) ?_
              rintro _ s218 ⟨rfl, Rs218⟩
              refine wq_con (x := 1) rfl (by decide) ?_
              exact wp_reti rfl (th_n1 rfl) ⟨Rs218, Or.inr rfl⟩
            · refine wq_con (x := 0) rfl (by decide) ?_
              exact wp_reti rfl (th_n0 rfl) ⟨Rs201, Or.inl rfl⟩
        · refine wq_con (x := 0) rfl (by decide) ?_
          exact wp_reti rfl (th_n0 rfl) ⟨Rs174, Or.inl rfl⟩
    · refine wq_con (x := 0) rfl (by decide) ?_
      exact wp_reti rfl (th_n0 rfl) ⟨Rs140, Or.inl rfl⟩
  have k128 : ∀ (kd r1 : Int32) (t : tm_S), th_RD9 n σ t → 0 ≤ r1.toInt → r1.toInt < (t.1 9 2).toInt → kd.toInt ≤ 3 → WP 52 121 128 [(1, .int r1), (0, .ref 6)] [.int kd] t (fun q s' => th_RD9 n σ s' ∧ (q = some (.int 0) ∨ q = some (.int 1))) := by
    intro kd r1 t Rt r2 r3 kd1
    refine wq_sti [(2, .int kd), (1, .int r1), (0, .ref 6)] rfl rfl ?_
    refine wp_lda rfl tm_m2 ?_
    refine wp_ldi rfl tm_m0 ?_
    refine wq_iflt rfl (fun h131 => ?_) (fun h131 => ?_)
    · have g131 : (kd).toInt < 0 := tn_ltI.mp h131
      refine wq_con (x := 0) rfl (by decide) ?_
      exact WP.less (k139 0 kd r1 t (Or.inl rfl) Rt r2 r3 (fun e => absurd e (by decide)) kd1) (by simp)
    · have g131 : ¬ (kd).toInt < 0 := fun g => h131 (tn_ltI.mpr g)
      refine wq_con (x := 1) rfl (by decide) ?_
      refine wp_go rfl ?_
      exact WP.less (k139 1 kd r1 t (Or.inr rfl) Rt r2 r3 (fun e => by change ¬ kd.toInt < (0 : Int) at g131; omega) kd1) (by simp)
  have k91 : ∀ (z r1 : Int32) (t : tm_S), (z = 0 ∨ z = 1) → th_RD9 n σ t → (z = 1 → 0 ≤ r1.toInt) → r1.toInt < (t.1 9 2).toInt → WP 52 121 91 [(1, .int r1), (0, .ref 6)] [.int z, .ref 6] t (fun q s' => th_RD9 n σ s' ∧ (q = some (.int 0) ∨ q = some (.int 1))) := by
    intro z r1 t hz Rt r2 r3
    refine wq_con (x := 2) rfl (by decide) ?_
    refine wq_calv [.int z, .int 2] rfl rfl rfl rfl rfl rfl rfl rfl rfl (th_hold9 Rt (hz)) ?_
    rintro _ s92 ⟨rfl, Rs92, us92⟩
    have cs92 : s92.1 9 2 = t.1 9 2 := tv_un_i us92 rfl rfl
    have vs92 : s92.1 6 4 = t.1 6 4 := tv_un_i us92 rfl rfl
    refine wq_ifne rfl (fun h95 => ?_) (fun h95 => ?_)
    · have rz := r2 (hz.resolve_left h95)
      refine wp_lda rfl tm_m1 ?_
      refine wq_calv [] rfl rfl rfl rfl rfl rfl rfl rfl rfl (WM.deep (th_adv9 hadv Rs92) (by decide)) ?_
      rintro _ s101 ⟨rfl, Rs101, us101⟩
      have cs101 : s101.1 9 2 = s92.1 9 2 := tv_un_i us101 rfl rfl
      refine wp_lda rfl tm_m1 ?_
      refine wq_getv rfl rfl (f := 3) rfl rfl ?_
      refine wp_gsE rfl ?_
      refine wp_ac rfl (th_tkq Rs101.1) (by decide) (fun h111 => ?_) (fun h111 => ?_)
      · refine wq_con (x := (-1)) rfl (by decide) ?_
        exact WP.less (k128 (-1) r1 s101 Rs101 rz (by rw [cs101, cs92]; exact r3) (by decide)) (by simp)
      · refine wp_str rfl ?_
        refine wp_lda rfl tm_m1 ?_
        refine wq_geti rfl rfl (f := 4) rfl rfl (Or.inl rfl) ?_
        refine wp_i2c rfl ?_
        refine wq_calS [.int (((s101.1 6 4).toUInt32 % 65536).toInt32)] rfl rfl rfl rfl rfl rfl rfl (by decide) (WM.deep (th_io2 (q := 3) (d := 37) (by decide) (c := (((s101.1 6 4).toUInt32 % 65536).toInt32)) (by decide)) (by decide)) ?_
        rintro _ _ ⟨⟨zi, rfl, zi1, zi2⟩, rfl⟩
        have zi3 : zi.toInt < (4 : Nat) := zi2
        refine wp_go rfl ?_
        exact WP.less (k128 zi r1 s101 Rs101 rz (by rw [cs101, cs92]; exact r3) (by omega)) (by simp)
    · refine wq_con (x := 0) rfl (by decide) ?_
      exact wp_reti rfl (th_n0 rfl) ⟨Rs92, Or.inl rfl⟩
  have k73 : ∀ (z r1 : Int32) (t : tm_S), (z = 0 ∨ z = 1) → th_RD9 n σ t → -1 ≤ r1.toInt → r1.toInt < (t.1 9 2).toInt → WP 52 121 73 [(1, .int r1), (0, .ref 6)] [.int z, .ref 6] t (fun q s' => th_RD9 n σ s' ∧ (q = some (.int 0) ∨ q = some (.int 1))) := by
    intro z r1 t hz Rt r2 r3
    refine wq_con (x := 1) rfl (by decide) ?_
    refine wq_calv [.int z, .int 1] rfl rfl rfl rfl rfl rfl rfl rfl rfl (th_hold9 Rt (hz)) ?_
    rintro _ s74 ⟨rfl, Rs74, us74⟩
    have cs74 : s74.1 9 2 = t.1 9 2 := tv_un_i us74 rfl rfl
    have vs74 : s74.1 6 4 = t.1 6 4 := tv_un_i us74 rfl rfl
    refine wq_ifeq rfl (fun h77 => ?_) (fun h77 => ?_)
    · refine wq_con (x := 0) rfl (by decide) ?_
      exact wp_reti rfl (th_n0 rfl) ⟨Rs74, Or.inl rfl⟩
    · refine wp_lda rfl tm_m1 ?_
      refine wp_ldi rfl tm_m0 ?_
      refine wq_con (x := (-1)) rfl (by decide) ?_
      refine wq_iceq rfl (fun h83 => ?_) (fun h83 => ?_)
      · refine wq_con (x := 0) rfl (by decide) ?_
        exact k91 0 r1 s74 (Or.inl rfl) Rs74 (fun e => absurd e (by decide)) (by rw [cs74]; exact r3)
      · refine wq_con (x := 1) rfl (by decide) ?_
        refine wp_go rfl ?_
        exact k91 1 r1 s74 (Or.inr rfl) Rs74 (fun e => by have : ¬ r1.toInt = -1 := fun x => h83 (Int32.toInt_inj.mp x); omega) (by rw [cs74]; exact r3)
  have k56 : ∀ (r1 : Int32) (t : tm_S), th_RD9 n σ t → -1 ≤ r1.toInt → r1.toInt < (t.1 9 2).toInt → WP 52 121 56 [(0, .ref 6)] [.int r1] t (fun q s' => th_RD9 n σ s' ∧ (q = some (.int 0) ∨ q = some (.int 1))) := by
    intro r1 t Rt r2 r3
    refine wq_sti [(1, .int r1), (0, .ref 6)] rfl rfl ?_
    refine wp_lda rfl tm_m1 ?_
    refine wp_lda rfl tm_m1 ?_
    refine wq_getv rfl rfl (f := 3) rfl rfl ?_
    refine wp_gsE rfl ?_
    refine wp_ac rfl (th_tkq Rt.1) (by decide) (fun h65 => ?_) (fun h65 => ?_)
    · refine wq_con (x := 0) rfl (by decide) ?_
      exact WP.less (k73 0 r1 t (Or.inl rfl) Rt r2 r3) (by simp)
    · refine wq_con (x := 1) rfl (by decide) ?_
      refine wp_go rfl ?_
      exact WP.less (k73 1 r1 t (Or.inr rfl) Rt r2 r3) (by simp)
  have k18 : ∀ z : Int32, (z = 0 ∨ z = 1) → WP 52 121 18 [(0, .ref 6)] [.int z, .ref 6] s (fun q s' => th_RD9 n σ s' ∧ (q = some (.int 0) ∨ q = some (.int 1))) := by
    intro z hz
    refine wq_con (x := 4) rfl (by decide) ?_
    refine wq_calv [.int z, .int 4] rfl rfl rfl rfl rfl rfl rfl rfl rfl (th_hold9 R (hz)) ?_
    rintro _ s19 ⟨rfl, Rs19, us19⟩
    have cs19 : s19.1 9 2 = s.1 9 2 := tv_un_i us19 rfl rfl
    have vs19 : s19.1 6 4 = s.1 6 4 := tv_un_i us19 rfl rfl
    refine wq_ifne rfl (fun h22 => ?_) (fun h22 => ?_)
    · refine wp_lda rfl tm_m0 ?_
      refine wq_calv [] rfl rfl rfl rfl rfl rfl rfl rfl rfl (WM.deep (th_adv9 hadv Rs19) (by decide)) ?_
      rintro _ s28 ⟨rfl, Rs28, us28⟩
      have cs28 : s28.1 9 2 = s19.1 9 2 := tv_un_i us28 rfl rfl
      have gr : 0 ≤ (s28.1 9 2).toInt := (Rs28.1.1 9 2).1
      refine wp_lda rfl tm_m0 ?_
      refine wq_getv rfl rfl (f := 3) rfl rfl ?_
      refine wp_gsE rfl ?_
      refine wp_ac rfl (th_tkq Rs28.1) (by decide) (fun h38 => ?_) (fun h38 => ?_)
      · refine wq_con (x := (-1)) rfl (by decide) ?_
        exact k56 (-1) s28 Rs28 (by decide) (by show (-1 : Int) < _; omega)
      · refine wp_lda rfl tm_m0 ?_
        refine wq_getv rfl rfl (f := 1) rfl rfl ?_
        rw [Rs28.2.2.1]
        refine wp_lda rfl tm_m0 ?_
        refine wq_geti rfl rfl (f := 4) rfl rfl (Or.inl rfl) ?_
        refine wq_calv [.int (s28.1 6 4)] rfl rfl rfl rfl rfl rfl rfl rfl rfl (th_frow9 Rs28.1) ?_
        rintro _ _ ⟨⟨zf, rfl, zf1, zf2⟩, rfl⟩
        refine wp_go rfl ?_
        exact k56 zf s28 Rs28 zf1 zf2
    · refine wq_con (x := 0) rfl (by decide) ?_
      exact wp_reti rfl (th_n0 rfl) ⟨Rs19, Or.inl rfl⟩
  show WP 52 121 0 [(0, .ref 6)] [] s _
  refine wp_lda rfl tm_m0 ?_
  refine wp_lda rfl tm_m0 ?_
  refine wq_getv rfl rfl (f := 1) rfl rfl ?_
  rw [R.2.2.1]
  refine wq_calv [] rfl rfl rfl rfl rfl rfl rfl rfl rfl (th_voiceCount9) ?_
  rintro _ _ ⟨rfl, rfl⟩
  refine wq_con (x := 8) rfl (by decide) ?_
  refine wq_icge rfl (fun h10 => ?_) (fun h10 => ?_)
  · refine wq_con (x := 0) rfl (by decide) ?_
    exact k18 0 (Or.inl rfl)
  · refine wq_con (x := 1) rfl (by decide) ?_
    refine wp_go rfl ?_
    exact k18 1 (Or.inr rfl)
set_option maxRecDepth 100000 in
set_option maxHeartbeats 4000000 in
theorem th_xread9 {n : Nat} {σ : tm_S} (hn : n ≤ 12) (h3 : 3 ≤ n) (hadv : tv_Snd (tc_T (n : Int)) tz_adv) (hT : tv_TY (tc_T (n : Int)) σ) (hm : σ.2.2 6 1 = 9) : WM 53 98 [.ref 6, .int (nI n)] σ (fun q s' => th_RD9 n σ s' ∧ (q = some (.int 0) ∨ q = some (.int 1))) := by
  have k119 : ∀ (z w : Int32) (t : tm_S), (z = 0 ∨ z = 1) → th_RD9 n σ t → WP 53 98 119 [(2, .int w), (0, .ref 6)] [.int z, .ref 6] t (fun q s' => th_RD9 n σ s' ∧ (q = some (.int 0) ∨ q = some (.int 1))) := by
    intro z w t hz Rt
    refine wq_con (x := 1) rfl (by decide) ?_
    refine wq_calv [.int z, .int 1] rfl rfl rfl rfl rfl rfl rfl rfl rfl (th_hold9 Rt (hz)) ?_
    rintro _ s120 ⟨rfl, Rs120, us120⟩
    have cs120 : s120.1 9 2 = t.1 9 2 := tv_un_i us120 rfl rfl
    have vs120 : s120.1 6 4 = t.1 6 4 := tv_un_i us120 rfl rfl
    refine wq_ifeq rfl (fun h123 => ?_) (fun h123 => ?_)
    · refine wq_con (x := 0) rfl (by decide) ?_
      exact wp_reti rfl (th_n0 rfl) ⟨Rs120, Or.inl rfl⟩
    · refine wq_con (x := 1) rfl (by decide) ?_
      refine wp_go rfl ?_
      exact wp_reti rfl (th_n1 rfl) ⟨Rs120, Or.inr rfl⟩
  have k99 : ∀ (w : Int32) (t : tm_S), th_RD9 n σ t → WP 53 98 99 [(2, .int w), (0, .ref 6)] [] t (fun q s' => th_RD9 n σ s' ∧ (q = some (.int 0) ∨ q = some (.int 1))) := by
    intro w t Rt
    refine wp_ldi rfl tm_m0 ?_
    refine wq_ifeq rfl (fun h100 => ?_) (fun h100 => ?_)
    · refine wq_con (x := 0) rfl (by decide) ?_
      exact wp_reti rfl (th_n0 rfl) ⟨Rt, Or.inl rfl⟩
    · refine wp_lda rfl tm_m1 ?_
      refine wp_lda rfl tm_m1 ?_
      refine wq_getv rfl rfl (f := 3) rfl rfl ?_
      refine wp_gsE rfl ?_
      refine wp_ac rfl (th_tkq Rt.1) (by decide) (fun h111 => ?_) (fun h111 => ?_)
      · refine wq_con (x := 0) rfl (by decide) ?_
        exact k119 0 w t (Or.inl rfl) Rt
      · refine wq_con (x := 1) rfl (by decide) ?_
        refine wp_go rfl ?_
        exact k119 1 w t (Or.inr rfl) Rt
  have k68 : ∀ (m : Nat) (w i : Int32) (t : tm_S), th_RD9 n σ t → 0 ≤ i.toInt → 9 ≤ i.toInt + m → WP 53 98 68 [(3, .int i), (2, .int w), (0, .ref 6)] [] t (fun q s' => th_RD9 n σ s' ∧ (q = some (.int 0) ∨ q = some (.int 1))) := by
    intro m
    induction m with
    | zero =>
      intro w i t Rt hi hm2
      refine wp_ldi rfl tm_m0 ?_
      refine wq_con (x := 8) rfl (by decide) ?_
      refine wq_icgt rfl (fun h71 => ?_) (fun h71 => absurd (tn_ltI.mpr (by show (8 : Int) < _; omega)) h71)
      have g71 : 8 < (i).toInt := tn_ltI.mp h71
      exact WP.less (k99 w t Rt) (by simp)
    | succ m ih =>
      intro w i t Rt hi hm2
      refine wp_ldi rfl tm_m0 ?_
      refine wq_con (x := 8) rfl (by decide) ?_
      refine wq_icgt rfl (fun h71 => ?_) (fun h71 => ?_)
      · have g71 : 8 < (i).toInt := tn_ltI.mp h71
        exact WP.less (k99 w t Rt) (by simp)
      · have g71 : ¬ 8 < (i).toInt := fun g => h71 (tn_ltI.mpr g)
        refine wp_ldi rfl tm_m1 ?_
        refine wq_ifeq rfl (fun h75 => ?_) (fun h75 => ?_)
        · have g75 : (w).toInt = 0 := congrArg Int32.toInt h75
          exact WP.less (k99 w t Rt) (by simp)
        · refine wp_lda rfl tm_m2 ?_
          refine wq_getv rfl rfl (f := 3) rfl rfl ?_
          refine wp_gsE rfl ?_
          refine wp_ac rfl (th_tkq Rt.1) (by decide) (fun h85 => ?_) (fun h85 => ?_)
          · exact WP.less (k99 w t Rt) (by simp)
          · refine wp_lda rfl tm_m2 ?_
            refine wq_calv [] rfl rfl rfl rfl rfl rfl rfl rfl rfl (th_xrvoice9 hn h3 hadv Rt) ?_
            rintro rq t2 ⟨R2, hrq⟩
            obtain ⟨zq, rfl⟩ : ∃ z : Int32, rq = some (.int z) := by rcases hrq with rfl | rfl <;> exact ⟨_, rfl⟩
            refine wq_sti [(2, .int zq), (3, .int i), (0, .ref 6)] rfl rfl ?_
            refine wq_inc (c := 1) [(3, .int (i + 1)), (2, .int zq), (0, .ref 6)] rfl tm_m1 rfl rfl ?_
            refine wp_go rfl ?_
            have e1 := tn_add1 (x := i) (by change ¬ (8 : Int) < _ at g71; omega)
            exact WP.less (ih zq (i + 1) t2 R2 (by omega) (by omega)) (by simp)
  have k35 : ∀ (m : Nat) (w i : Int32) (t : tm_S), th_RD9 n σ t → 0 ≤ i.toInt → 7 ≤ i.toInt + m → WP 53 98 35 [(3, .int i), (2, .int w), (0, .ref 6)] [] t (fun q s' => th_RD9 n σ s' ∧ (q = some (.int 0) ∨ q = some (.int 1))) := by
    intro m
    induction m with
    | zero =>
      intro w i t Rt hi hm2
      refine wp_ldi rfl tm_m0 ?_
      refine wq_con (x := 6) rfl (by decide) ?_
      refine wq_icgt rfl (fun h38 => ?_) (fun h38 => absurd (tn_ltI.mpr (by show (6 : Int) < _; omega)) h38)
      have g38 : 6 < (i).toInt := tn_ltI.mp h38
      refine wq_con (x := 0) rfl (by decide) ?_
      refine wq_sti [(3, .int 0), (2, .int w), (0, .ref 6)] rfl rfl ?_
      exact k68 9 w 0 t Rt (by decide) (by decide)
    | succ m ih =>
      intro w i t Rt hi hm2
      refine wp_ldi rfl tm_m0 ?_
      refine wq_con (x := 6) rfl (by decide) ?_
      refine wq_icgt rfl (fun h38 => ?_) (fun h38 => ?_)
      · have g38 : 6 < (i).toInt := tn_ltI.mp h38
        refine wq_con (x := 0) rfl (by decide) ?_
        refine wq_sti [(3, .int 0), (2, .int w), (0, .ref 6)] rfl rfl ?_
        exact k68 9 w 0 t Rt (by decide) (by decide)
      · have g38 : ¬ 6 < (i).toInt := fun g => h38 (tn_ltI.mpr g)
        refine wp_ldi rfl tm_m1 ?_
        refine wq_ifeq rfl (fun h42 => ?_) (fun h42 => ?_)
        · have g42 : (w).toInt = 0 := congrArg Int32.toInt h42
          refine wq_con (x := 0) rfl (by decide) ?_
          refine wq_sti [(3, .int 0), (2, .int w), (0, .ref 6)] rfl rfl ?_
          exact k68 9 w 0 t Rt (by decide) (by decide)
        · refine wp_lda rfl tm_m2 ?_
          refine wq_getv rfl rfl (f := 3) rfl rfl ?_
          refine wp_gsE rfl ?_
          refine wp_ac rfl (th_tkq Rt.1) (by decide) (fun h52 => ?_) (fun h52 => ?_)
          · refine wq_con (x := 0) rfl (by decide) ?_
            refine wq_sti [(3, .int 0), (2, .int w), (0, .ref 6)] rfl rfl ?_
            exact k68 9 w 0 t Rt (by decide) (by decide)
          · refine wp_lda rfl tm_m2 ?_
            refine wq_calv [] rfl rfl rfl rfl rfl rfl rfl rfl rfl (th_xrrow9 hn h3 hadv Rt) ?_
            rintro rq t2 ⟨R2, hrq⟩
            obtain ⟨zq, rfl⟩ : ∃ z : Int32, rq = some (.int z) := by rcases hrq with rfl | rfl <;> exact ⟨_, rfl⟩
            refine wq_sti [(2, .int zq), (3, .int i), (0, .ref 6)] rfl rfl ?_
            refine wq_inc (c := 1) [(3, .int (i + 1)), (2, .int zq), (0, .ref 6)] rfl tm_m1 rfl rfl ?_
            refine wp_go rfl ?_
            have e1 := tn_add1 (x := i) (by change ¬ (6 : Int) < _ at g38; omega)
            exact WP.less (ih zq (i + 1) t2 R2 (by omega) (by omega)) (by simp)
  show WP 53 98 0 [(0, .ref 6), (1, .int (nI n))] [] σ _
  refine wp_lda rfl tm_m0 ?_
  refine wp_ldi rfl tm_m1 ?_
  refine wq_puti rfl rfl (f := 2) rfl rfl ?_
  refine wp_lda rfl tm_m0 ?_
  refine wq_con (x := 0) rfl (by decide) ?_
  refine wq_puti rfl rfl (f := 6) rfl rfl ?_
  refine wp_lda rfl tm_m0 ?_
  refine wq_con (x := 0) rfl (by decide) ?_
  refine wq_puti rfl rfl (f := 7) rfl rfl ?_
  refine wp_lda rfl tm_m0 ?_
  refine wq_con (x := (-1)) rfl (by decide) ?_
  refine wq_puti rfl rfl (f := 8) rfl rfl ?_
  refine wp_lda rfl tm_m0 ?_
  refine wq_getv rfl rfl (f := 1) rfl rfl ?_
  rw [show (tm_sI (tm_sI (tm_sI (tm_sI σ 6 2 (nI n)) 6 6 0) 6 7 0) 6 8 (-1)).2.2 6 1 = 9 from hm]
  refine wq_calv [] rfl rfl rfl rfl rfl rfl rfl rfl rfl (th_clear9) ?_
  rintro _ τ ⟨rfl, hτ⟩
  have eN : (nI n).toInt = n := nI_toInt (by omega)
  have Rτ : th_RD9 n σ τ := by
    rw [hτ]
    have z2 : (tm_sI (tm_sI (tm_sI (tm_sI (tm_sI (tm_sI σ 6 2 (nI n)) 6 6 0) 6 7 0) 6 8 (-1)) 9 2 0) 9 7 0).1 9 2 = 0 := by rw [tm_gI, if_neg (fun e => absurd e.2 (by decide)), tm_gI, if_pos ⟨rfl, rfl⟩]
    have z7 : (tm_sI (tm_sI (tm_sI (tm_sI (tm_sI (tm_sI σ 6 2 (nI n)) 6 6 0) 6 7 0) 6 8 (-1)) 9 2 0) 9 7 0).1 9 7 = 0 := by rw [tm_gI, if_pos ⟨rfl, rfl⟩]
    refine ⟨tv_TY_sI (tv_TY_sI (tv_TY_sI (tv_TY_sI (tv_TY_sI (tv_TY_sI hT (by rw [eN]; show (0 : Int) ≤ _; omega) (by rw [eN]; show _ ≤ (12 : Int); omega)) (by show (0 : Int) ≤ (0 : Int32).toInt; decide) (by show (0 : Int32).toInt ≤ (800 : Int); decide)) (tn_rng _).1 (tn_rng _).2) (tn_rng _).1 (tn_rng _).2) (by show (0 : Int) ≤ (0 : Int32).toInt; decide) (by show (0 : Int32).toInt ≤ (6 : Int); decide)) (by show (0 : Int) ≤ (0 : Int32).toInt; decide) (by show (0 : Int32).toInt ≤ (8 : Int); decide), tv_un_tr (tv_un_tr (tv_un_tr (tv_un_tr (tv_un_tr (tv_un_fI rfl) (tv_un_fI rfl)) (tv_un_fI rfl)) (tv_un_fI rfl)) (tv_un_fI rfl)) (tv_un_fI rfl), hm, by rw [tm_gI, if_neg (fun e => absurd e.1 (by decide)), tm_gI, if_neg (fun e => absurd e.1 (by decide)), tm_gI, if_neg (fun e => absurd e.2 (by decide)), tm_gI, if_neg (fun e => absurd e.2 (by decide)), tm_gI, if_neg (fun e => absurd e.2 (by decide)), tm_gI, if_pos ⟨rfl, rfl⟩], fun r hr => ?_, fun u hu => ?_⟩
    · rw [z2] at hr
      change (r : Int) < 0 at hr
      omega
    · rw [z7] at hu
      change (u : Int) < 0 at hu
      omega
  refine wp_lda rfl tm_m0 ?_
  refine wq_calv [] rfl rfl rfl rfl rfl rfl rfl rfl rfl (WM.deep (th_adv9 hadv Rτ) (by decide)) ?_
  rintro _ s28 ⟨rfl, Rs28, us28⟩
  have cs28 : s28.1 9 2 = τ.1 9 2 := tv_un_i us28 rfl rfl
  refine wq_con (x := 1) rfl (by decide) ?_
  refine wq_sti [(2, .int 1), (0, .ref 6), (1, .int (nI n))] rfl rfl ?_
  refine wq_con (x := 0) rfl (by decide) ?_
  refine wq_sti [(3, .int 0), (2, .int 1), (0, .ref 6), (1, .int (nI n))] rfl rfl ?_
  exact WP.less (k35 7 1 0 s28 Rs28 (by decide) (by decide)) (by simp)
def th_RD10 (n : Nat) (σ s : tm_S) : Prop := tv_TY (tc_T (n : Int)) s ∧ tv_un σ s [(6, 2), (6, 3), (6, 4), (6, 5), (6, 6), (6, 7), (6, 8), (10, 2), (10, 7), (37, 64), (38, 64), (39, 64), (40, 64), (41, 64), (42, 64)] ∧ s.2.2 6 1 = 10 ∧ s.1 6 2 = nI n ∧ th_CS n s 10
theorem th_RDu10 {n : Nat} {σ s s' : tm_S} {w : List (Nat × Nat)} (R : th_RD10 n σ s) (hT : tv_TY (tc_T (n : Int)) s') (hu : tv_un s s' w) (h1 : w.all (fun q => tv_mem [(6, 2), (6, 3), (6, 4), (6, 5), (6, 6), (6, 7), (6, 8), (10, 2), (10, 7), (37, 64), (38, 64), (39, 64), (40, 64), (41, 64), (42, 64)] q.1 q.2) = true := by rfl) (h2 : (tv_mem w 6 1 || tv_mem w 6 2 || tv_mem w 10 2 || tv_mem w 10 7 || tv_mem w 37 64 || tv_mem w 39 64 || tv_mem w 41 64) = false := by rfl) : th_RD10 n σ s' := by
  simp only [Bool.or_eq_false_iff] at h2
  obtain ⟨⟨⟨⟨⟨⟨a1, a2⟩, a3⟩, a4⟩, a5⟩, a6⟩, a7⟩ := h2
  have e3 : s'.1 10 2 = s.1 10 2 := tv_un_i hu rfl a3
  have e4 : s'.1 10 7 = s.1 10 7 := tv_un_i hu rfl a4
  have e5 := (tv_un_a hu (k := 37) rfl a5).2
  have e6 := (tv_un_a hu (k := 39) rfl a6).1
  have e7 := (tv_un_a hu (k := 41) rfl a7).1
  refine ⟨hT, tv_un_tr R.2.1 (tv_un_mo hu (fun q hq => List.all_eq_true.mp h1 q hq)), by rw [tv_un_r hu rfl a1]; exact R.2.2.1, by rw [tv_un_i hu rfl a2]; exact R.2.2.2.1, fun r hr => ?_, fun u hu2 => ?_⟩
  · rw [e3] at hr
    have := R.2.2.2.2.1 r hr
    show ∀ i : Nat, i < n → th_nb (s'.2.1 37 r) i < n
    rw [e5]
    exact this
  · rw [e4] at hu2
    have := R.2.2.2.2.2 u hu2
    show (s'.1 39 u).toInt < (s'.1 10 2).toInt ∧ 0 ≤ (s'.1 41 u).toInt ∧ (s'.1 41 u).toInt < n
    rw [e3, e6, e7]
    exact this
set_option maxRecDepth 100000 in
set_option maxHeartbeats 4000000 in
theorem th_hold10 {d n : Nat} {z k : Int32} {σ s : tm_S} (R : th_RD10 n σ s) (hz : z = 0 ∨ z = 1) : WM d 116 [.ref 6, .int z, .int k] s (fun q s' => q = some (.int z) ∧ th_RD10 n σ s' ∧ tv_un s s' [(6, 7), (6, 8)]) := by
  have gp : 0 ≤ (s.1 6 5).toInt ∧ (s.1 6 5).toInt ≤ 800 := R.1.1 6 5
  show WP d 116 0 [(0, .ref 6), (1, .int z), (2, .int k)] [] s _
  refine wp_ldi rfl tm_m1 ?_
  refine wq_ifne rfl (fun h1 => ?_) (fun h1 => ?_)
  · refine wp_ldi rfl tm_m1 ?_
    exact wp_reti rfl (th_nz rfl hz) ⟨rfl, R, tv_un_rf⟩
  · refine wp_lda rfl tm_m0 ?_
    refine wp_ldi rfl tm_m2 ?_
    refine wq_puti rfl rfl (f := 7) rfl rfl ?_
    refine wp_lda rfl tm_m0 ?_
    refine wp_lda rfl tm_m0 ?_
    refine wq_geti rfl rfl (f := 5) rfl rfl (Or.inl rfl) ?_
    refine wq_puti rfl rfl (f := 8) rfl rfl ?_
    refine wp_ldi rfl tm_m1 ?_
    have hu : tv_un s (tm_sI (tm_sI s 6 7 k) 6 8 ((tm_sI s 6 7 k).1 6 5)) [(6, 7), (6, 8)] := tv_un_tr (tv_un_fI rfl) (tv_un_fI rfl)
    exact wp_reti rfl (th_nz rfl hz) ⟨rfl, th_RDu10 R (tv_TY_sI (tv_TY_sI R.1 (tn_rng _).1 (tn_rng _).2) (tn_rng _).1 (tn_rng _).2) hu, hu⟩
set_option maxRecDepth 100000 in
set_option maxHeartbeats 4000000 in
theorem th_adv10 {n : Nat} {σ s : tm_S} (hadv : tv_Snd (tc_T (n : Int)) tz_adv) (R : th_RD10 n σ s) : WM 50 99 [.ref 6] s (fun q s' => q = none ∧ th_RD10 n σ s' ∧ tv_un s s' [(6, 3), (6, 4), (6, 5), (6, 6)]) := by
  refine WM.mono (hadv [.ref 6] s ⟨⟨_, rfl, by decide, by decide⟩, trivial⟩ R.1) ?_
  intro q s' hq
  obtain ⟨h1, h2, h3⟩ := tq_adv hq
  exact ⟨h3, th_RDu10 R h1 h2, h2⟩
set_option maxRecDepth 100000 in
set_option maxHeartbeats 4000000 in
theorem th_pass10 {n a : Nat} {σ s : tm_S} (hadv : tv_Snd (tc_T (n : Int)) tz_adv) (R : th_RD10 n σ s) (ha : a < tt_NQ) : WM 51 118 [.ref 6, .ref a] s (fun q s' => (q = some (.int 0) ∨ q = some (.int 1)) ∧ th_RD10 n σ s' ∧ tv_un s s' [(6, 3), (6, 4), (6, 5), (6, 6), (6, 7), (6, 8)]) := by
  have k14 : ∀ z : Int32, (z = 0 ∨ z = 1) → WP 51 118 14 [(0, .ref 6), (1, .ref a)] [.int z, .ref 6] s (fun q s' => (q = some (.int 0) ∨ q = some (.int 1)) ∧ th_RD10 n σ s' ∧ tv_un s s' [(6, 3), (6, 4), (6, 5), (6, 6), (6, 7), (6, 8)]) := by
    intro z hz
    refine wq_con (x := 1) rfl (by decide) ?_
    refine wq_calv [.int z, .int 1] rfl rfl rfl rfl rfl rfl rfl rfl rfl (th_hold10 R (hz)) ?_
    rintro _ s15 ⟨rfl, Rs15, us15⟩
    have cs15 : s15.1 10 2 = s.1 10 2 := tv_un_i us15 rfl rfl
    have vs15 : s15.1 6 4 = s.1 6 4 := tv_un_i us15 rfl rfl
    refine wq_ifne rfl (fun h18 => ?_) (fun h18 => ?_)
    · refine wp_lda rfl tm_m0 ?_
      refine wq_calv [] rfl rfl rfl rfl rfl rfl rfl rfl rfl (WM.deep (th_adv10 hadv Rs15) (by decide)) ?_
      rintro _ s24 ⟨rfl, Rs24, us24⟩
      have cs24 : s24.1 10 2 = s15.1 10 2 := tv_un_i us24 rfl rfl
      refine wq_con (x := 1) rfl (by decide) ?_
      exact wp_reti rfl (th_n1 rfl) ⟨Or.inr rfl, Rs24, tv_un_tr (tv_un_mo us15 (by decide)) (tv_un_mo us24 (by decide))⟩
    · refine wq_con (x := 0) rfl (by decide) ?_
      exact wp_reti rfl (th_n0 rfl) ⟨Or.inl rfl, Rs15, tv_un_mo us15 (by decide)⟩
  show WP 51 118 0 [(0, .ref 6), (1, .ref a)] [] s _
  refine wp_lda rfl tm_m0 ?_
  refine wp_lda rfl tm_m0 ?_
  refine wq_getv rfl rfl (f := 3) rfl rfl ?_
  refine wp_lda rfl tm_m1 ?_
  refine wp_ac rfl (th_tkq R.1) ha (fun h6 => ?_) (fun h6 => ?_)
  · refine wq_con (x := 0) rfl (by decide) ?_
    exact k14 0 (Or.inl rfl)
  · refine wq_con (x := 1) rfl (by decide) ?_
    refine wp_go rfl ?_
    exact k14 1 (Or.inr rfl)
set_option maxRecDepth 100000 in
set_option maxHeartbeats 4000000 in
theorem th_pnum10 {n : Nat} {m : Int32} {σ s : tm_S} (hadv : tv_Snd (tc_T (n : Int)) tz_adv) (R : th_RD10 n σ s) : WM 51 128 [.ref 6, .int m] s (fun q s' => ((q = some (.int 1) ∧ (s.1 6 4).toInt ≤ m.toInt) ∨ q = some (.int 0)) ∧ th_RD10 n σ s' ∧ tv_un s s' [(6, 3), (6, 4), (6, 5), (6, 6), (6, 7), (6, 8)]) := by
  have k37 : ∀ (z : Int32) (t : tm_S), (z = 0 ∨ z = 1) → th_RD10 n σ t → tv_un s t [(6, 7), (6, 8)] → (z = 1 → (s.1 6 4).toInt ≤ m.toInt) → WP 51 128 37 [(0, .ref 6), (1, .int m)] [.int z, .ref 6] t (fun q s' => ((q = some (.int 1) ∧ (s.1 6 4).toInt ≤ m.toInt) ∨ q = some (.int 0)) ∧ th_RD10 n σ s' ∧ tv_un s s' [(6, 3), (6, 4), (6, 5), (6, 6), (6, 7), (6, 8)]) := by
    intro z t hz Rt Ut hv
    refine wq_con (x := 3) rfl (by decide) ?_
    refine wq_calv [.int z, .int 3] rfl rfl rfl rfl rfl rfl rfl rfl rfl (th_hold10 Rt (hz)) ?_
    rintro _ s38 ⟨rfl, Rs38, us38⟩
    have cs38 : s38.1 10 2 = t.1 10 2 := tv_un_i us38 rfl rfl
    have vs38 : s38.1 6 4 = t.1 6 4 := tv_un_i us38 rfl rfl
    refine wq_ifne rfl (fun h41 => ?_) (fun h41 => ?_)
    · refine wp_lda rfl tm_m0 ?_
      refine wq_calv [] rfl rfl rfl rfl rfl rfl rfl rfl rfl (WM.deep (th_adv10 hadv Rs38) (by decide)) ?_
      rintro _ s47 ⟨rfl, Rs47, us47⟩
      have cs47 : s47.1 10 2 = s38.1 10 2 := tv_un_i us47 rfl rfl
      refine wq_con (x := 1) rfl (by decide) ?_
      exact wp_reti rfl (th_n1 rfl) ⟨Or.inl ⟨rfl, hv (hz.resolve_left h41)⟩, Rs47, tv_un_tr (tv_un_mo (tv_un_tr Ut us38) (by decide)) (tv_un_mo us47 (by decide))⟩
    · refine wq_con (x := 0) rfl (by decide) ?_
      exact wp_reti rfl (th_n0 rfl) ⟨Or.inr rfl, Rs38, tv_un_mo (tv_un_tr Ut us38) (by decide)⟩
  have k16 : ∀ z : Int32, (z = 0 ∨ z = 1) → WP 51 128 16 [(0, .ref 6), (1, .int m)] [.int z, .ref 6] s (fun q s' => ((q = some (.int 1) ∧ (s.1 6 4).toInt ≤ m.toInt) ∨ q = some (.int 0)) ∧ th_RD10 n σ s' ∧ tv_un s s' [(6, 3), (6, 4), (6, 5), (6, 6), (6, 7), (6, 8)]) := by
    intro z hz
    refine wq_con (x := 1) rfl (by decide) ?_
    refine wq_calv [.int z, .int 1] rfl rfl rfl rfl rfl rfl rfl rfl rfl (th_hold10 R (hz)) ?_
    rintro _ s17 ⟨rfl, Rs17, us17⟩
    have cs17 : s17.1 10 2 = s.1 10 2 := tv_un_i us17 rfl rfl
    have vs17 : s17.1 6 4 = s.1 6 4 := tv_un_i us17 rfl rfl
    refine wq_ifeq rfl (fun h20 => ?_) (fun h20 => ?_)
    · have g20 : (z).toInt = 0 := congrArg Int32.toInt h20
      refine wq_con (x := 0) rfl (by decide) ?_
      exact wp_reti rfl (th_n0 rfl) ⟨Or.inr rfl, Rs17, tv_un_mo us17 (by decide)⟩
    · refine wp_lda rfl tm_m0 ?_
      refine wp_lda rfl tm_m0 ?_
      refine wq_geti rfl rfl (f := 4) rfl rfl (Or.inl rfl) ?_
      refine wp_ldi rfl tm_m1 ?_
      refine wq_icgt rfl (fun h29 => ?_) (fun h29 => ?_)
      · have g29 : (m).toInt < (s17.1 6 4).toInt := tn_ltI.mp h29
        refine wq_con (x := 0) rfl (by decide) ?_
        exact k37 0 s17 (Or.inl rfl) Rs17 us17 (fun e => absurd e (by decide))
      · have g29 : ¬ (m).toInt < (s17.1 6 4).toInt := fun g => h29 (tn_ltI.mpr g)
        refine wq_con (x := 1) rfl (by decide) ?_
        refine wp_go rfl ?_
        exact k37 1 s17 (Or.inr rfl) Rs17 us17 (fun e => by rw [vs17] at g29; omega)
  show WP 51 128 0 [(0, .ref 6), (1, .int m)] [] s _
  refine wp_lda rfl tm_m0 ?_
  refine wp_lda rfl tm_m0 ?_
  refine wq_getv rfl rfl (f := 3) rfl rfl ?_
  refine wp_gsE rfl ?_
  refine wp_ac rfl (th_tkq R.1) (by decide) (fun h8 => ?_) (fun h8 => ?_)
  · refine wq_con (x := 0) rfl (by decide) ?_
    exact k16 0 (Or.inl rfl)
  · refine wq_con (x := 1) rfl (by decide) ?_
    refine wp_go rfl ?_
    exact k16 1 (Or.inr rfl)
set_option maxRecDepth 100000 in
set_option maxHeartbeats 4000000 in
theorem th_rowCount10 {d : Nat} {σ : tm_S} : WM d 115 [.ref 10] σ (th_is (.int (σ.1 10 2)) σ) := by
  show WP d 115 0 [(0, .ref 10)] [] σ _
  refine wp_lda rfl tm_m0 ?_
  refine wq_geti rfl rfl (f := 2) rfl rfl (Or.inl rfl) ?_
  exact wp_reti rfl (th_nI rfl) ⟨rfl, rfl⟩
set_option maxRecDepth 100000 in
set_option maxHeartbeats 4000000 in
theorem th_voiceCount10 {d : Nat} {σ : tm_S} : WM d 122 [.ref 10] σ (th_is (.int (σ.1 10 7)) σ) := by
  show WP d 122 0 [(0, .ref 10)] [] σ _
  refine wp_lda rfl tm_m0 ?_
  refine wq_geti rfl rfl (f := 7) rfl rfl (Or.inl rfl) ?_
  exact wp_reti rfl (th_nI rfl) ⟨rfl, rfl⟩
set_option maxRecDepth 100000 in
set_option maxHeartbeats 4000000 in
theorem th_frow10 {d n : Nat} {l : Int32} {s : tm_S} (hT : tv_TY (tc_T (n : Int)) s) : WM d 117 [.ref 10, .int l] s (fun q s' => (∃ z : Int32, q = some (.int z) ∧ -1 ≤ z.toInt ∧ z.toInt < (s.1 10 2).toInt) ∧ s = s') := by
  have gr : 0 ≤ (s.1 10 2).toInt ∧ (s.1 10 2).toInt ≤ 6 := hT.1 10 2
  have k2 : ∀ (m : Nat) (i : Int32), 0 ≤ i.toInt → 6 ≤ i.toInt + m → WP d 117 2 [(2, .int i), (0, .ref 10), (1, .int l)] [] s (fun q s' => (∃ z : Int32, q = some (.int z) ∧ -1 ≤ z.toInt ∧ z.toInt < (s.1 10 2).toInt) ∧ s = s') := by
    intro m
    induction m with
    | zero =>
      intro i hi hm
      refine wp_ldi rfl tm_m0 ?_
      refine wp_lda rfl tm_m1 ?_
      refine wq_geti rfl rfl (f := 2) rfl rfl (Or.inl rfl) ?_
      refine wq_icge rfl (fun h7 => ?_) (fun h7 => absurd (tn_leI.mpr (by omega)) h7)
      have g7 : (s.1 10 2).toInt ≤ (i).toInt := tn_leI.mp h7
      refine wq_con (x := (-1)) rfl (by decide) ?_
      exact wp_reti rfl (th_nI rfl) ⟨⟨_, rfl, by decide, by show (-1 : Int) < _; omega⟩, rfl⟩
    | succ m ih =>
      intro i hi hm
      refine wp_ldi rfl tm_m0 ?_
      refine wp_lda rfl tm_m1 ?_
      refine wq_geti rfl rfl (f := 2) rfl rfl (Or.inl rfl) ?_
      refine wq_icge rfl (fun h7 => ?_) (fun h7 => ?_)
      · have g7 : (s.1 10 2).toInt ≤ (i).toInt := tn_leI.mp h7
        refine wq_con (x := (-1)) rfl (by decide) ?_
        exact wp_reti rfl (th_nI rfl) ⟨⟨_, rfl, by decide, by show (-1 : Int) < _; omega⟩, rfl⟩
      · have g7 : ¬ (s.1 10 2).toInt ≤ (i).toInt := fun g => h7 (tn_leI.mpr g)
        refine wp_lda rfl tm_m1 ?_
        refine wq_getr (p := 38) rfl rfl (f := 1) rfl rfl ?_
        refine wp_ldi rfl tm_m0 ?_
        refine wp_iald rfl rfl (tn_in hi (by show _ < (6 : Int); omega)) ?_
        refine wp_ldi rfl tm_m2 ?_
        refine wq_icne rfl (fun h17 => ?_) (fun h17 => ?_)
        · refine wq_inc (c := 1) [(2, .int (i + 1)), (0, .ref 10), (1, .int l)] rfl tm_m0 rfl rfl ?_
          refine wp_go rfl ?_
          have e1 := tn_add1 (x := i) (by omega)
          exact WP.less (ih (i + 1) (by omega) (by omega)) (by simp)
        · have g17 : (s.1 38 i.toNatClampNeg).toInt = (l).toInt := congrArg Int32.toInt (Classical.not_not.mp h17)
          refine wp_ldi rfl tm_m0 ?_
          exact wp_reti rfl (th_nI rfl) ⟨⟨_, rfl, by omega, by omega⟩, rfl⟩
  show WP d 117 0 [(0, .ref 10), (1, .int l)] [] s _
  refine wq_con (x := 0) rfl (by decide) ?_
  refine wq_sti [(2, .int 0), (0, .ref 10), (1, .int l)] rfl rfl ?_
  exact WP.less (k2 6 0 (by decide) (by decide)) (by simp)
set_option maxRecDepth 100000 in
set_option maxHeartbeats 4000000 in
theorem th_arow10 {d n : Nat} {l : Int32} {r : Int64} {σ s : tm_S} (R : th_RD10 n σ s) (hr : ∀ i : Nat, i < n → th_nb r i < n) : WM d 120 [.ref 10, .int l, .long r] s (fun q s' => q = none ∧ th_RD10 n σ s') := by
  have gr : 0 ≤ (s.1 10 2).toInt ∧ (s.1 10 2).toInt ≤ 6 := R.1.1 10 2
  show WP d 120 0 [(0, .ref 10), (1, .int l), (2, .long r)] [] s _
  refine wp_lda rfl tm_m0 ?_
  refine wq_geti rfl rfl (f := 2) rfl rfl (Or.inl rfl) ?_
  refine wq_con (x := 6) rfl (by decide) ?_
  refine wq_icge rfl (fun h6 => ?_) (fun h6 => ?_)
  · have g6 : 6 ≤ (s.1 10 2).toInt := tn_leI.mp h6
    exact wp_retv rfl ⟨rfl, R⟩
  · have g6 : ¬ 6 ≤ (s.1 10 2).toInt := fun g => h6 (tn_leI.mpr g)
    refine wp_lda rfl tm_m0 ?_
    refine wq_getr (p := 38) rfl rfl (f := 1) rfl rfl ?_
    refine wp_lda rfl tm_m0 ?_
    refine wq_geti rfl rfl (f := 2) rfl rfl (Or.inl rfl) ?_
    refine wp_ldi rfl tm_m1 ?_
    refine wp_iast rfl rfl (tn_in gr.1 (by show _ < (6 : Int); omega)) ?_
    refine wp_lda rfl tm_m0 ?_
    refine wq_getr (p := 37) rfl rfl (f := 0) rfl rfl ?_
    refine wp_lda rfl tm_m0 ?_
    refine wq_geti rfl rfl (f := 2) rfl rfl (Or.inl rfl) ?_
    rw [tm_gI, if_neg (fun e => absurd e.1 (by decide))]
    refine wp_ldl rfl tm_m2 ?_
    refine wp_last rfl rfl (tn_in gr.1 (by show _ < (6 : Int); omega)) ?_
    refine wp_lda rfl tm_m0 ?_
    refine wp_dup rfl rfl ?_
    refine wq_geti rfl rfl (f := 2) rfl rfl (Or.inl rfl) ?_
    rw [tm_gIJ, tm_gI, if_neg (fun e => absurd e.1 (by decide))]
    refine wq_con (x := 1) rfl (by decide) ?_
    refine wq_iadd rfl ?_
    refine wq_puti rfl rfl (f := 2) rfl rfl ?_
    have e1 := tn_add1 (x := s.1 10 2) (by omega)
    have cl := tn_cl gr.1
    have n2 : (tm_sI (tm_sJ (tm_sI s 38 (s.1 10 2).toNatClampNeg l) 37 (s.1 10 2).toNatClampNeg r) 10 2 ((s.1 10 2) + 1)).1 10 2 = s.1 10 2 + 1 := by rw [tm_gI, if_pos ⟨rfl, rfl⟩]
    have n7 : (tm_sI (tm_sJ (tm_sI s 38 (s.1 10 2).toNatClampNeg l) 37 (s.1 10 2).toNatClampNeg r) 10 2 ((s.1 10 2) + 1)).1 10 7 = s.1 10 7 := by rw [tm_gI, if_neg (fun e => absurd e.2 (by decide)), tm_gIJ, tm_gI, if_neg (fun e => absurd e.1 (by decide))]
    refine wp_retv rfl ⟨rfl, tv_TY_sI (σ := tm_sJ (tm_sI s 38 _ l) 37 _ r) (show tv_TY _ (tm_sJ (tm_sI s 38 _ l) 37 _ r) from ⟨(tv_TY_row R.1 (ty := (tv_lo, tv_hi)) (fun _ => rfl) (tn_rng l).1 (tn_rng l).2).1, R.1.2⟩) (by rw [e1]; show (0 : Int) ≤ _; omega) (by rw [e1]; show _ ≤ (6 : Int); omega), tv_un_tr (tv_un_tr (tv_un_tr R.2.1 (tv_un_ar rfl rfl)) (tv_un_aJ rfl rfl)) (tv_un_fI rfl), R.2.2.1, by rw [tm_gI, if_neg (fun e => absurd e.1 (by decide)), tm_gIJ, tm_gI, if_neg (fun e => absurd e.1 (by decide))]; exact R.2.2.2.1, fun k hk => ?_, fun u hu => ?_⟩
    · rw [n2, e1] at hk
      show ∀ i : Nat, i < n → th_nb ((tm_sJ (tm_sI s 38 (s.1 10 2).toNatClampNeg l) 37 (s.1 10 2).toNatClampNeg r).2.1 37 k) i < n
      rw [tm_gJ]
      by_cases e : k = (s.1 10 2).toNatClampNeg
      · rw [if_pos ⟨rfl, e⟩]
        exact hr
      · rw [if_neg (fun x => e x.2)]
        exact R.2.2.2.2.1 k (by omega)
    · rw [n7] at hu
      have q := R.2.2.2.2.2 u hu
      rw [n2, e1]
      change (s.1 39 u).toInt < (s.1 10 2).toInt ∧ 0 ≤ (s.1 41 u).toInt ∧ (s.1 41 u).toInt < n at q
      show (s.1 39 u).toInt < _ ∧ 0 ≤ (s.1 41 u).toInt ∧ (s.1 41 u).toInt < n
      omega
set_option maxRecDepth 100000 in
set_option maxHeartbeats 4000000 in
theorem th_avoice10 {d n : Nat} {r k t bg : Int32} {σ s : tm_S} (R : th_RD10 n σ s) (r0 : 0 ≤ r.toInt) (r1 : r.toInt < (s.1 10 2).toInt) (k0 : 0 ≤ k.toInt) (k1 : k.toInt ≤ 3) (t0 : 0 ≤ t.toInt) (t1 : t.toInt < n) : WM d 129 [.ref 10, .int r, .int k, .int t, .int bg] s (fun q s' => q = none ∧ th_RD10 n σ s') := by
  have gv : 0 ≤ (s.1 10 7).toInt ∧ (s.1 10 7).toInt ≤ 8 := R.1.1 10 7
  have g2 : (s.1 10 2).toInt ≤ 6 := (R.1.1 10 2).2
  show WP d 129 0 [(0, .ref 10), (1, .int r), (2, .int k), (3, .int t), (4, .int bg)] [] s _
  refine wp_lda rfl tm_m0 ?_
  refine wq_geti rfl rfl (f := 7) rfl rfl (Or.inl rfl) ?_
  refine wq_con (x := 8) rfl (by decide) ?_
  refine wq_icge rfl (fun h6 => ?_) (fun h6 => ?_)
  · have g6 : 8 ≤ (s.1 10 7).toInt := tn_leI.mp h6
    exact wp_retv rfl ⟨rfl, R⟩
  · have g6 : ¬ 8 ≤ (s.1 10 7).toInt := fun g => h6 (tn_leI.mpr g)
    refine wp_lda rfl tm_m0 ?_
    refine wq_getr (p := 39) rfl rfl (f := 3) rfl rfl ?_
    refine wp_lda rfl tm_m0 ?_
    refine wq_geti rfl rfl (f := 7) rfl rfl (Or.inl rfl) ?_
    refine wp_ldi rfl tm_m1 ?_
    refine wp_iast rfl rfl (tn_in gv.1 (by show _ < (8 : Int); omega)) ?_
    refine wp_lda rfl tm_m0 ?_
    refine wq_getr (p := 40) rfl rfl (f := 4) rfl rfl ?_
    refine wp_lda rfl tm_m0 ?_
    refine wq_geti rfl rfl (f := 7) rfl rfl (Or.inl rfl) ?_
    rw [tm_gI, if_neg (fun e => absurd e.1 (by decide))]
    refine wp_ldi rfl tm_m2 ?_
    refine wp_iast rfl rfl (tn_in gv.1 (by show _ < (8 : Int); omega)) ?_
    refine wp_lda rfl tm_m0 ?_
    refine wq_getr (p := 41) rfl rfl (f := 5) rfl rfl ?_
    refine wp_lda rfl tm_m0 ?_
    refine wq_geti rfl rfl (f := 7) rfl rfl (Or.inl rfl) ?_
    rw [tm_gI, if_neg (fun e => absurd e.1 (by decide)), tm_gI, if_neg (fun e => absurd e.1 (by decide))]
    refine wp_ldi rfl tm_m3 ?_
    refine wp_iast rfl rfl (tn_in gv.1 (by show _ < (8 : Int); omega)) ?_
    refine wp_lda rfl tm_m0 ?_
    refine wq_getr (p := 42) rfl rfl (f := 6) rfl rfl ?_
    refine wp_lda rfl tm_m0 ?_
    refine wq_geti rfl rfl (f := 7) rfl rfl (Or.inl rfl) ?_
    rw [tm_gI, if_neg (fun e => absurd e.1 (by decide)), tm_gI, if_neg (fun e => absurd e.1 (by decide)), tm_gI, if_neg (fun e => absurd e.1 (by decide))]
    refine wp_ldi rfl tm_m4 ?_
    refine wp_iast rfl rfl (tn_in gv.1 (by show _ < (8 : Int); omega)) ?_
    refine wp_lda rfl tm_m0 ?_
    refine wp_dup rfl rfl ?_
    refine wq_geti rfl rfl (f := 7) rfl rfl (Or.inl rfl) ?_
    rw [tm_gI, if_neg (fun e => absurd e.1 (by decide)), tm_gI, if_neg (fun e => absurd e.1 (by decide)), tm_gI, if_neg (fun e => absurd e.1 (by decide)), tm_gI, if_neg (fun e => absurd e.1 (by decide))]
    refine wq_con (x := 1) rfl (by decide) ?_
    refine wq_iadd rfl ?_
    refine wq_puti rfl rfl (f := 7) rfl rfl ?_
    have e1 := tn_add1 (x := s.1 10 7) (by omega)
    have cl := tn_cl gv.1
    have T4 : tv_TY (tc_T (n : Int)) (tm_sI (tm_sI (tm_sI (tm_sI s 39 (s.1 10 7).toNatClampNeg r) 40 (s.1 10 7).toNatClampNeg k) 41 (s.1 10 7).toNatClampNeg t) 42 (s.1 10 7).toNatClampNeg bg) := tv_TY_row (tv_TY_row (tv_TY_row (tv_TY_row R.1 (ty := (0, 5)) (fun _ => rfl) r0 (by show r.toInt ≤ (5 : Int); omega)) (ty := (0, 3)) (fun _ => rfl) k0 k1) (ty := (tv_lo, tv_hi)) (fun _ => rfl) (tn_rng t).1 (tn_rng t).2) (ty := (tv_lo, tv_hi)) (fun _ => rfl) (tn_rng bg).1 (tn_rng bg).2
    have n7 : (tm_sI (tm_sI (tm_sI (tm_sI (tm_sI s 39 (s.1 10 7).toNatClampNeg r) 40 (s.1 10 7).toNatClampNeg k) 41 (s.1 10 7).toNatClampNeg t) 42 (s.1 10 7).toNatClampNeg bg) 10 7 ((s.1 10 7) + 1)).1 10 7 = s.1 10 7 + 1 := by rw [tm_gI, if_pos ⟨rfl, rfl⟩]
    have n2 : (tm_sI (tm_sI (tm_sI (tm_sI (tm_sI s 39 (s.1 10 7).toNatClampNeg r) 40 (s.1 10 7).toNatClampNeg k) 41 (s.1 10 7).toNatClampNeg t) 42 (s.1 10 7).toNatClampNeg bg) 10 7 ((s.1 10 7) + 1)).1 10 2 = s.1 10 2 := by rw [tm_gI, if_neg (fun e => absurd e.2 (by decide)), tm_gI, if_neg (fun e => absurd e.1 (by decide)), tm_gI, if_neg (fun e => absurd e.1 (by decide)), tm_gI, if_neg (fun e => absurd e.1 (by decide)), tm_gI, if_neg (fun e => absurd e.1 (by decide))]
    have no : ∀ u : Nat, (tm_sI (tm_sI (tm_sI (tm_sI (tm_sI s 39 (s.1 10 7).toNatClampNeg r) 40 (s.1 10 7).toNatClampNeg k) 41 (s.1 10 7).toNatClampNeg t) 42 (s.1 10 7).toNatClampNeg bg) 10 7 ((s.1 10 7) + 1)).1 39 u = if u = (s.1 10 7).toNatClampNeg then r else s.1 39 u := by
      intro u
      rw [tm_gI, if_neg (fun e => absurd e.1 (by decide)), tm_gI, if_neg (fun e => absurd e.1 (by decide)), tm_gI, if_neg (fun e => absurd e.1 (by decide)), tm_gI, if_neg (fun e => absurd e.1 (by decide)), tm_gI]
      by_cases e : u = (s.1 10 7).toNatClampNeg
      · rw [if_pos ⟨rfl, e⟩, if_pos e]
      · rw [if_neg (fun x => e x.2), if_neg e]
    have nt : ∀ u : Nat, (tm_sI (tm_sI (tm_sI (tm_sI (tm_sI s 39 (s.1 10 7).toNatClampNeg r) 40 (s.1 10 7).toNatClampNeg k) 41 (s.1 10 7).toNatClampNeg t) 42 (s.1 10 7).toNatClampNeg bg) 10 7 ((s.1 10 7) + 1)).1 41 u = if u = (s.1 10 7).toNatClampNeg then t else s.1 41 u := by
      intro u
      rw [tm_gI, if_neg (fun e => absurd e.1 (by decide)), tm_gI, if_neg (fun e => absurd e.1 (by decide)), tm_gI]
      by_cases e : u = (s.1 10 7).toNatClampNeg
      · rw [if_pos ⟨rfl, e⟩, if_pos e]
      · rw [if_neg (fun x => e x.2), if_neg e, tm_gI, if_neg (fun e => absurd e.1 (by decide)), tm_gI, if_neg (fun e => absurd e.1 (by decide))]
    refine wp_retv rfl ⟨rfl, tv_TY_sI T4 (by rw [e1]; show (0 : Int) ≤ _; omega) (by rw [e1]; show _ ≤ (8 : Int); omega), tv_un_tr (tv_un_tr (tv_un_tr (tv_un_tr (tv_un_tr R.2.1 (tv_un_ar rfl rfl)) (tv_un_ar rfl rfl)) (tv_un_ar rfl rfl)) (tv_un_ar rfl rfl)) (tv_un_fI rfl), R.2.2.1, by rw [tm_gI, if_neg (fun e => absurd e.1 (by decide)), tm_gI, if_neg (fun e => absurd e.1 (by decide)), tm_gI, if_neg (fun e => absurd e.1 (by decide)), tm_gI, if_neg (fun e => absurd e.1 (by decide)), tm_gI, if_neg (fun e => absurd e.1 (by decide))]; exact R.2.2.2.1, fun q hq => ?_, fun u hu => ?_⟩
    · rw [n2] at hq
      exact R.2.2.2.2.1 q hq
    · rw [n7, e1] at hu
      rw [n2]
      show ((tm_sI (tm_sI (tm_sI (tm_sI (tm_sI s 39 (s.1 10 7).toNatClampNeg r) 40 (s.1 10 7).toNatClampNeg k) 41 (s.1 10 7).toNatClampNeg t) 42 (s.1 10 7).toNatClampNeg bg) 10 7 ((s.1 10 7) + 1)).1 39 u).toInt < _ ∧ 0 ≤ ((tm_sI (tm_sI (tm_sI (tm_sI (tm_sI s 39 (s.1 10 7).toNatClampNeg r) 40 (s.1 10 7).toNatClampNeg k) 41 (s.1 10 7).toNatClampNeg t) 42 (s.1 10 7).toNatClampNeg bg) 10 7 ((s.1 10 7) + 1)).1 41 u).toInt ∧ ((tm_sI (tm_sI (tm_sI (tm_sI (tm_sI s 39 (s.1 10 7).toNatClampNeg r) 40 (s.1 10 7).toNatClampNeg k) 41 (s.1 10 7).toNatClampNeg t) 42 (s.1 10 7).toNatClampNeg bg) 10 7 ((s.1 10 7) + 1)).1 41 u).toInt < n
      rw [no, nt]
      by_cases e : u = (s.1 10 7).toNatClampNeg
      · rw [if_pos e, if_pos e]
        exact ⟨r1, t0, t1⟩
      · rw [if_neg e, if_neg e]
        exact R.2.2.2.2.2 u (by omega)
set_option maxRecDepth 100000 in
set_option maxHeartbeats 4000000 in
theorem th_rnotes10 {n : Nat} {σ s : tm_S} (hn : n ≤ 12) (h3 : 3 ≤ n) (hadv : tv_Snd (tc_T (n : Int)) tz_adv) (R : th_RD10 n σ s) : WM 51 119 [.ref 6] s (fun q s' => th_RD10 n σ s' ∧ (q = some (.long (-1)) ∨ ∃ a k : Nat, q = some (.long (th_L a)) ∧ th_di n k a ∧ k ≤ 16)) := by
  have k153 : ∀ (z c se : Int32) (a k : Nat) (t : tm_S), th_RD10 n σ t → th_di n k a → k ≤ 16 → WP 51 119 153 [(1, .long (th_L a)), (3, .int se), (4, .int c), (0, .ref 6)] [.int z] t (fun q s' => th_RD10 n σ s' ∧ (q = some (.long (-1)) ∨ ∃ a k : Nat, q = some (.long (th_L a)) ∧ th_di n k a ∧ k ≤ 16)) := by
    intro z c se a k t Rt ha hk
    refine wq_sti [(5, .int z), (1, .long (th_L a)), (3, .int se), (4, .int c), (0, .ref 6)] rfl rfl ?_
    refine wp_ldi rfl tm_m0 ?_
    refine wq_ifeq rfl (fun h157 => ?_) (fun h157 => ?_)
    · refine wq_lco (x := (-1)) rfl (by decide) ?_
      exact wp_retl rfl ⟨Rt, Or.inl rfl⟩
    · refine wp_ldl rfl tm_m1 ?_
      refine wp_go rfl ?_
      exact wp_retl rfl ⟨Rt, Or.inr ⟨a, k, rfl, ha, hk⟩⟩
  have k141 : ∀ (z c se : Int32) (a k : Nat) (t : tm_S), (z = 0 ∨ z = 1) → th_RD10 n σ t → th_di n k a → k ≤ 16 → WP 51 119 141 [(1, .long (th_L a)), (3, .int se), (4, .int c), (0, .ref 6)] [.int z, .ref 6] t (fun q s' => th_RD10 n σ s' ∧ (q = some (.long (-1)) ∨ ∃ a k : Nat, q = some (.long (th_L a)) ∧ th_di n k a ∧ k ≤ 16)) := by
    intro z c se a k t hz Rt ha hk
    refine wq_con (x := 3) rfl (by decide) ?_
    refine wq_calv [.int z, .int 3] rfl rfl rfl rfl rfl rfl rfl rfl rfl (th_hold10 Rt (hz)) ?_
    rintro _ s142 ⟨rfl, Rs142, us142⟩
    have cs142 : s142.1 10 2 = t.1 10 2 := tv_un_i us142 rfl rfl
    have vs142 : s142.1 6 4 = t.1 6 4 := tv_un_i us142 rfl rfl
    refine wq_ifeq rfl (fun h145 => ?_) (fun h145 => ?_)
    · refine wq_con (x := 0) rfl (by decide) ?_
      exact WP.less (k153 0 c se a k s142 Rs142 ha hk) (by simp)
    · refine wq_con (x := 1) rfl (by decide) ?_
      refine wp_go rfl ?_
      exact WP.less (k153 1 c se a k s142 Rs142 ha hk) (by simp)
  have k119 : ∀ (z c se : Int32) (a k : Nat) (t : tm_S), (z = 0 ∨ z = 1) → th_RD10 n σ t → th_di n k a → k ≤ 16 → WP 51 119 119 [(1, .long (th_L a)), (3, .int se), (4, .int c), (0, .ref 6)] [.int z, .ref 6] t (fun q s' => th_RD10 n σ s' ∧ (q = some (.long (-1)) ∨ ∃ a k : Nat, q = some (.long (th_L a)) ∧ th_di n k a ∧ k ≤ 16)) := by
    intro z c se a k t hz Rt ha hk
    refine wq_con (x := 1) rfl (by decide) ?_
    refine wq_calv [.int z, .int 1] rfl rfl rfl rfl rfl rfl rfl rfl rfl (th_hold10 Rt (hz)) ?_
    rintro _ s120 ⟨rfl, Rs120, us120⟩
    have cs120 : s120.1 10 2 = t.1 10 2 := tv_un_i us120 rfl rfl
    have vs120 : s120.1 6 4 = t.1 6 4 := tv_un_i us120 rfl rfl
    refine wq_ifeq rfl (fun h123 => ?_) (fun h123 => ?_)
    · refine wq_con (x := 0) rfl (by decide) ?_
      exact WP.less (k153 0 c se a k s120 Rs120 ha hk) (by simp)
    · refine wp_lda rfl tm_m3 ?_
      refine wp_ldi rfl tm_m2 ?_
      refine wp_lda rfl tm_m3 ?_
      refine wq_geti rfl rfl (f := 2) rfl rfl (Or.inl rfl) ?_
      refine wq_icne rfl (fun h133 => ?_) (fun h133 => ?_)
      · refine wq_con (x := 0) rfl (by decide) ?_
        exact WP.less (k141 0 c se a k s120 (Or.inl rfl) Rs120 ha hk) (by simp)
      · refine wq_con (x := 1) rfl (by decide) ?_
        refine wp_go rfl ?_
        exact WP.less (k141 1 c se a k s120 (Or.inr rfl) Rs120 ha hk) (by simp)
  have k103 : ∀ (c se : Int32) (a k : Nat) (t : tm_S), th_RD10 n σ t → th_di n k a → k ≤ 16 → WP 51 119 103 [(1, .long (th_L a)), (3, .int se), (4, .int c), (0, .ref 6)] [] t (fun q s' => th_RD10 n σ s' ∧ (q = some (.long (-1)) ∨ ∃ a k : Nat, q = some (.long (th_L a)) ∧ th_di n k a ∧ k ≤ 16)) := by
    intro c se a k t Rt ha hk
    refine wp_lda rfl tm_m3 ?_
    refine wp_lda rfl tm_m3 ?_
    refine wq_getv rfl rfl (f := 3) rfl rfl ?_
    refine wp_gsE rfl ?_
    refine wp_ac rfl (th_tkq Rt.1) (by decide) (fun h111 => ?_) (fun h111 => ?_)
    · refine wq_con (x := 0) rfl (by decide) ?_
      exact WP.less (k119 0 c se a k t (Or.inl rfl) Rt ha hk) (by simp)
    · refine wq_con (x := 1) rfl (by decide) ?_
      refine wp_go rfl ?_
      exact WP.less (k119 1 c se a k t (Or.inr rfl) Rt ha hk) (by simp)
  have k10 : ∀ (m c a : Nat) (se : Int32) (t : tm_S), c + m = n + 1 → th_RD10 n σ t → th_di n c a → WP 51 119 10 [(1, .long (th_L a)), (3, .int se), (4, .int (nI c)), (5, .int (nI c)), (0, .ref 6)] [] t (fun q s' => th_RD10 n σ s' ∧ (q = some (.long (-1)) ∨ ∃ a k : Nat, q = some (.long (th_L a)) ∧ th_di n k a ∧ k ≤ 16)) := by
    intro m
    induction m with
    | zero =>
      intro c a se t hc Rt ha
      refine wp_ldi rfl tm_m3 ?_
      refine wp_lda rfl tm_m4 ?_
      refine wq_geti rfl rfl (f := 2) rfl rfl (Or.inl rfl) ?_
      rw [Rt.2.2.2.1]
      refine wq_icgt rfl (fun h16 => ?_) (fun h16 => absurd (nI_lt (by omega) (by omega)) h16)
      exact WP.less (k103 (nI c) se a c t Rt ha (by omega)) (by simp)
    | succ m ih =>
      intro c a se t hc Rt ha
      have gv : 0 ≤ (t.1 6 4).toInt ∧ (t.1 6 4).toInt ≤ 255 := Rt.1.1 6 4
      obtain ⟨x, x1, x2⟩ := nI_of (x := t.1 6 4) (by rw [tn_ltI]; show ¬ _ < (0 : Int); omega)
      have k57 : ∀ z : Int32, (z = 0 ∨ z = 1) → (z = 1 → x < n) → WP 51 119 57 [(1, .long (th_L a)), (3, .int se), (4, .int (nI c)), (5, .int (nI c)), (0, .ref 6)] [.int z, .ref 6] t (fun q s' => th_RD10 n σ s' ∧ (q = some (.long (-1)) ∨ ∃ a k : Nat, q = some (.long (th_L a)) ∧ th_di n k a ∧ k ≤ 16)) := by
        intro z hz hx
        refine wq_con (x := 3) rfl (by decide) ?_
        refine wq_calv [.int z, .int 3] rfl rfl rfl rfl rfl rfl rfl rfl rfl (th_hold10 Rt (hz)) ?_
        rintro _ s58 ⟨rfl, Rs58, us58⟩
        have cs58 : s58.1 10 2 = t.1 10 2 := tv_un_i us58 rfl rfl
        have vs58 : s58.1 6 4 = t.1 6 4 := tv_un_i us58 rfl rfl
        refine wq_ifne rfl (fun h61 => ?_) (fun h61 => ?_)
        · have hx2 := hx (hz.resolve_left h61)
          refine wp_ldi rfl tm_m1 ?_
          refine wq_con (x := 1) rfl (by decide) ?_
          refine wp_lda rfl tm_m4 ?_
          refine wq_geti rfl rfl (f := 4) rfl rfl (Or.inl rfl) ?_
          rw [vs58, x2]
          refine wq_ishl rfl ?_
          refine wq_ior rfl ?_
          generalize se ||| (1 <<< ((nI x) &&& 31)) = se2
          refine wq_sti [(3, .int se2), (1, .long (th_L a)), (4, .int (nI c)), (5, .int (nI c)), (0, .ref 6)] rfl rfl ?_
          refine wp_ldl rfl tm_m1 ?_
          refine wp_lda rfl tm_m4 ?_
          refine wq_geti rfl rfl (f := 4) rfl rfl (Or.inl rfl) ?_
          rw [vs58, x2]
          refine wp_i2l rfl ?_
          refine wq_con (x := 4) rfl (by decide) ?_
          refine wp_ldi rfl tm_m2 ?_
          refine wq_imul rfl ?_
          refine wq_lshl rfl ?_
          refine wq_lor rfl ?_
          rw [th_app ha.1 (by omega) (by omega)]
          refine wq_stl [(1, .long (th_L (a + x * 16 ^ c))), (3, .int se2), (4, .int (nI c)), (5, .int (nI c)), (0, .ref 6)] rfl rfl ?_
          refine wq_inc (c := 1) [(4, .int ((nI c) + 1)), (1, .long (th_L (a + x * 16 ^ c))), (3, .int se2), (5, .int (nI c)), (0, .ref 6)] rfl tm_m2 rfl rfl ?_
          refine wp_lda rfl tm_m4 ?_
          refine wq_calv [] rfl rfl rfl rfl rfl rfl rfl rfl rfl (WM.deep (th_adv10 hadv Rs58) (by decide)) ?_
          rintro _ s94 ⟨rfl, Rs94, us94⟩
          have cs94 : s94.1 10 2 = s58.1 10 2 := tv_un_i us94 rfl rfl
          refine wq_inc (c := 1) [(5, .int ((nI c) + 1)), (4, .int ((nI c) + 1)), (1, .long (th_L (a + x * 16 ^ c))), (3, .int se2), (0, .ref 6)] rfl tm_m3 rfl rfl ?_
          refine wp_go rfl ?_
          rw [nI_1]
          exact WP.less (ih (c + 1) (a + x * 16 ^ c) se2 s94 (by omega) Rs94 (th_di1 ha hx2 (by omega))) (by simp)
        · refine wq_lco (x := (-1)) rfl (by decide) ?_
          exact wp_retl rfl ⟨Rs58, Or.inl rfl⟩
      refine wp_ldi rfl tm_m3 ?_
      refine wp_lda rfl tm_m4 ?_
      refine wq_geti rfl rfl (f := 2) rfl rfl (Or.inl rfl) ?_
      rw [Rt.2.2.2.1]
      refine wq_icgt rfl (fun h16 => ?_) (fun h16 => ?_)
      · exact WP.less (k103 (nI c) se a c t Rt ha (by omega)) (by simp)
      · refine wp_lda rfl tm_m4 ?_
        refine wq_getv rfl rfl (f := 3) rfl rfl ?_
        refine wp_gsE rfl ?_
        refine wp_ac rfl (th_tkq Rt.1) (by decide) (fun h26 => ?_) (fun h26 => ?_)
        · exact WP.less (k103 (nI c) se a c t Rt ha (by omega)) (by simp)
        · refine wp_lda rfl tm_m4 ?_
          refine wp_lda rfl tm_m4 ?_
          refine wq_geti rfl rfl (f := 4) rfl rfl (Or.inl rfl) ?_
          rw [x2]
          refine wp_lda rfl tm_m4 ?_
          refine wq_geti rfl rfl (f := 2) rfl rfl (Or.inl rfl) ?_
          rw [Rt.2.2.2.1]
          refine wq_icge rfl (fun h38 => ?_) (fun h38 => ?_)
          · refine wq_con (x := 0) rfl (by decide) ?_
            exact k57 0 (Or.inl rfl) (fun e => absurd e (by decide))
          · refine wp_ldi rfl tm_m1 ?_
            refine wp_lda rfl tm_m4 ?_
            refine wq_geti rfl rfl (f := 4) rfl rfl (Or.inl rfl) ?_
            rw [x2]
            refine wq_ishr rfl ?_
            refine wq_con (x := 1) rfl (by decide) ?_
            refine wq_iand rfl ?_
            refine wq_ifne rfl (fun h49 => ?_) (fun h49 => ?_)
            · refine wq_con (x := 0) rfl (by decide) ?_
              exact k57 0 (Or.inl rfl) (fun e => absurd e (by decide))
            · refine wq_con (x := 1) rfl (by decide) ?_
              refine wp_go rfl ?_
              exact k57 1 (Or.inr rfl) (fun e => by rcases Nat.lt_or_ge x n with g | g; exact g; exact absurd (nI_le g x1) h38)
  show WP 51 119 0 [(0, .ref 6)] [] s _
  refine wq_lco (x := 0) rfl (by decide) ?_
  refine wq_stl [(1, .long 0), (0, .ref 6)] rfl rfl ?_
  refine wq_con (x := 0) rfl (by decide) ?_
  refine wq_sti [(3, .int 0), (1, .long 0), (0, .ref 6)] rfl rfl ?_
  refine wq_con (x := nI 0) rfl (by decide) ?_
  refine wq_sti [(4, .int (nI 0)), (3, .int 0), (1, .long 0), (0, .ref 6)] rfl rfl ?_
  refine wq_con (x := nI 0) rfl (by decide) ?_
  refine wq_sti [(5, .int (nI 0)), (4, .int (nI 0)), (3, .int 0), (1, .long 0), (0, .ref 6)] rfl rfl ?_
  exact WP.less (k10 (n + 1) 0 0 0 s (by omega) R (th_di0 (by omega))) (by simp [th_L0])
set_option maxRecDepth 100000 in
set_option maxHeartbeats 4000000 in
theorem th_xrrow10 {n : Nat} {σ s : tm_S} (hn : n ≤ 12) (h3 : 3 ≤ n) (hadv : tv_Snd (tc_T (n : Int)) tz_adv) (R : th_RD10 n σ s) : WM 52 114 [.ref 6] s (fun q s' => th_RD10 n σ s' ∧ (q = some (.int 0) ∨ q = some (.int 1))) := by
  have k116 : ∀ (z lt : Int32) (t : tm_S), (z = 0 ∨ z = 1) → th_RD10 n σ t → WP 52 114 116 [(1, .int lt), (0, .ref 6)] [.int z, .ref 6] t (fun q s' => th_RD10 n σ s' ∧ (q = some (.int 0) ∨ q = some (.int 1))) := by
    intro z lt t hz Rt
    refine wq_con (x := 1) rfl (by decide) ?_
    refine wq_calv [.int z, .int 1] rfl rfl rfl rfl rfl rfl rfl rfl rfl (th_hold10 Rt (hz)) ?_
    rintro _ s117 ⟨rfl, Rs117, us117⟩
    have cs117 : s117.1 10 2 = t.1 10 2 := tv_un_i us117 rfl rfl
    have vs117 : s117.1 6 4 = t.1 6 4 := tv_un_i us117 rfl rfl
    refine wq_ifne rfl (fun h120 => ?_) (fun h120 => ?_)
    · refine wp_lda rfl tm_m1 ?_
      refine wq_calv [] rfl rfl rfl rfl rfl rfl rfl rfl rfl (th_rnotes10 hn h3 hadv Rs117) ?_
      rintro r126 s126 ⟨Rs126, hr126⟩
      obtain ⟨rr, rfl, hrr⟩ : ∃ rr : Int64, r126 = some (.long rr) ∧ (¬ rr = -1 → ∀ i : Nat, i < n → th_nb rr i < n) := by
        rcases hr126 with rfl | ⟨a, k, rfl, ha, hk⟩
        · exact ⟨_, rfl, fun e => absurd rfl e⟩
        · exact ⟨_, rfl, fun _ i _ => th_di_dg ha hk (Nat.le_refl _) i⟩
      refine wq_stl [(2, .long rr), (1, .int lt), (0, .ref 6)] rfl rfl ?_
      refine wp_ldl rfl tm_m0 ?_
      refine wq_lco (x := (-1)) rfl (by decide) ?_
      refine wp_cmp rfl ?_
      refine wq_ifeq rfl (fun h135 => ?_) (fun h135 => ?_)
      · refine wq_con (x := 0) rfl (by decide) ?_
        exact wp_reti rfl (th_n0 rfl) ⟨Rs126, Or.inl rfl⟩
      · refine wp_lda rfl tm_m2 ?_
        refine wp_gsE rfl ?_
        refine wq_calv [.ref 79] rfl rfl rfl rfl rfl rfl rfl rfl rfl (th_pass10 hadv Rs126 (by decide)) ?_
        rintro r142 s142 ⟨hr142, Rs142, us142⟩
        obtain ⟨z142, rfl⟩ : ∃ z : Int32, r142 = some (.int z) := by rcases hr142 with rfl | rfl <;> exact ⟨_, rfl⟩
        have cs142 : s142.1 10 2 = s126.1 10 2 := tv_un_i us142 rfl rfl
        refine wq_ifne rfl (fun h145 => ?_) (fun h145 => ?_)
        · refine wp_lda rfl tm_m2 ?_
          refine wq_getv rfl rfl (f := 1) rfl rfl ?_
          rw [Rs142.2.2.1]
          refine wp_ldi rfl tm_m1 ?_
          refine wp_ldl rfl tm_m0 ?_
          refine wq_calv [.int lt, .long rr] rfl rfl rfl rfl rfl rfl rfl rfl rfl (th_arow10 Rs142 (hrr (fun e => h135 ((lg_cmp_eq _ _).mpr e)))) ?_
          rintro _ s156 ⟨rfl, Rs156⟩
          refine wq_con (x := 1) rfl (by decide) ?_
          exact wp_reti rfl (th_n1 rfl) ⟨Rs156, Or.inr rfl⟩
        · refine wq_con (x := 0) rfl (by decide) ?_
          exact wp_reti rfl (th_n0 rfl) ⟨Rs142, Or.inl rfl⟩
    · refine wq_con (x := 0) rfl (by decide) ?_
      exact wp_reti rfl (th_n0 rfl) ⟨Rs117, Or.inl rfl⟩
  have k77 : ∀ (z lt : Int32) (t : tm_S), (z = 0 ∨ z = 1) → th_RD10 n σ t → WP 52 114 77 [(1, .int lt), (0, .ref 6)] [.int z, .ref 6] t (fun q s' => th_RD10 n σ s' ∧ (q = some (.int 0) ∨ q = some (.int 1))) := by
    intro z lt t hz Rt
    refine wq_con (x := 2) rfl (by decide) ?_
    refine wq_calv [.int z, .int 2] rfl rfl rfl rfl rfl rfl rfl rfl rfl (th_hold10 Rt (hz)) ?_
    rintro _ s78 ⟨rfl, Rs78, us78⟩
    have cs78 : s78.1 10 2 = t.1 10 2 := tv_un_i us78 rfl rfl
    have vs78 : s78.1 6 4 = t.1 6 4 := tv_un_i us78 rfl rfl
    refine wq_ifne rfl (fun h81 => ?_) (fun h81 => ?_)
    · refine wp_lda rfl tm_m1 ?_
      refine wq_calv [] rfl rfl rfl rfl rfl rfl rfl rfl rfl (WM.deep (th_adv10 hadv Rs78) (by decide)) ?_
      rintro _ s87 ⟨rfl, Rs87, us87⟩
      have cs87 : s87.1 10 2 = s78.1 10 2 := tv_un_i us87 rfl rfl
      refine wp_lda rfl tm_m1 ?_
      refine wp_gsE rfl ?_
      refine wq_calv [.ref 78] rfl rfl rfl rfl rfl rfl rfl rfl rfl (th_pass10 hadv Rs87 (by decide)) ?_
      rintro r94 s94 ⟨hr94, Rs94, us94⟩
      obtain ⟨z94, rfl⟩ : ∃ z : Int32, r94 = some (.int z) := by rcases hr94 with rfl | rfl <;> exact ⟨_, rfl⟩
      have cs94 : s94.1 10 2 = s87.1 10 2 := tv_un_i us94 rfl rfl
      refine wq_ifeq rfl (fun h97 => ?_) (fun h97 => ?_)
      · refine wq_con (x := 0) rfl (by decide) ?_
        exact wp_reti rfl (th_n0 rfl) ⟨Rs94, Or.inl rfl⟩
      · refine wp_lda rfl tm_m1 ?_
        refine wp_lda rfl tm_m1 ?_
        refine wq_getv rfl rfl (f := 3) rfl rfl ?_
        refine wp_gsE rfl ?_
        refine wp_ac rfl (th_tkq Rs94.1) (by decide) (fun h108 => ?_) (fun h108 => ?_)
        · refine wq_con (x := 0) rfl (by decide) ?_
          exact k116 0 lt s94 (Or.inl rfl) Rs94
        · refine wq_con (x := 1) rfl (by decide) ?_
          refine wp_go rfl ?_
          exact k116 1 lt s94 (Or.inr rfl) Rs94
    · refine wq_con (x := 0) rfl (by decide) ?_
      exact wp_reti rfl (th_n0 rfl) ⟨Rs78, Or.inl rfl⟩
  have k52 : ∀ (z lt : Int32) (t : tm_S), (z = 0 ∨ z = 1) → th_RD10 n σ t → WP 52 114 52 [(1, .int lt), (0, .ref 6)] [.int z, .ref 6] t (fun q s' => th_RD10 n σ s' ∧ (q = some (.int 0) ∨ q = some (.int 1))) := by
    intro z lt t hz Rt
    refine wq_con (x := 1) rfl (by decide) ?_
    refine wq_calv [.int z, .int 1] rfl rfl rfl rfl rfl rfl rfl rfl rfl (th_hold10 Rt (hz)) ?_
    rintro _ s53 ⟨rfl, Rs53, us53⟩
    have cs53 : s53.1 10 2 = t.1 10 2 := tv_un_i us53 rfl rfl
    have vs53 : s53.1 6 4 = t.1 6 4 := tv_un_i us53 rfl rfl
    refine wq_ifeq rfl (fun h56 => ?_) (fun h56 => ?_)
    · refine wq_con (x := 0) rfl (by decide) ?_
      exact wp_reti rfl (th_n0 rfl) ⟨Rs53, Or.inl rfl⟩
    · refine wp_lda rfl tm_m1 ?_
      refine wp_lda rfl tm_m1 ?_
      refine wq_getv rfl rfl (f := 1) rfl rfl ?_
      rw [Rs53.2.2.1]
      refine wp_ldi rfl tm_m0 ?_
      refine wq_calv [.int lt] rfl rfl rfl rfl rfl rfl rfl rfl rfl (th_frow10 Rs53.1) ?_
      rintro _ _ ⟨⟨zf, rfl, zf1, zf2⟩, rfl⟩
      refine wq_con (x := (-1)) rfl (by decide) ?_
      refine wq_icne rfl (fun h69 => ?_) (fun h69 => ?_)
      · refine wq_con (x := 0) rfl (by decide) ?_
        exact k77 0 lt s53 (Or.inl rfl) Rs53
      · refine wq_con (x := 1) rfl (by decide) ?_
        refine wp_go rfl ?_
        exact k77 1 lt s53 (Or.inr rfl) Rs53
  have k18 : ∀ z : Int32, (z = 0 ∨ z = 1) → WP 52 114 18 [(0, .ref 6)] [.int z, .ref 6] s (fun q s' => th_RD10 n σ s' ∧ (q = some (.int 0) ∨ q = some (.int 1))) := by
    intro z hz
    refine wq_con (x := 4) rfl (by decide) ?_
    refine wq_calv [.int z, .int 4] rfl rfl rfl rfl rfl rfl rfl rfl rfl (th_hold10 R (hz)) ?_
    rintro _ s19 ⟨rfl, Rs19, us19⟩
    have cs19 : s19.1 10 2 = s.1 10 2 := tv_un_i us19 rfl rfl
    have vs19 : s19.1 6 4 = s.1 6 4 := tv_un_i us19 rfl rfl
    refine wq_ifne rfl (fun h22 => ?_) (fun h22 => ?_)
    · refine wp_lda rfl tm_m0 ?_
      refine wq_calv [] rfl rfl rfl rfl rfl rfl rfl rfl rfl (WM.deep (th_adv10 hadv Rs19) (by decide)) ?_
      rintro _ s28 ⟨rfl, Rs28, us28⟩
      have cs28 : s28.1 10 2 = s19.1 10 2 := tv_un_i us28 rfl rfl
      refine wp_lda rfl tm_m0 ?_
      refine wq_geti rfl rfl (f := 4) rfl rfl (Or.inl rfl) ?_
      refine wq_sti [(1, .int (s28.1 6 4)), (0, .ref 6)] rfl rfl ?_
      refine wp_lda rfl tm_m1 ?_
      refine wp_lda rfl tm_m1 ?_
      refine wq_getv rfl rfl (f := 3) rfl rfl ?_
      refine wp_gsE rfl ?_
      refine wp_ac rfl (th_tkq Rs28.1) (by decide) (fun h44 => ?_) (fun h44 => ?_)
      · refine wq_con (x := 0) rfl (by decide) ?_
        exact k52 0 (s28.1 6 4) s28 (Or.inl rfl) Rs28
      · refine wq_con (x := 1) rfl (by decide) ?_
        refine wp_go rfl ?_
        exact k52 1 (s28.1 6 4) s28 (Or.inr rfl) Rs28
    · refine wq_con (x := 0) rfl (by decide) ?_
      exact wp_reti rfl (th_n0 rfl) ⟨Rs19, Or.inl rfl⟩
  show WP 52 114 0 [(0, .ref 6)] [] s _
  refine wp_lda rfl tm_m0 ?_
  refine wp_lda rfl tm_m0 ?_
  refine wq_getv rfl rfl (f := 1) rfl rfl ?_
  rw [R.2.2.1]
  refine wq_calv [] rfl rfl rfl rfl rfl rfl rfl rfl rfl (th_rowCount10) ?_
  rintro _ _ ⟨rfl, rfl⟩
  refine wq_con (x := 6) rfl (by decide) ?_
  refine wq_icge rfl (fun h10 => ?_) (fun h10 => ?_)
  · refine wq_con (x := 0) rfl (by decide) ?_
    exact k18 0 (Or.inl rfl)
  · refine wq_con (x := 1) rfl (by decide) ?_
    refine wp_go rfl ?_
    exact k18 1 (Or.inr rfl)
set_option maxRecDepth 100000 in
set_option maxHeartbeats 4000000 in
theorem th_xrvoice10 {n : Nat} {σ s : tm_S} (hn : n ≤ 12) (h3 : 3 ≤ n) (hadv : tv_Snd (tc_T (n : Int)) tz_adv) (R : th_RD10 n σ s) : WM 52 121 [.ref 6] s (fun q s' => th_RD10 n σ s' ∧ (q = some (.int 0) ∨ q = some (.int 1))) := by
  have k139 : ∀ (z kd r1 : Int32) (t : tm_S), (z = 0 ∨ z = 1) → th_RD10 n σ t → 0 ≤ r1.toInt → r1.toInt < (t.1 10 2).toInt → (z = 1 → 0 ≤ kd.toInt) → kd.toInt ≤ 3 → WP 52 121 139 [(2, .int kd), (1, .int r1), (0, .ref 6)] [.int z, .ref 6] t (fun q s' => th_RD10 n σ s' ∧ (q = some (.int 0) ∨ q = some (.int 1))) := by
    intro z kd r1 t hz Rt r2 r3 kd0 kd1
    refine wq_con (x := 1) rfl (by decide) ?_
    refine wq_calv [.int z, .int 1] rfl rfl rfl rfl rfl rfl rfl rfl rfl (th_hold10 Rt (hz)) ?_
    rintro _ s140 ⟨rfl, Rs140, us140⟩
    have cs140 : s140.1 10 2 = t.1 10 2 := tv_un_i us140 rfl rfl
    have vs140 : s140.1 6 4 = t.1 6 4 := tv_un_i us140 rfl rfl
    refine wq_ifne rfl (fun h143 => ?_) (fun h143 => ?_)
    · have kdz := kd0 (hz.resolve_left h143)
      have en1 : nI n - 1 = nI (n - 1) := by rw [show n = (n - 1) + 1 by omega]; exact nI_pred _
      refine wp_lda rfl tm_m2 ?_
      refine wq_calv [] rfl rfl rfl rfl rfl rfl rfl rfl rfl (WM.deep (th_adv10 hadv Rs140) (by decide)) ?_
      rintro _ s149 ⟨rfl, Rs149, us149⟩
      have cs149 : s149.1 10 2 = s140.1 10 2 := tv_un_i us149 rfl rfl
      refine wp_lda rfl tm_m2 ?_
      refine wq_geti rfl rfl (f := 4) rfl rfl (Or.inl rfl) ?_
      refine wq_sti [(3, .int (s149.1 6 4)), (2, .int kd), (1, .int r1), (0, .ref 6)] rfl rfl ?_
      refine wp_lda rfl tm_m3 ?_
      refine wp_lda rfl tm_m3 ?_
      refine wq_geti rfl rfl (f := 2) rfl rfl (Or.inl rfl) ?_
      rw [Rs149.2.2.2.1]
      refine wq_con (x := 1) rfl (by decide) ?_
      refine wq_isub rfl ?_
      rw [en1]
      refine wq_calv [.int (nI (n - 1))] rfl rfl rfl rfl rfl rfl rfl rfl rfl (th_pnum10 hadv Rs149) ?_
      rintro r164 s164 ⟨hr164, Rs164, us164⟩
      obtain ⟨z164, rfl, hz164⟩ : ∃ z : Int32, r164 = some (.int z) ∧ (¬ z = 0 → (s149.1 6 4).toInt ≤ (nI (n - 1)).toInt) := by
        rcases hr164 with ⟨rfl, g⟩ | rfl
        · exact ⟨_, rfl, fun _ => g⟩
        · exact ⟨_, rfl, fun e => absurd rfl e⟩
      have cs164 : s164.1 10 2 = s149.1 10 2 := tv_un_i us164 rfl rfl
      refine wq_ifeq rfl (fun h167 => ?_) (fun h167 => ?_)
      · refine wq_con (x := 0) rfl (by decide) ?_
        exact wp_reti rfl (th_n0 rfl) ⟨Rs164, Or.inl rfl⟩
      · have gt : 0 ≤ (s149.1 6 4).toInt ∧ (s149.1 6 4).toInt ≤ 255 := Rs149.1.1 6 4
        have gt1 := hz164 h167
        have gt2 : (s149.1 6 4).toInt < n := by rw [nI_toInt (by omega)] at gt1; omega
        refine wp_lda rfl tm_m3 ?_
        refine wp_gsE rfl ?_
        refine wq_calv [.ref 75] rfl rfl rfl rfl rfl rfl rfl rfl rfl (th_pass10 hadv Rs164 (by decide)) ?_
        rintro r174 s174 ⟨hr174, Rs174, us174⟩
        obtain ⟨z174, rfl⟩ : ∃ z : Int32, r174 = some (.int z) := by rcases hr174 with rfl | rfl <;> exact ⟨_, rfl⟩
        have cs174 : s174.1 10 2 = s164.1 10 2 := tv_un_i us174 rfl rfl
        refine wq_ifne rfl (fun h177 => ?_) (fun h177 => ?_)
        · refine wp_lda rfl tm_m3 ?_
          refine wq_geti rfl rfl (f := 4) rfl rfl (Or.inl rfl) ?_
          refine wq_sti [(4, .int (s174.1 6 4)), (3, .int (s149.1 6 4)), (2, .int kd), (1, .int r1), (0, .ref 6)] rfl rfl ?_
          refine wp_lda rfl tm_m4 ?_
          refine wq_con (x := 40) rfl (by decide) ?_
          refine wq_calv [.int 40] rfl rfl rfl rfl rfl rfl rfl rfl rfl (th_pnum10 hadv Rs174) ?_
          rintro r191 s191 ⟨hr191, Rs191, us191⟩
          obtain ⟨z191, rfl, hz191⟩ : ∃ z : Int32, r191 = some (.int z) ∧ (¬ z = 0 → (s174.1 6 4).toInt ≤ (40 : Int32).toInt) := by
            rcases hr191 with ⟨rfl, g⟩ | rfl
            · exact ⟨_, rfl, fun _ => g⟩
            · exact ⟨_, rfl, fun e => absurd rfl e⟩
          have cs191 : s191.1 10 2 = s174.1 10 2 := tv_un_i us191 rfl rfl
          refine wq_ifeq rfl (fun h194 => ?_) (fun h194 => ?_)
          · refine wq_con (x := 0) rfl (by decide) ?_
            exact wp_reti rfl (th_n0 rfl) ⟨Rs191, Or.inl rfl⟩
          · refine wp_lda rfl tm_m4 ?_
            refine wp_gsE rfl ?_
            refine wq_calv [.ref 79] rfl rfl rfl rfl rfl rfl rfl rfl rfl (th_pass10 hadv Rs191 (by decide)) ?_
            rintro r201 s201 ⟨hr201, Rs201, us201⟩
            obtain ⟨z201, rfl⟩ : ∃ z : Int32, r201 = some (.int z) := by rcases hr201 with rfl | rfl <;> exact ⟨_, rfl⟩
            have cs201 : s201.1 10 2 = s191.1 10 2 := tv_un_i us201 rfl rfl
            refine wq_ifne rfl (fun h204 => ?_) (fun h204 => ?_)
            · refine wp_lda rfl tm_m4 ?_
              refine wq_getv rfl rfl (f := 1) rfl rfl ?_
              rw [Rs201.2.2.1]
              refine wp_ldi rfl tm_m3 ?_
              refine wp_ldi rfl tm_m2 ?_
              refine wp_ldi rfl tm_m1 ?_
              refine wp_ldi rfl tm_m0 ?_
              refine wq_calv [.int r1, .int kd, .int (s149.1 6 4), .int (s174.1 6 4)] rfl rfl rfl rfl rfl rfl rfl rfl rfl (th_avoice10 Rs201 r2 (by rw [cs201, cs191, cs174, cs164, cs149, cs140]; exact r3) kdz kd1 gt.1 gt2) ?_
              rintro _ s218 ⟨rfl, Rs218⟩
              refine wq_con (x := 1) rfl (by decide) ?_
              exact wp_reti rfl (th_n1 rfl) ⟨Rs218, Or.inr rfl⟩
            · refine wq_con (x := 0) rfl (by decide) ?_
              exact wp_reti rfl (th_n0 rfl) ⟨Rs201, Or.inl rfl⟩
        · refine wq_con (x := 0) rfl (by decide) ?_
          exact wp_reti rfl (th_n0 rfl) ⟨Rs174, Or.inl rfl⟩
    · refine wq_con (x := 0) rfl (by decide) ?_
      exact wp_reti rfl (th_n0 rfl) ⟨Rs140, Or.inl rfl⟩
  have k128 : ∀ (kd r1 : Int32) (t : tm_S), th_RD10 n σ t → 0 ≤ r1.toInt → r1.toInt < (t.1 10 2).toInt → kd.toInt ≤ 3 → WP 52 121 128 [(1, .int r1), (0, .ref 6)] [.int kd] t (fun q s' => th_RD10 n σ s' ∧ (q = some (.int 0) ∨ q = some (.int 1))) := by
    intro kd r1 t Rt r2 r3 kd1
    refine wq_sti [(2, .int kd), (1, .int r1), (0, .ref 6)] rfl rfl ?_
    refine wp_lda rfl tm_m2 ?_
    refine wp_ldi rfl tm_m0 ?_
    refine wq_iflt rfl (fun h131 => ?_) (fun h131 => ?_)
    · have g131 : (kd).toInt < 0 := tn_ltI.mp h131
      refine wq_con (x := 0) rfl (by decide) ?_
      exact WP.less (k139 0 kd r1 t (Or.inl rfl) Rt r2 r3 (fun e => absurd e (by decide)) kd1) (by simp)
    · have g131 : ¬ (kd).toInt < 0 := fun g => h131 (tn_ltI.mpr g)
      refine wq_con (x := 1) rfl (by decide) ?_
      refine wp_go rfl ?_
      exact WP.less (k139 1 kd r1 t (Or.inr rfl) Rt r2 r3 (fun e => by change ¬ kd.toInt < (0 : Int) at g131; omega) kd1) (by simp)
  have k91 : ∀ (z r1 : Int32) (t : tm_S), (z = 0 ∨ z = 1) → th_RD10 n σ t → (z = 1 → 0 ≤ r1.toInt) → r1.toInt < (t.1 10 2).toInt → WP 52 121 91 [(1, .int r1), (0, .ref 6)] [.int z, .ref 6] t (fun q s' => th_RD10 n σ s' ∧ (q = some (.int 0) ∨ q = some (.int 1))) := by
    intro z r1 t hz Rt r2 r3
    refine wq_con (x := 2) rfl (by decide) ?_
    refine wq_calv [.int z, .int 2] rfl rfl rfl rfl rfl rfl rfl rfl rfl (th_hold10 Rt (hz)) ?_
    rintro _ s92 ⟨rfl, Rs92, us92⟩
    have cs92 : s92.1 10 2 = t.1 10 2 := tv_un_i us92 rfl rfl
    have vs92 : s92.1 6 4 = t.1 6 4 := tv_un_i us92 rfl rfl
    refine wq_ifne rfl (fun h95 => ?_) (fun h95 => ?_)
    · have rz := r2 (hz.resolve_left h95)
      refine wp_lda rfl tm_m1 ?_
      refine wq_calv [] rfl rfl rfl rfl rfl rfl rfl rfl rfl (WM.deep (th_adv10 hadv Rs92) (by decide)) ?_
      rintro _ s101 ⟨rfl, Rs101, us101⟩
      have cs101 : s101.1 10 2 = s92.1 10 2 := tv_un_i us101 rfl rfl
      refine wp_lda rfl tm_m1 ?_
      refine wq_getv rfl rfl (f := 3) rfl rfl ?_
      refine wp_gsE rfl ?_
      refine wp_ac rfl (th_tkq Rs101.1) (by decide) (fun h111 => ?_) (fun h111 => ?_)
      · refine wq_con (x := (-1)) rfl (by decide) ?_
        exact WP.less (k128 (-1) r1 s101 Rs101 rz (by rw [cs101, cs92]; exact r3) (by decide)) (by simp)
      · refine wp_str rfl ?_
        refine wp_lda rfl tm_m1 ?_
        refine wq_geti rfl rfl (f := 4) rfl rfl (Or.inl rfl) ?_
        refine wp_i2c rfl ?_
        refine wq_calS [.int (((s101.1 6 4).toUInt32 % 65536).toInt32)] rfl rfl rfl rfl rfl rfl rfl (by decide) (WM.deep (th_io2 (q := 3) (d := 37) (by decide) (c := (((s101.1 6 4).toUInt32 % 65536).toInt32)) (by decide)) (by decide)) ?_
        rintro _ _ ⟨⟨zi, rfl, zi1, zi2⟩, rfl⟩
        have zi3 : zi.toInt < (4 : Nat) := zi2
        refine wp_go rfl ?_
        exact WP.less (k128 zi r1 s101 Rs101 rz (by rw [cs101, cs92]; exact r3) (by omega)) (by simp)
    · refine wq_con (x := 0) rfl (by decide) ?_
      exact wp_reti rfl (th_n0 rfl) ⟨Rs92, Or.inl rfl⟩
  have k73 : ∀ (z r1 : Int32) (t : tm_S), (z = 0 ∨ z = 1) → th_RD10 n σ t → -1 ≤ r1.toInt → r1.toInt < (t.1 10 2).toInt → WP 52 121 73 [(1, .int r1), (0, .ref 6)] [.int z, .ref 6] t (fun q s' => th_RD10 n σ s' ∧ (q = some (.int 0) ∨ q = some (.int 1))) := by
    intro z r1 t hz Rt r2 r3
    refine wq_con (x := 1) rfl (by decide) ?_
    refine wq_calv [.int z, .int 1] rfl rfl rfl rfl rfl rfl rfl rfl rfl (th_hold10 Rt (hz)) ?_
    rintro _ s74 ⟨rfl, Rs74, us74⟩
    have cs74 : s74.1 10 2 = t.1 10 2 := tv_un_i us74 rfl rfl
    have vs74 : s74.1 6 4 = t.1 6 4 := tv_un_i us74 rfl rfl
    refine wq_ifeq rfl (fun h77 => ?_) (fun h77 => ?_)
    · refine wq_con (x := 0) rfl (by decide) ?_
      exact wp_reti rfl (th_n0 rfl) ⟨Rs74, Or.inl rfl⟩
    · refine wp_lda rfl tm_m1 ?_
      refine wp_ldi rfl tm_m0 ?_
      refine wq_con (x := (-1)) rfl (by decide) ?_
      refine wq_iceq rfl (fun h83 => ?_) (fun h83 => ?_)
      · refine wq_con (x := 0) rfl (by decide) ?_
        exact k91 0 r1 s74 (Or.inl rfl) Rs74 (fun e => absurd e (by decide)) (by rw [cs74]; exact r3)
      · refine wq_con (x := 1) rfl (by decide) ?_
        refine wp_go rfl ?_
        exact k91 1 r1 s74 (Or.inr rfl) Rs74 (fun e => by have : ¬ r1.toInt = -1 := fun x => h83 (Int32.toInt_inj.mp x); omega) (by rw [cs74]; exact r3)
  have k56 : ∀ (r1 : Int32) (t : tm_S), th_RD10 n σ t → -1 ≤ r1.toInt → r1.toInt < (t.1 10 2).toInt → WP 52 121 56 [(0, .ref 6)] [.int r1] t (fun q s' => th_RD10 n σ s' ∧ (q = some (.int 0) ∨ q = some (.int 1))) := by
    intro r1 t Rt r2 r3
    refine wq_sti [(1, .int r1), (0, .ref 6)] rfl rfl ?_
    refine wp_lda rfl tm_m1 ?_
    refine wp_lda rfl tm_m1 ?_
    refine wq_getv rfl rfl (f := 3) rfl rfl ?_
    refine wp_gsE rfl ?_
    refine wp_ac rfl (th_tkq Rt.1) (by decide) (fun h65 => ?_) (fun h65 => ?_)
    · refine wq_con (x := 0) rfl (by decide) ?_
      exact WP.less (k73 0 r1 t (Or.inl rfl) Rt r2 r3) (by simp)
    · refine wq_con (x := 1) rfl (by decide) ?_
      refine wp_go rfl ?_
      exact WP.less (k73 1 r1 t (Or.inr rfl) Rt r2 r3) (by simp)
  have k18 : ∀ z : Int32, (z = 0 ∨ z = 1) → WP 52 121 18 [(0, .ref 6)] [.int z, .ref 6] s (fun q s' => th_RD10 n σ s' ∧ (q = some (.int 0) ∨ q = some (.int 1))) := by
    intro z hz
    refine wq_con (x := 4) rfl (by decide) ?_
    refine wq_calv [.int z, .int 4] rfl rfl rfl rfl rfl rfl rfl rfl rfl (th_hold10 R (hz)) ?_
    rintro _ s19 ⟨rfl, Rs19, us19⟩
    have cs19 : s19.1 10 2 = s.1 10 2 := tv_un_i us19 rfl rfl
    have vs19 : s19.1 6 4 = s.1 6 4 := tv_un_i us19 rfl rfl
    refine wq_ifne rfl (fun h22 => ?_) (fun h22 => ?_)
    · refine wp_lda rfl tm_m0 ?_
      refine wq_calv [] rfl rfl rfl rfl rfl rfl rfl rfl rfl (WM.deep (th_adv10 hadv Rs19) (by decide)) ?_
      rintro _ s28 ⟨rfl, Rs28, us28⟩
      have cs28 : s28.1 10 2 = s19.1 10 2 := tv_un_i us28 rfl rfl
      have gr : 0 ≤ (s28.1 10 2).toInt := (Rs28.1.1 10 2).1
      refine wp_lda rfl tm_m0 ?_
      refine wq_getv rfl rfl (f := 3) rfl rfl ?_
      refine wp_gsE rfl ?_
      refine wp_ac rfl (th_tkq Rs28.1) (by decide) (fun h38 => ?_) (fun h38 => ?_)
      · refine wq_con (x := (-1)) rfl (by decide) ?_
        exact k56 (-1) s28 Rs28 (by decide) (by show (-1 : Int) < _; omega)
      · refine wp_lda rfl tm_m0 ?_
        refine wq_getv rfl rfl (f := 1) rfl rfl ?_
        rw [Rs28.2.2.1]
        refine wp_lda rfl tm_m0 ?_
        refine wq_geti rfl rfl (f := 4) rfl rfl (Or.inl rfl) ?_
        refine wq_calv [.int (s28.1 6 4)] rfl rfl rfl rfl rfl rfl rfl rfl rfl (th_frow10 Rs28.1) ?_
        rintro _ _ ⟨⟨zf, rfl, zf1, zf2⟩, rfl⟩
        refine wp_go rfl ?_
        exact k56 zf s28 Rs28 zf1 zf2
    · refine wq_con (x := 0) rfl (by decide) ?_
      exact wp_reti rfl (th_n0 rfl) ⟨Rs19, Or.inl rfl⟩
  show WP 52 121 0 [(0, .ref 6)] [] s _
  refine wp_lda rfl tm_m0 ?_
  refine wp_lda rfl tm_m0 ?_
  refine wq_getv rfl rfl (f := 1) rfl rfl ?_
  rw [R.2.2.1]
  refine wq_calv [] rfl rfl rfl rfl rfl rfl rfl rfl rfl (th_voiceCount10) ?_
  rintro _ _ ⟨rfl, rfl⟩
  refine wq_con (x := 8) rfl (by decide) ?_
  refine wq_icge rfl (fun h10 => ?_) (fun h10 => ?_)
  · refine wq_con (x := 0) rfl (by decide) ?_
    exact k18 0 (Or.inl rfl)
  · refine wq_con (x := 1) rfl (by decide) ?_
    refine wp_go rfl ?_
    exact k18 1 (Or.inr rfl)
set_option maxRecDepth 100000 in
set_option maxHeartbeats 4000000 in
theorem th_xread10 {n : Nat} {σ : tm_S} (hn : n ≤ 12) (h3 : 3 ≤ n) (hadv : tv_Snd (tc_T (n : Int)) tz_adv) (hT : tv_TY (tc_T (n : Int)) σ) (hm : σ.2.2 6 1 = 10) : WM 53 98 [.ref 6, .int (nI n)] σ (fun q s' => th_RD10 n σ s' ∧ (q = some (.int 0) ∨ q = some (.int 1))) := by
  have k119 : ∀ (z w : Int32) (t : tm_S), (z = 0 ∨ z = 1) → th_RD10 n σ t → WP 53 98 119 [(2, .int w), (0, .ref 6)] [.int z, .ref 6] t (fun q s' => th_RD10 n σ s' ∧ (q = some (.int 0) ∨ q = some (.int 1))) := by
    intro z w t hz Rt
    refine wq_con (x := 1) rfl (by decide) ?_
    refine wq_calv [.int z, .int 1] rfl rfl rfl rfl rfl rfl rfl rfl rfl (th_hold10 Rt (hz)) ?_
    rintro _ s120 ⟨rfl, Rs120, us120⟩
    have cs120 : s120.1 10 2 = t.1 10 2 := tv_un_i us120 rfl rfl
    have vs120 : s120.1 6 4 = t.1 6 4 := tv_un_i us120 rfl rfl
    refine wq_ifeq rfl (fun h123 => ?_) (fun h123 => ?_)
    · refine wq_con (x := 0) rfl (by decide) ?_
      exact wp_reti rfl (th_n0 rfl) ⟨Rs120, Or.inl rfl⟩
    · refine wq_con (x := 1) rfl (by decide) ?_
      refine wp_go rfl ?_
      exact wp_reti rfl (th_n1 rfl) ⟨Rs120, Or.inr rfl⟩
  have k99 : ∀ (w : Int32) (t : tm_S), th_RD10 n σ t → WP 53 98 99 [(2, .int w), (0, .ref 6)] [] t (fun q s' => th_RD10 n σ s' ∧ (q = some (.int 0) ∨ q = some (.int 1))) := by
    intro w t Rt
    refine wp_ldi rfl tm_m0 ?_
    refine wq_ifeq rfl (fun h100 => ?_) (fun h100 => ?_)
    · refine wq_con (x := 0) rfl (by decide) ?_
      exact wp_reti rfl (th_n0 rfl) ⟨Rt, Or.inl rfl⟩
    · refine wp_lda rfl tm_m1 ?_
      refine wp_lda rfl tm_m1 ?_
      refine wq_getv rfl rfl (f := 3) rfl rfl ?_
      refine wp_gsE rfl ?_
      refine wp_ac rfl (th_tkq Rt.1) (by decide) (fun h111 => ?_) (fun h111 => ?_)
      · refine wq_con (x := 0) rfl (by decide) ?_
        exact k119 0 w t (Or.inl rfl) Rt
      · refine wq_con (x := 1) rfl (by decide) ?_
        refine wp_go rfl ?_
        exact k119 1 w t (Or.inr rfl) Rt
  have k68 : ∀ (m : Nat) (w i : Int32) (t : tm_S), th_RD10 n σ t → 0 ≤ i.toInt → 9 ≤ i.toInt + m → WP 53 98 68 [(3, .int i), (2, .int w), (0, .ref 6)] [] t (fun q s' => th_RD10 n σ s' ∧ (q = some (.int 0) ∨ q = some (.int 1))) := by
    intro m
    induction m with
    | zero =>
      intro w i t Rt hi hm2
      refine wp_ldi rfl tm_m0 ?_
      refine wq_con (x := 8) rfl (by decide) ?_
      refine wq_icgt rfl (fun h71 => ?_) (fun h71 => absurd (tn_ltI.mpr (by show (8 : Int) < _; omega)) h71)
      have g71 : 8 < (i).toInt := tn_ltI.mp h71
      exact WP.less (k99 w t Rt) (by simp)
    | succ m ih =>
      intro w i t Rt hi hm2
      refine wp_ldi rfl tm_m0 ?_
      refine wq_con (x := 8) rfl (by decide) ?_
      refine wq_icgt rfl (fun h71 => ?_) (fun h71 => ?_)
      · have g71 : 8 < (i).toInt := tn_ltI.mp h71
        exact WP.less (k99 w t Rt) (by simp)
      · have g71 : ¬ 8 < (i).toInt := fun g => h71 (tn_ltI.mpr g)
        refine wp_ldi rfl tm_m1 ?_
        refine wq_ifeq rfl (fun h75 => ?_) (fun h75 => ?_)
        · have g75 : (w).toInt = 0 := congrArg Int32.toInt h75
          exact WP.less (k99 w t Rt) (by simp)
        · refine wp_lda rfl tm_m2 ?_
          refine wq_getv rfl rfl (f := 3) rfl rfl ?_
          refine wp_gsE rfl ?_
          refine wp_ac rfl (th_tkq Rt.1) (by decide) (fun h85 => ?_) (fun h85 => ?_)
          · exact WP.less (k99 w t Rt) (by simp)
          · refine wp_lda rfl tm_m2 ?_
            refine wq_calv [] rfl rfl rfl rfl rfl rfl rfl rfl rfl (th_xrvoice10 hn h3 hadv Rt) ?_
            rintro rq t2 ⟨R2, hrq⟩
            obtain ⟨zq, rfl⟩ : ∃ z : Int32, rq = some (.int z) := by rcases hrq with rfl | rfl <;> exact ⟨_, rfl⟩
            refine wq_sti [(2, .int zq), (3, .int i), (0, .ref 6)] rfl rfl ?_
            refine wq_inc (c := 1) [(3, .int (i + 1)), (2, .int zq), (0, .ref 6)] rfl tm_m1 rfl rfl ?_
            refine wp_go rfl ?_
            have e1 := tn_add1 (x := i) (by change ¬ (8 : Int) < _ at g71; omega)
            exact WP.less (ih zq (i + 1) t2 R2 (by omega) (by omega)) (by simp)
  have k35 : ∀ (m : Nat) (w i : Int32) (t : tm_S), th_RD10 n σ t → 0 ≤ i.toInt → 7 ≤ i.toInt + m → WP 53 98 35 [(3, .int i), (2, .int w), (0, .ref 6)] [] t (fun q s' => th_RD10 n σ s' ∧ (q = some (.int 0) ∨ q = some (.int 1))) := by
    intro m
    induction m with
    | zero =>
      intro w i t Rt hi hm2
      refine wp_ldi rfl tm_m0 ?_
      refine wq_con (x := 6) rfl (by decide) ?_
      refine wq_icgt rfl (fun h38 => ?_) (fun h38 => absurd (tn_ltI.mpr (by show (6 : Int) < _; omega)) h38)
      have g38 : 6 < (i).toInt := tn_ltI.mp h38
      refine wq_con (x := 0) rfl (by decide) ?_
      refine wq_sti [(3, .int 0), (2, .int w), (0, .ref 6)] rfl rfl ?_
      exact k68 9 w 0 t Rt (by decide) (by decide)
    | succ m ih =>
      intro w i t Rt hi hm2
      refine wp_ldi rfl tm_m0 ?_
      refine wq_con (x := 6) rfl (by decide) ?_
      refine wq_icgt rfl (fun h38 => ?_) (fun h38 => ?_)
      · have g38 : 6 < (i).toInt := tn_ltI.mp h38
        refine wq_con (x := 0) rfl (by decide) ?_
        refine wq_sti [(3, .int 0), (2, .int w), (0, .ref 6)] rfl rfl ?_
        exact k68 9 w 0 t Rt (by decide) (by decide)
      · have g38 : ¬ 6 < (i).toInt := fun g => h38 (tn_ltI.mpr g)
        refine wp_ldi rfl tm_m1 ?_
        refine wq_ifeq rfl (fun h42 => ?_) (fun h42 => ?_)
        · have g42 : (w).toInt = 0 := congrArg Int32.toInt h42
          refine wq_con (x := 0) rfl (by decide) ?_
          refine wq_sti [(3, .int 0), (2, .int w), (0, .ref 6)] rfl rfl ?_
          exact k68 9 w 0 t Rt (by decide) (by decide)
        · refine wp_lda rfl tm_m2 ?_
          refine wq_getv rfl rfl (f := 3) rfl rfl ?_
          refine wp_gsE rfl ?_
          refine wp_ac rfl (th_tkq Rt.1) (by decide) (fun h52 => ?_) (fun h52 => ?_)
          · refine wq_con (x := 0) rfl (by decide) ?_
            refine wq_sti [(3, .int 0), (2, .int w), (0, .ref 6)] rfl rfl ?_
            exact k68 9 w 0 t Rt (by decide) (by decide)
          · refine wp_lda rfl tm_m2 ?_
            refine wq_calv [] rfl rfl rfl rfl rfl rfl rfl rfl rfl (th_xrrow10 hn h3 hadv Rt) ?_
            rintro rq t2 ⟨R2, hrq⟩
            obtain ⟨zq, rfl⟩ : ∃ z : Int32, rq = some (.int z) := by rcases hrq with rfl | rfl <;> exact ⟨_, rfl⟩
            refine wq_sti [(2, .int zq), (3, .int i), (0, .ref 6)] rfl rfl ?_
            refine wq_inc (c := 1) [(3, .int (i + 1)), (2, .int zq), (0, .ref 6)] rfl tm_m1 rfl rfl ?_
            refine wp_go rfl ?_
            have e1 := tn_add1 (x := i) (by change ¬ (6 : Int) < _ at g38; omega)
            exact WP.less (ih zq (i + 1) t2 R2 (by omega) (by omega)) (by simp)
  show WP 53 98 0 [(0, .ref 6), (1, .int (nI n))] [] σ _
  refine wp_lda rfl tm_m0 ?_
  refine wp_ldi rfl tm_m1 ?_
  refine wq_puti rfl rfl (f := 2) rfl rfl ?_
  refine wp_lda rfl tm_m0 ?_
  refine wq_con (x := 0) rfl (by decide) ?_
  refine wq_puti rfl rfl (f := 6) rfl rfl ?_
  refine wp_lda rfl tm_m0 ?_
  refine wq_con (x := 0) rfl (by decide) ?_
  refine wq_puti rfl rfl (f := 7) rfl rfl ?_
  refine wp_lda rfl tm_m0 ?_
  refine wq_con (x := (-1)) rfl (by decide) ?_
  refine wq_puti rfl rfl (f := 8) rfl rfl ?_
  refine wp_lda rfl tm_m0 ?_
  refine wq_getv rfl rfl (f := 1) rfl rfl ?_
  rw [show (tm_sI (tm_sI (tm_sI (tm_sI σ 6 2 (nI n)) 6 6 0) 6 7 0) 6 8 (-1)).2.2 6 1 = 10 from hm]
  refine wq_calv [] rfl rfl rfl rfl rfl rfl rfl rfl rfl (th_clear10) ?_
  rintro _ τ ⟨rfl, hτ⟩
  have eN : (nI n).toInt = n := nI_toInt (by omega)
  have Rτ : th_RD10 n σ τ := by
    rw [hτ]
    have z2 : (tm_sI (tm_sI (tm_sI (tm_sI (tm_sI (tm_sI σ 6 2 (nI n)) 6 6 0) 6 7 0) 6 8 (-1)) 10 2 0) 10 7 0).1 10 2 = 0 := by rw [tm_gI, if_neg (fun e => absurd e.2 (by decide)), tm_gI, if_pos ⟨rfl, rfl⟩]
    have z7 : (tm_sI (tm_sI (tm_sI (tm_sI (tm_sI (tm_sI σ 6 2 (nI n)) 6 6 0) 6 7 0) 6 8 (-1)) 10 2 0) 10 7 0).1 10 7 = 0 := by rw [tm_gI, if_pos ⟨rfl, rfl⟩]
    refine ⟨tv_TY_sI (tv_TY_sI (tv_TY_sI (tv_TY_sI (tv_TY_sI (tv_TY_sI hT (by rw [eN]; show (0 : Int) ≤ _; omega) (by rw [eN]; show _ ≤ (12 : Int); omega)) (by show (0 : Int) ≤ (0 : Int32).toInt; decide) (by show (0 : Int32).toInt ≤ (800 : Int); decide)) (tn_rng _).1 (tn_rng _).2) (tn_rng _).1 (tn_rng _).2) (by show (0 : Int) ≤ (0 : Int32).toInt; decide) (by show (0 : Int32).toInt ≤ (6 : Int); decide)) (by show (0 : Int) ≤ (0 : Int32).toInt; decide) (by show (0 : Int32).toInt ≤ (8 : Int); decide), tv_un_tr (tv_un_tr (tv_un_tr (tv_un_tr (tv_un_tr (tv_un_fI rfl) (tv_un_fI rfl)) (tv_un_fI rfl)) (tv_un_fI rfl)) (tv_un_fI rfl)) (tv_un_fI rfl), hm, by rw [tm_gI, if_neg (fun e => absurd e.1 (by decide)), tm_gI, if_neg (fun e => absurd e.1 (by decide)), tm_gI, if_neg (fun e => absurd e.2 (by decide)), tm_gI, if_neg (fun e => absurd e.2 (by decide)), tm_gI, if_neg (fun e => absurd e.2 (by decide)), tm_gI, if_pos ⟨rfl, rfl⟩], fun r hr => ?_, fun u hu => ?_⟩
    · rw [z2] at hr
      change (r : Int) < 0 at hr
      omega
    · rw [z7] at hu
      change (u : Int) < 0 at hu
      omega
  refine wp_lda rfl tm_m0 ?_
  refine wq_calv [] rfl rfl rfl rfl rfl rfl rfl rfl rfl (WM.deep (th_adv10 hadv Rτ) (by decide)) ?_
  rintro _ s28 ⟨rfl, Rs28, us28⟩
  have cs28 : s28.1 10 2 = τ.1 10 2 := tv_un_i us28 rfl rfl
  refine wq_con (x := 1) rfl (by decide) ?_
  refine wq_sti [(2, .int 1), (0, .ref 6), (1, .int (nI n))] rfl rfl ?_
  refine wq_con (x := 0) rfl (by decide) ?_
  refine wq_sti [(3, .int 0), (2, .int 1), (0, .ref 6), (1, .int (nI n))] rfl rfl ?_
  exact WP.less (k35 7 1 0 s28 Rs28 (by decide) (by decide)) (by simp)
