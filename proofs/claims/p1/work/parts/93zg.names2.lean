/-! ===== names: what both answer ===== -/
def th_I2 (n : Nat) (σ : tm_S) : Prop := th_IV n σ ∧ tk_NM n σ
theorem th_I20 {n : Nat} {σ : tm_S} (h : th_I2 n σ) : th_I2 n (tm_sI σ 11 0 0) := ⟨th_IV0 h.1, tk_NMu h.2 rfl rfl rfl rfl⟩
theorem tk_I2 {n : Nat} {σ t : tm_S} (h : th_IV n σ) (F : tk_F n σ t) (hM : tk_NM n t) : th_I2 n t := ⟨⟨h.1, h.2.1, F.1, th_SLu h.2.2.1 h.2.2.2 F.2 (by decide)⟩, hM⟩
theorem tk_li {d n g S : Nat} {σ s : tm_S} (hn : n ≤ 12) (h3 : 3 ≤ n) (hg : g ≤ 2) (hS : S < 2 ^ n) (F : tk_F n σ s) (hM : tk_NM n s) : WM (d + 4) 14 [.ref 1, .int (nI g), .int (nI S)] s (fun r t => r = some (.int (nI (tk_nm n g S))) ∧ tk_F n σ t ∧ tk_NM n t) := by
  rcases (by omega : g = 0 ∨ g = 1 ∨ g = 2) with rfl | rfl | rfl
  · exact tk_li0 hn h3 hS F hM
  · exact tk_li1 hn h3 hS F hM
  · exact tk_li2 hn h3 hS F hM
theorem tk_cn {d n g K : Nat} {σ s : tm_S} (hn : n ≤ 12) (h3 : 3 ≤ n) (hg : g ≤ 2) (hK : K ≤ 12) (F : tk_F n σ s) (hM : tk_NM n s) : WM (d + 4) 23 [.ref 1, .int (nI g), .int (nI K)] s (fun r t => r = some (.int (nI (th_sm (tk_is n g K) (2 ^ n)))) ∧ tk_F n σ t ∧ tk_NM n t) := by
  rcases (by omega : g = 0 ∨ g = 1 ∨ g = 2) with rfl | rfl | rfl
  · exact tk_cn0 hn h3 hK F hM
  · exact tk_cn1 hn h3 hK F hM
  · exact tk_cn2 hn h3 hK F hM
theorem tk_fn {d n g K I : Nat} {σ s : tm_S} (hn : n ≤ 12) (h3 : 3 ≤ n) (hg : g ≤ 2) (hK : K ≤ 12) (hI : I < 2 ^ 31) (F : tk_F n σ s) (hM : tk_NM n s) : WM (d + 4) 27 [.ref 1, .int (nI g), .int (nI K), .int (nI I)] s (fun r t => (∃ z : Int32, r = some (.int z) ∧ tk_fd n g K I z) ∧ tk_F n σ t ∧ tk_NM n t) := by
  rcases (by omega : g = 0 ∨ g = 1 ∨ g = 2) with rfl | rfl | rfl
  · exact tk_fn0 hn h3 hK hI F hM
  · exact tk_fn1 hn h3 hK hI F hM
  · exact tk_fn2 hn h3 hK hI F hM
theorem tk_fdu {n g K I : Nat} {z w : Int32} (h : tk_fd n g K I z) (k : tk_fd n g K I w) : z = w := by
  have up : ∀ v u : Nat, v < u → tk_is n g K v = true → th_sm (tk_is n g K) v + 1 ≤ th_sm (tk_is n g K) u := fun v u hv hb => by
    have h1 : th_sm (tk_is n g K) (v + 1) ≤ th_sm (tk_is n g K) u := th_sm_mono hv
    have h2 : th_sm (tk_is n g K) (v + 1) = th_sm (tk_is n g K) v + bif tk_is n g K v then 1 else 0 := rfl
    rw [hb] at h2
    change _ = _ + 1 at h2
    omega
  rcases h with ⟨v, rfl, v1, v2, v3⟩ | ⟨rfl, h1⟩
  · rcases k with ⟨u, rfl, u1, u2, u3⟩ | ⟨rfl, k1⟩
    · rcases Nat.lt_trichotomy v u with e | e | e
      · have := up v u e v2
        omega
      · rw [e]
      · have := up u v e u2
        omega
    · have := up v _ v1 v2
      omega
  · rcases k with ⟨u, rfl, u1, u2, u3⟩ | ⟨rfl, k1⟩
    · have := up u _ u1 u2
      omega
    · rfl
/-- so many notes -/
def tk_mn (n : Nat) (g k : Int32) : Prop := tg_gp g ∧ ∃ K : Nat, k = nI K ∧ K ≤ n
def tp_nok (n : Nat) (g s : Int32) : Prop := tg_gp g ∧ th_st n s
/-- what name answers -/
def tp_name (n : Nat) (g s z : Int32) : Prop := (∃ G S : Nat, g = nI G ∧ s = nI S ∧ G ≤ 2 ∧ S < 2 ^ 12 ∧ z = nI (tk_nm n G S) ∧ tp_nok n g s) ∨ (¬ tp_nok n g s ∧ z = -1)
theorem tp_name_u {n : Nat} {g s z w : Int32} (h : tp_name n g s z) (k : tp_name n g s w) : z = w := by
  rcases h with ⟨S, q, e1, e2, e3, e4, e5, e6⟩ | ⟨h1, h2⟩
  · rcases k with ⟨S', q', f1, f2, f3, f4, f5, f6⟩ | ⟨g1, g2⟩
    · rw [e5, f5, (nI_eq (by omega) (by omega)).mp (e1.symm.trans f1), (nI_eq (by omega) (by omega)).mp (e2.symm.trans f2)]
    · exact absurd e6 g1
  · rcases k with ⟨S', q', f1, f2, f3, f4, f5, f6⟩ | ⟨g1, g2⟩
    · exact absurd f6 h1
    · rw [h2, g2]
/-- what classes answers -/
def tp_cls (n : Nat) (g k z : Int32) : Prop := (∃ G K : Nat, g = nI G ∧ k = nI K ∧ G ≤ 2 ∧ K ≤ 12 ∧ z = nI (th_sm (tk_is n G K) (2 ^ n)) ∧ tk_mn n g k) ∨ (¬ tk_mn n g k ∧ z = -1)
theorem tp_cls_u {n : Nat} {g s z w : Int32} (h : tp_cls n g s z) (k : tp_cls n g s w) : z = w := by
  rcases h with ⟨S, q, e1, e2, e3, e4, e5, e6⟩ | ⟨h1, h2⟩
  · rcases k with ⟨S', q', f1, f2, f3, f4, f5, f6⟩ | ⟨g1, g2⟩
    · rw [e5, f5, (nI_eq (by omega) (by omega)).mp (e1.symm.trans f1), (nI_eq (by omega) (by omega)).mp (e2.symm.trans f2)]
    · exact absurd e6 g1
  · rcases k with ⟨S', q', f1, f2, f3, f4, f5, f6⟩ | ⟨g1, g2⟩
    · exact absurd f6 h1
    · rw [h2, g2]
/-- what nameOf answers -/
def tp_nfok (n : Nat) (g k i : Int32) : Prop := tk_mn n g k ∧ ¬ i.toInt < 0
def tp_nof (n : Nat) (g k i z : Int32) : Prop := (∃ G K I : Nat, g = nI G ∧ k = nI K ∧ i = nI I ∧ G ≤ 2 ∧ K ≤ 12 ∧ I < 2 ^ 31 ∧ tk_fd n G K I z ∧ tp_nfok n g k i) ∨ (¬ tp_nfok n g k i ∧ z = -1)
theorem tp_nof_u {n : Nat} {g s i z w : Int32} (h : tp_nof n g s i z) (k : tp_nof n g s i w) : z = w := by
  rcases h with ⟨S, q, I, e1, e2, e0, e3, e4, e7, e5, e6⟩ | ⟨h1, h2⟩
  · rcases k with ⟨S', q', I', f1, f2, f0, f3, f4, f7, f5, f6⟩ | ⟨g1, g2⟩
    · rw [← (nI_eq (by omega) (by omega)).mp (e1.symm.trans f1), ← (nI_eq (by omega) (by omega)).mp (e2.symm.trans f2), ← (nI_eq e7 f7).mp (e0.symm.trans f0)] at f5
      exact tk_fdu e5 f5
    · exact absurd e6 g1
  · rcases k with ⟨S', q', I', f1, f2, f0, f3, f4, f7, f5, f6⟩ | ⟨g1, g2⟩
    · exact absurd f6 h1
    · rw [h2, g2]
/-- another class, alike in its intervals -/
def tk_same (n S v : Nat) : Prop := ∀ d : Nat, 1 ≤ d → 2 * d ≤ n → th_pt n S d n = th_pt n v d n
def tk_tw (n S v : Nat) : Prop := tk_nm n 1 v = v ∧ th_po v n = th_po S n ∧ ¬ v = tk_nm n 1 S ∧ tk_same n S v
def tk_twz (n S : Nat) (z : Int32) : Prop := (∃ v : Nat, z = nI v ∧ v < 2 ^ n ∧ tk_tw n S v ∧ ∀ u : Nat, u < v → ¬ tk_tw n S u) ∨ (z = -1 ∧ ∀ u : Nat, u < 2 ^ n → ¬ tk_tw n S u)
def tp_twin (n : Nat) (s z : Int32) : Prop := (∃ S : Nat, s = nI S ∧ S < 2 ^ 12 ∧ tk_twz n S z ∧ th_st n s) ∨ (¬ th_st n s ∧ z = -1)
theorem tp_twin_u {n : Nat} {s z w : Int32} (h : tp_twin n s z) (k : tp_twin n s w) : z = w := by
  rcases h with ⟨S, e1, e2, e3, e4⟩ | ⟨h1, h2⟩
  · rcases k with ⟨S', f1, f2, f3, f4⟩ | ⟨g1, g2⟩
    · rw [← (nI_eq (by omega) (by omega)).mp (e1.symm.trans f1)] at f3
      rcases e3 with ⟨v, rfl, v1, v2, v3⟩ | ⟨rfl, e3⟩
      · rcases f3 with ⟨u, rfl, u1, u2, u3⟩ | ⟨rfl, f3⟩
        · rcases Nat.lt_trichotomy v u with e | e | e
          · exact absurd v2 (u3 v e)
          · rw [e]
          · exact absurd u2 (v3 u e)
        · exact absurd v2 (f3 v v1)
      · rcases f3 with ⟨u, rfl, u1, u2, u3⟩ | ⟨rfl, f3⟩
        · exact absurd u2 (e3 u u1)
        · rfl
    · exact absurd e4 g1
  · rcases k with ⟨S', f1, f2, f3, f4⟩ | ⟨g1, g2⟩
    · exact absurd f4 h1
    · rw [h2, g2]
set_option maxRecDepth 100000 in
set_option maxHeartbeats 4000000 in
theorem tf2_x_name {n : Nat} {a1 a2 : Int32} {σ : tm_S} (h : th_I2 n σ) : WM 90 12 [.ref 0, .int a1, .int a2] σ (fun r σ' => ∃ z : Int32, r = some (.int z) ∧ tp_name n a1 a2 z ∧ th_I2 n σ') := by
  have ⟨⟨h3, hn, hT, hSL⟩, hM⟩ := h
  have hN := th_N0 hT hn
  have hp : 2 ^ n ≤ 4096 := Nat.pow_le_pow_right (n := 2) (by decide) hn
  have eN : (nI n).toInt = n := nI_toInt (by omega)
  show WP 90 12 0 [(0, .ref 0), (1, .int a1), (2, .int a2)] [] σ _
  refine wp_ldi rfl tm_m1 ?_
  refine wq_cals [.int a1] rfl rfl rfl rfl rfl rfl (th_xgp) ?_
  rintro r1 _ ⟨hr1, rfl⟩
  obtain ⟨z1, rfl, hz1, hn1⟩ : ∃ z : Int32, r1 = some (.int z) ∧ (¬ z = 0 → tg_gp a1) ∧ (z = 0 → ¬ tg_gp a1) := by
    rcases hr1 with ⟨rfl, g⟩ | ⟨rfl, g⟩
    · exact ⟨_, rfl, fun _ => g, fun e => absurd e (by decide)⟩
    · exact ⟨_, rfl, fun e => absurd rfl e, fun _ => g⟩
  refine wq_ifeq rfl (fun h4 => ?_) (fun h4 => ?_)
  · refine wq_con (x := (-1)) rfl (by decide) ?_
    refine wp_reti rfl (th_nI rfl) ⟨_, rfl, Or.inr ⟨fun hk => ?_, rfl⟩, h⟩
    first | exact hn1 h4 hk.1 | exact hn12 (Classical.not_not.mp h15) hk.2
  · refine wp_lda rfl tm_m0 ?_
    refine wq_getr (p := 1) rfl rfl (f := 0) rfl rfl ?_
    refine wp_ldi rfl tm_m2 ?_
    refine wq_calv [.int a2] rfl rfl rfl rfl rfl rfl rfl rfl rfl (th_hset hN hn) ?_
    rintro r12 _ ⟨hr12, rfl⟩
    obtain ⟨z12, rfl, hz12, hn12⟩ : ∃ z : Int32, r12 = some (.int z) ∧ (¬ z = 0 → th_st n a2) ∧ (z = 0 → ¬ th_st n a2) := by
      rcases hr12 with ⟨rfl, g⟩ | ⟨rfl, g⟩
      · exact ⟨_, rfl, fun _ => g, fun e => absurd e (by decide)⟩
      · exact ⟨_, rfl, fun e => absurd rfl e, fun _ => g⟩
    refine wq_ifne rfl (fun h15 => ?_) (fun h15 => ?_)
    · obtain ⟨G, e1, hG⟩ := hz1 h4
      obtain ⟨S, e2, hS⟩ := hz12 h15
      refine wp_lda rfl tm_m0 ?_
      refine wq_getr (p := 1) rfl rfl (f := 0) rfl rfl ?_
      refine wp_ldi rfl tm_m1 ?_
      refine wp_ldi rfl tm_m2 ?_
      refine wq_calv [.int a1, .int a2] rfl rfl rfl rfl rfl rfl rfl rfl rfl (by rw [e1, e2]; exact tk_li (d := 85) hn h3 hG hS ⟨hT, tv_un_rf⟩ hM) ?_
      rintro _ t ⟨rfl, Ft, Mt⟩
      exact wp_reti rfl (th_nI rfl) ⟨_, rfl, Or.inl ⟨G, S, e1, e2, hG, by omega, rfl, ⟨⟨G, e1, hG⟩, ⟨S, e2, hS⟩⟩⟩, tk_I2 h.1 Ft Mt⟩
    · refine wq_con (x := (-1)) rfl (by decide) ?_
      refine wp_reti rfl (th_nI rfl) ⟨_, rfl, Or.inr ⟨fun hk => ?_, rfl⟩, h⟩
      first | exact hn1 h4 hk.1 | exact hn12 (Classical.not_not.mp h15) hk.2
set_option maxRecDepth 100000 in
set_option maxHeartbeats 4000000 in
theorem tf2_m_name {n : Nat} {a1 a2 : Int32} {σ : tm_S} (h : th_I2 n σ) : WM 90 167 [.ref 11, .int a1, .int a2] σ (fun r σ' => ∃ z : Int32, r = some (.int z) ∧ tp_name n a1 a2 z ∧ th_I2 n σ') := by
  have hI := th_I20 h
  generalize e0 : tm_sI σ 11 0 0 = s0 at hI
  have ⟨⟨h3, hn, hT, hSL⟩, hM⟩ := hI
  have hN1 := th_N1 hT hn
  have hp : 2 ^ n ≤ 4096 := Nat.pow_le_pow_right (n := 2) (by decide) hn
  have eN : (nI n).toInt = n := nI_toInt (by omega)
  show WP 90 167 0 [(0, .ref 11), (1, .int a1), (2, .int a2)] [] σ _
  refine wp_lda rfl tm_m0 ?_
  refine wq_con (x := 0) rfl (by decide) ?_
  refine wq_puti rfl rfl (f := 0) rfl rfl ?_
  rw [e0]
  refine wp_lda rfl tm_m0 ?_
  refine wp_ldi rfl tm_m1 ?_
  refine wq_calv [.int a1] rfl rfl rfl rfl rfl rfl rfl rfl rfl (th_mgp) ?_
  rintro r7 _ ⟨hr7, rfl⟩
  obtain ⟨z7, rfl, hz7, hn7⟩ : ∃ z : Int32, r7 = some (.int z) ∧ (¬ z = 0 → tg_gp a1) ∧ (z = 0 → ¬ tg_gp a1) := by
    rcases hr7 with ⟨rfl, g⟩ | ⟨rfl, g⟩
    · exact ⟨_, rfl, fun _ => g, fun e => absurd e (by decide)⟩
    · exact ⟨_, rfl, fun e => absurd rfl e, fun _ => g⟩
  refine wq_ifeq rfl (fun h10 => ?_) (fun h10 => ?_)
  · refine wq_con (x := (-1)) rfl (by decide) ?_
    refine wp_reti rfl (th_nI rfl) ⟨_, rfl, Or.inr ⟨fun hk => ?_, rfl⟩, hI⟩
    first | exact hn7 h10 hk.1 | exact hn15 h18 hk.2
  · refine wp_lda rfl tm_m0 ?_
    refine wp_ldi rfl tm_m2 ?_
    refine wq_calv [.int a2] rfl rfl rfl rfl rfl rfl rfl rfl rfl (tg_mset hN1 hn) ?_
    rintro r15 _ ⟨hr15, rfl⟩
    obtain ⟨z15, rfl, hz15, hn15⟩ : ∃ z : Int32, r15 = some (.int z) ∧ (¬ z = 0 → th_st n a2) ∧ (z = 0 → ¬ th_st n a2) := by
      rcases hr15 with ⟨rfl, g⟩ | ⟨rfl, g⟩
      · exact ⟨_, rfl, fun _ => g, fun e => absurd e (by decide)⟩
      · exact ⟨_, rfl, fun e => absurd rfl e, fun _ => g⟩
    refine wq_ifeq rfl (fun h18 => ?_) (fun h18 => ?_)
    · refine wq_con (x := (-1)) rfl (by decide) ?_
      refine wp_reti rfl (th_nI rfl) ⟨_, rfl, Or.inr ⟨fun hk => ?_, rfl⟩, hI⟩
      first | exact hn7 h10 hk.1 | exact hn15 h18 hk.2
    · obtain ⟨G, e1, hG⟩ := hz7 h10
      obtain ⟨S, e2, hS⟩ := hz15 h18
      refine wp_lda rfl tm_m0 ?_
      refine wp_ldi rfl tm_m1 ?_
      refine wp_ldi rfl tm_m2 ?_
      refine wq_calv [.int a1, .int a2] rfl rfl rfl rfl rfl rfl rfl rfl rfl (by rw [e1, e2]; exact tk_in (d := 87) hN1 hn h3 hG hS) ?_
      rintro _ _ ⟨rfl, rfl⟩
      refine wp_go rfl ?_
      exact wp_reti rfl (th_nI rfl) ⟨_, rfl, Or.inl ⟨G, S, e1, e2, hG, by omega, rfl, ⟨⟨G, e1, hG⟩, ⟨S, e2, hS⟩⟩⟩, hI⟩
set_option maxRecDepth 100000 in
set_option maxHeartbeats 4000000 in
theorem tk_many {d n : Nat} {g k : Int32} {σ : tm_S} (hN : σ.1 11 1 = nI n) (hn : n ≤ 12) : WM (d + 1) 173 [.ref 11, .int g, .int k] σ (fun q σ' => ((q = some (.int 1) ∧ tk_mn n g k) ∨ (q = some (.int 0) ∧ ¬ tk_mn n g k)) ∧ σ = σ') := by
  have eN : (nI n).toInt = n := nI_toInt (by omega)
  show WP (d + 1) 173 0 [(0, .ref 11), (1, .int g), (2, .int k)] [] σ _
  refine wp_lda rfl tm_m0 ?_
  refine wp_ldi rfl tm_m1 ?_
  refine wq_calv [.int g] rfl rfl rfl rfl rfl rfl rfl rfl rfl (th_mgp) ?_
  rintro r2 _ ⟨hr2, rfl⟩
  obtain ⟨z2, rfl, hz2, hn2⟩ : ∃ z : Int32, r2 = some (.int z) ∧ (¬ z = 0 → tg_gp g) ∧ (z = 0 → ¬ tg_gp g) := by
    rcases hr2 with ⟨rfl, g⟩ | ⟨rfl, g⟩
    · exact ⟨_, rfl, fun _ => g, fun e => absurd e (by decide)⟩
    · exact ⟨_, rfl, fun e => absurd rfl e, fun _ => g⟩
  refine wq_ifeq rfl (fun h5 => ?_) (fun h5 => ?_)
  · have g5 : (z2).toInt = 0 := congrArg Int32.toInt h5
    refine wq_con (x := 0) rfl (by decide) ?_
    refine wp_reti rfl (th_n0 rfl) ⟨Or.inr ⟨rfl, fun hk => ?_⟩, rfl⟩
    obtain ⟨k1, K, K2, K3⟩ := hk
    have eK : k.toInt = K := by rw [K2]; exact nI_toInt (by omega)
    first | exact hn2 h5 k1 | (change k.toInt < (0 : Int) at g9; omega) | (rw [eN] at g17; omega)
  · refine wp_ldi rfl tm_m2 ?_
    refine wq_iflt rfl (fun h9 => ?_) (fun h9 => ?_)
    · have g9 : (k).toInt < 0 := tn_ltI.mp h9
      refine wq_con (x := 0) rfl (by decide) ?_
      refine wp_reti rfl (th_n0 rfl) ⟨Or.inr ⟨rfl, fun hk => ?_⟩, rfl⟩
      obtain ⟨k1, K, K2, K3⟩ := hk
      have eK : k.toInt = K := by rw [K2]; exact nI_toInt (by omega)
      first | exact hn2 h5 k1 | (change k.toInt < (0 : Int) at g9; omega) | (rw [eN] at g17; omega)
    · have g9 : ¬ (k).toInt < 0 := fun g => h9 (tn_ltI.mpr g)
      refine wp_ldi rfl tm_m2 ?_
      refine wp_lda rfl tm_m0 ?_
      refine wq_geti rfl rfl (f := 1) rfl rfl (Or.inl rfl) ?_
      rw [hN]
      refine wq_icgt rfl (fun h17 => ?_) (fun h17 => ?_)
      · have g17 : (nI n).toInt < (k).toInt := tn_ltI.mp h17
        refine wq_con (x := 0) rfl (by decide) ?_
        refine wp_reti rfl (th_n0 rfl) ⟨Or.inr ⟨rfl, fun hk => ?_⟩, rfl⟩
        obtain ⟨k1, K, K2, K3⟩ := hk
        have eK : k.toInt = K := by rw [K2]; exact nI_toInt (by omega)
        first | exact hn2 h5 k1 | (change k.toInt < (0 : Int) at g9; omega) | (rw [eN] at g17; omega)
      · have g17 : ¬ (nI n).toInt < (k).toInt := fun g => h17 (tn_ltI.mpr g)
        refine wq_con (x := 1) rfl (by decide) ?_
        refine wp_go rfl ?_
        change ¬ k.toInt < (0 : Int) at g9
        rw [eN] at g17
        obtain ⟨K, K1, K2⟩ := nI_of (x := k) (by rw [tn_ltI]; show ¬ k.toInt < 0; omega)
        have eK : k.toInt = K := by rw [K2]; exact nI_toInt K1
        exact wp_reti rfl (th_n1 rfl) ⟨Or.inl ⟨rfl, hz2 h5, K, K2, by omega⟩, rfl⟩
set_option maxRecDepth 100000 in
set_option maxHeartbeats 4000000 in
theorem tf2_x_classes {n : Nat} {a1 a2 : Int32} {σ : tm_S} (h : th_I2 n σ) : WM 90 22 [.ref 0, .int a1, .int a2] σ (fun r σ' => ∃ z : Int32, r = some (.int z) ∧ tp_cls n a1 a2 z ∧ th_I2 n σ') := by
  have ⟨⟨h3, hn, hT, hSL⟩, hM⟩ := h
  have hN := th_N0 hT hn
  have hp : 2 ^ n ≤ 4096 := Nat.pow_le_pow_right (n := 2) (by decide) hn
  have eN : (nI n).toInt = n := nI_toInt (by omega)
  show WP 90 22 0 [(0, .ref 0), (1, .int a1), (2, .int a2)] [] σ _
  refine wp_ldi rfl tm_m1 ?_
  refine wq_cals [.int a1] rfl rfl rfl rfl rfl rfl (th_xgp) ?_
  rintro r1 _ ⟨hr1, rfl⟩
  obtain ⟨z1, rfl, hz1, hn1⟩ : ∃ z : Int32, r1 = some (.int z) ∧ (¬ z = 0 → tg_gp a1) ∧ (z = 0 → ¬ tg_gp a1) := by
    rcases hr1 with ⟨rfl, g⟩ | ⟨rfl, g⟩
    · exact ⟨_, rfl, fun _ => g, fun e => absurd e (by decide)⟩
    · exact ⟨_, rfl, fun e => absurd rfl e, fun _ => g⟩
  refine wq_ifeq rfl (fun h4 => ?_) (fun h4 => ?_)
  · have g4 : (z1).toInt = 0 := congrArg Int32.toInt h4
    refine wq_con (x := (-1)) rfl (by decide) ?_
    refine wp_reti rfl (th_nI rfl) ⟨_, rfl, Or.inr ⟨fun hk => ?_, rfl⟩, h⟩
    obtain ⟨k1, K, K2, K3⟩ := hk
    have eK : a2.toInt = K := by rw [K2]; exact nI_toInt (by omega)
    first | exact hn1 h4 k1 | (change a2.toInt < (0 : Int) at g8; omega) | (rw [eN] at g19; omega)
  · refine wp_ldi rfl tm_m2 ?_
    refine wq_iflt rfl (fun h8 => ?_) (fun h8 => ?_)
    · have g8 : (a2).toInt < 0 := tn_ltI.mp h8
      refine wq_con (x := (-1)) rfl (by decide) ?_
      refine wp_reti rfl (th_nI rfl) ⟨_, rfl, Or.inr ⟨fun hk => ?_, rfl⟩, h⟩
      obtain ⟨k1, K, K2, K3⟩ := hk
      have eK : a2.toInt = K := by rw [K2]; exact nI_toInt (by omega)
      first | exact hn1 h4 k1 | (change a2.toInt < (0 : Int) at g8; omega) | (rw [eN] at g19; omega)
    · have g8 : ¬ (a2).toInt < 0 := fun g => h8 (tn_ltI.mpr g)
      refine wp_ldi rfl tm_m2 ?_
      refine wp_lda rfl tm_m0 ?_
      refine wq_getr (p := 1) rfl rfl (f := 0) rfl rfl ?_
      refine wq_calv [] rfl rfl rfl rfl rfl rfl rfl rfl rfl (th_size) ?_
      rintro _ _ ⟨rfl, rfl⟩
      rw [hN]
      refine wq_icle rfl (fun h19 => ?_) (fun h19 => ?_)
      · have g19 : (a2).toInt ≤ (nI n).toInt := tn_leI.mp h19
        obtain ⟨G, e1, hG⟩ := hz1 h4
        change ¬ a2.toInt < (0 : Int) at g8
        rw [eN] at g19
        obtain ⟨K, K1, K2⟩ := nI_of (x := a2) (by rw [tn_ltI]; show ¬ a2.toInt < 0; omega)
        have eK : a2.toInt = K := by rw [K2]; exact nI_toInt K1
        refine wp_lda rfl tm_m0 ?_
        refine wq_getr (p := 1) rfl rfl (f := 0) rfl rfl ?_
        refine wp_ldi rfl tm_m1 ?_
        refine wp_ldi rfl tm_m2 ?_
        refine wq_calv [.int a1, .int a2] rfl rfl rfl rfl rfl rfl rfl rfl rfl (by rw [e1, K2]; exact tk_cn (d := 85) hn h3 hG (by omega) ⟨hT, tv_un_rf⟩ hM) ?_
        rintro _ t ⟨rfl, Ft, Mt⟩
        exact wp_reti rfl (th_nI rfl) ⟨_, rfl, Or.inl ⟨G, K, e1, K2, hG, by omega, rfl, ⟨⟨G, e1, hG⟩, K, K2, by omega⟩⟩, tk_I2 h.1 Ft Mt⟩
      · have g19 : ¬ (a2).toInt ≤ (nI n).toInt := fun g => h19 (tn_leI.mpr g)
        refine wq_con (x := (-1)) rfl (by decide) ?_
        refine wp_reti rfl (th_nI rfl) ⟨_, rfl, Or.inr ⟨fun hk => ?_, rfl⟩, h⟩
        obtain ⟨k1, K, K2, K3⟩ := hk
        have eK : a2.toInt = K := by rw [K2]; exact nI_toInt (by omega)
        first | exact hn1 h4 k1 | (change a2.toInt < (0 : Int) at g8; omega) | (rw [eN] at g19; omega)
set_option maxRecDepth 100000 in
set_option maxHeartbeats 4000000 in
theorem tf2_m_classes {n : Nat} {a1 a2 : Int32} {σ : tm_S} (h : th_I2 n σ) : WM 90 172 [.ref 11, .int a1, .int a2] σ (fun r σ' => ∃ z : Int32, r = some (.int z) ∧ tp_cls n a1 a2 z ∧ th_I2 n σ') := by
  have hI := th_I20 h
  generalize e0 : tm_sI σ 11 0 0 = s0 at hI
  have ⟨⟨h3, hn, hT, hSL⟩, hM⟩ := hI
  have hN1 := th_N1 hT hn
  have hp : 2 ^ n ≤ 4096 := Nat.pow_le_pow_right (n := 2) (by decide) hn
  have eN : (nI n).toInt = n := nI_toInt (by omega)
  have h1n : ((1 : Int32) <<< (nI n &&& 31)) = nI (2 ^ n) := th_p24 n (by omega)
  have k21 : ∀ G K : Nat, a1 = nI G → a2 = nI K → G ≤ 2 → K ≤ n → ∀ f S : Nat, S + f = 2 ^ n → WP 90 172 21 [(4, .int (nI S)), (3, .int (nI (th_sm (tk_is n G K) S))), (0, .ref 11), (1, .int (nI G)), (2, .int (nI K))] [] s0 (fun r σ' => ∃ z : Int32, r = some (.int z) ∧ tp_cls n a1 a2 z ∧ th_I2 n σ') := by
    intro G K e1 e2 hG hK f
    induction f with
    | zero =>
      intro S hS
      obtain rfl : S = 2 ^ n := by omega
      refine wp_ldi rfl tm_m0 ?_
      refine wq_con (x := 1) rfl (by decide) ?_
      refine wp_lda rfl tm_m2 ?_
      refine wq_geti rfl rfl (f := 1) rfl rfl (Or.inl rfl) ?_
      rw [hN1]
      refine wq_ishl rfl ?_
      rw [h1n]
      refine wq_icge rfl (fun h29 => ?_) (fun h29 => absurd (nI_le (Nat.le_refl _) (by omega)) h29)
      refine wp_ldi rfl tm_m1 ?_
      exact wp_reti rfl (th_nI rfl) ⟨_, rfl, Or.inl ⟨G, K, e1, e2, hG, by omega, rfl, ⟨G, e1, hG⟩, K, e2, hK⟩, hI⟩
    | succ f ih =>
      intro S hS
      have hSl : S < 2 ^ n := by omega
      have p24 : th_po S 24 = th_po S n := th_po24 hSl (by omega)
      have lp : th_po S n ≤ n := th_sm_le
      have ln : tk_nm n G S ≤ S := tk_le
      have lc : th_sm (tk_is n G K) S ≤ S := th_sm_le
      have e : th_sm (tk_is n G K) (S + 1) = th_sm (tk_is n G K) S + bif tk_is n G K S then 1 else 0 := rfl
      refine wp_ldi rfl tm_m0 ?_
      refine wq_con (x := 1) rfl (by decide) ?_
      refine wp_lda rfl tm_m2 ?_
      refine wq_geti rfl rfl (f := 1) rfl rfl (Or.inl rfl) ?_
      rw [hN1]
      refine wq_ishl rfl ?_
      rw [h1n]
      refine wq_icge rfl (fun h29 => absurd h29 (nI_ge (by omega) (by omega))) (fun h29 => ?_)
      refine wp_lda rfl tm_m2 ?_
      refine wp_ldi rfl tm_m0 ?_
      refine wq_calv [.int (nI S)] rfl rfl rfl rfl rfl rfl rfl rfl rfl (th_on24 (by omega)) ?_
      rintro _ _ ⟨rfl, rfl⟩
      rw [p24]
      refine wp_ldi rfl tm_m4 ?_
      refine wq_icne rfl (fun h39 => ?_) (fun h39 => ?_)
      · refine wq_inc (c := 1) [(4, .int ((nI S) + 1)), (3, .int (nI (th_sm (tk_is n G K) S))), (0, .ref 11), (1, .int (nI G)), (2, .int (nI K))] rfl tm_m0 rfl rfl ?_
        refine wp_go rfl ?_
        have hb : tk_is n G K S = false := by
          unfold tk_is
          first
          | (have q : ¬ tk_nm n G S = S := fun q => h51 (by rw [q])
             simp [q])
          | (have q : ¬ th_po S n = K := fun q => h39 (by rw [q])
             simp [q])
        rw [hb] at e
        rw [nI_1, show th_sm (tk_is n G K) S = th_sm (tk_is n G K) (S + 1) from e.symm]
        exact WP.less (ih (S + 1) (by omega)) (by simp)
      · refine wp_lda rfl tm_m2 ?_
        refine wp_ldi rfl tm_m3 ?_
        refine wp_ldi rfl tm_m0 ?_
        refine wq_calv [.int (nI G), .int (nI S)] rfl rfl rfl rfl rfl rfl rfl rfl rfl (tk_in (d := 87) hN1 hn h3 hG hSl) ?_
        rintro _ _ ⟨rfl, rfl⟩
        refine wp_ldi rfl tm_m0 ?_
        refine wq_icne rfl (fun h51 => ?_) (fun h51 => ?_)
        · refine wq_inc (c := 1) [(4, .int ((nI S) + 1)), (3, .int (nI (th_sm (tk_is n G K) S))), (0, .ref 11), (1, .int (nI G)), (2, .int (nI K))] rfl tm_m0 rfl rfl ?_
          refine wp_go rfl ?_
          have hb : tk_is n G K S = false := by
            unfold tk_is
            first
            | (have q : ¬ tk_nm n G S = S := fun q => h51 (by rw [q])
               simp [q])
            | (have q : ¬ th_po S n = K := fun q => h39 (by rw [q])
               simp [q])
          rw [hb] at e
          rw [nI_1, show th_sm (tk_is n G K) S = th_sm (tk_is n G K) (S + 1) from e.symm]
          exact WP.less (ih (S + 1) (by omega)) (by simp)
        · refine wp_ldi rfl tm_m1 ?_
          refine wq_con (x := 1) rfl (by decide) ?_
          refine wq_iadd rfl ?_
          refine wq_sti [(3, .int ((nI (th_sm (tk_is n G K) S)) + 1)), (4, .int (nI S)), (0, .ref 11), (1, .int (nI G)), (2, .int (nI K))] rfl rfl ?_
          refine wq_inc (c := 1) [(4, .int ((nI S) + 1)), (3, .int ((nI (th_sm (tk_is n G K) S)) + 1)), (0, .ref 11), (1, .int (nI G)), (2, .int (nI K))] rfl tm_m1 rfl rfl ?_
          refine wp_go rfl ?_
          have hb : tk_is n G K S = true := by
            unfold tk_is
            rw [(nI_eq (a := th_po S n) (by omega) (by omega)).mp (Classical.not_not.mp h39), (nI_eq (a := tk_nm n G S) (by omega) (by omega)).mp (Classical.not_not.mp h51)]
            simp
          rw [hb] at e
          rw [nI_1, nI_1, show th_sm (tk_is n G K) S + 1 = th_sm (tk_is n G K) (S + 1) from e.symm]
          exact WP.less (ih (S + 1) (by omega)) (by simp)
  show WP 90 172 0 [(0, .ref 11), (1, .int a1), (2, .int a2)] [] σ _
  refine wp_lda rfl tm_m0 ?_
  refine wq_con (x := 0) rfl (by decide) ?_
  refine wq_puti rfl rfl (f := 0) rfl rfl ?_
  rw [e0]
  refine wp_lda rfl tm_m0 ?_
  refine wp_ldi rfl tm_m1 ?_
  refine wp_ldi rfl tm_m2 ?_
  refine wq_calv [.int a1, .int a2] rfl rfl rfl rfl rfl rfl rfl rfl rfl (tk_many (d := 88) hN1 hn) ?_
  rintro r8 _ ⟨hr8, rfl⟩
  obtain ⟨z8, rfl, hz8, hn8⟩ : ∃ z : Int32, r8 = some (.int z) ∧ (¬ z = 0 → tk_mn n a1 a2) ∧ (z = 0 → ¬ tk_mn n a1 a2) := by
    rcases hr8 with ⟨rfl, g⟩ | ⟨rfl, g⟩
    · exact ⟨_, rfl, fun _ => g, fun e => absurd e (by decide)⟩
    · exact ⟨_, rfl, fun e => absurd rfl e, fun _ => g⟩
  refine wq_ifne rfl (fun h11 => ?_) (fun h11 => ?_)
  · refine wq_con (x := nI 0) rfl (by decide) ?_
    refine wq_sti [(3, .int (nI 0)), (0, .ref 11), (1, .int a1), (2, .int a2)] rfl rfl ?_
    refine wq_con (x := nI 0) rfl (by decide) ?_
    refine wq_sti [(4, .int (nI 0)), (3, .int (nI 0)), (0, .ref 11), (1, .int a1), (2, .int a2)] rfl rfl ?_
    obtain ⟨⟨G, e1, hG⟩, K, e2, hK⟩ := hz8 h11
    have kk := k21 G K e1 e2 hG hK (2 ^ n) 0 (by omega)
    rw [← e1, ← e2] at kk
    exact WP.less kk (by simp [th_sm])
  · refine wq_con (x := (-1)) rfl (by decide) ?_
    exact wp_reti rfl (th_nI rfl) ⟨_, rfl, Or.inr ⟨hn8 (Classical.not_not.mp h11), rfl⟩, hI⟩
set_option maxRecDepth 100000 in
set_option maxHeartbeats 4000000 in
theorem tf2_x_nameOf {n : Nat} {a1 a2 a3 : Int32} {σ : tm_S} (h : th_I2 n σ) : WM 90 26 [.ref 0, .int a1, .int a2, .int a3] σ (fun r σ' => ∃ z : Int32, r = some (.int z) ∧ tp_nof n a1 a2 a3 z ∧ th_I2 n σ') := by
  have ⟨⟨h3, hn, hT, hSL⟩, hM⟩ := h
  have hN := th_N0 hT hn
  have hp : 2 ^ n ≤ 4096 := Nat.pow_le_pow_right (n := 2) (by decide) hn
  have eN : (nI n).toInt = n := nI_toInt (by omega)
  show WP 90 26 0 [(0, .ref 0), (1, .int a1), (2, .int a2), (3, .int a3)] [] σ _
  refine wp_ldi rfl tm_m1 ?_
  refine wq_cals [.int a1] rfl rfl rfl rfl rfl rfl (th_xgp) ?_
  rintro r1 _ ⟨hr1, rfl⟩
  obtain ⟨z1, rfl, hz1, hn1⟩ : ∃ z : Int32, r1 = some (.int z) ∧ (¬ z = 0 → tg_gp a1) ∧ (z = 0 → ¬ tg_gp a1) := by
    rcases hr1 with ⟨rfl, g⟩ | ⟨rfl, g⟩
    · exact ⟨_, rfl, fun _ => g, fun e => absurd e (by decide)⟩
    · exact ⟨_, rfl, fun e => absurd rfl e, fun _ => g⟩
  refine wq_ifeq rfl (fun h4 => ?_) (fun h4 => ?_)
  · have g4 : (z1).toInt = 0 := congrArg Int32.toInt h4
    refine wq_con (x := (-1)) rfl (by decide) ?_
    refine wp_reti rfl (th_nI rfl) ⟨_, rfl, Or.inr ⟨fun hk => ?_, rfl⟩, h⟩
    obtain ⟨⟨k1, K, K2, K3⟩, k4⟩ := hk
    have eK : a2.toInt = K := by rw [K2]; exact nI_toInt (by omega)
    first | exact hn1 h4 k1 | (change a2.toInt < (0 : Int) at g8; omega) | (rw [eN] at g19; omega) | (change ¬ (0 : Int) ≤ a3.toInt at g23; omega)
  · refine wp_ldi rfl tm_m2 ?_
    refine wq_iflt rfl (fun h8 => ?_) (fun h8 => ?_)
    · have g8 : (a2).toInt < 0 := tn_ltI.mp h8
      refine wq_con (x := (-1)) rfl (by decide) ?_
      refine wp_reti rfl (th_nI rfl) ⟨_, rfl, Or.inr ⟨fun hk => ?_, rfl⟩, h⟩
      obtain ⟨⟨k1, K, K2, K3⟩, k4⟩ := hk
      have eK : a2.toInt = K := by rw [K2]; exact nI_toInt (by omega)
      first | exact hn1 h4 k1 | (change a2.toInt < (0 : Int) at g8; omega) | (rw [eN] at g19; omega) | (change ¬ (0 : Int) ≤ a3.toInt at g23; omega)
    · have g8 : ¬ (a2).toInt < 0 := fun g => h8 (tn_ltI.mpr g)
      refine wp_ldi rfl tm_m2 ?_
      refine wp_lda rfl tm_m0 ?_
      refine wq_getr (p := 1) rfl rfl (f := 0) rfl rfl ?_
      refine wq_calv [] rfl rfl rfl rfl rfl rfl rfl rfl rfl (th_size) ?_
      rintro _ _ ⟨rfl, rfl⟩
      rw [hN]
      refine wq_icgt rfl (fun h19 => ?_) (fun h19 => ?_)
      · have g19 : (nI n).toInt < (a2).toInt := tn_ltI.mp h19
        refine wq_con (x := (-1)) rfl (by decide) ?_
        refine wp_reti rfl (th_nI rfl) ⟨_, rfl, Or.inr ⟨fun hk => ?_, rfl⟩, h⟩
        obtain ⟨⟨k1, K, K2, K3⟩, k4⟩ := hk
        have eK : a2.toInt = K := by rw [K2]; exact nI_toInt (by omega)
        first | exact hn1 h4 k1 | (change a2.toInt < (0 : Int) at g8; omega) | (rw [eN] at g19; omega) | (change ¬ (0 : Int) ≤ a3.toInt at g23; omega)
      · have g19 : ¬ (nI n).toInt < (a2).toInt := fun g => h19 (tn_ltI.mpr g)
        refine wp_ldi rfl tm_m3 ?_
        refine wq_ifge rfl (fun h23 => ?_) (fun h23 => ?_)
        · have g23 : 0 ≤ (a3).toInt := tn_leI.mp h23
          obtain ⟨G, e1, hG⟩ := hz1 h4
          change ¬ a2.toInt < (0 : Int) at g8
          rw [eN] at g19
          obtain ⟨K, K1, K2⟩ := nI_of (x := a2) (by rw [tn_ltI]; show ¬ a2.toInt < 0; omega)
          have eK : a2.toInt = K := by rw [K2]; exact nI_toInt K1
          change (0 : Int) ≤ a3.toInt at g23
          obtain ⟨I, I1, I2⟩ := nI_of (x := a3) (by rw [tn_ltI]; show ¬ a3.toInt < 0; omega)
          refine wp_lda rfl tm_m0 ?_
          refine wq_getr (p := 1) rfl rfl (f := 0) rfl rfl ?_
          refine wp_ldi rfl tm_m1 ?_
          refine wp_ldi rfl tm_m2 ?_
          refine wp_ldi rfl tm_m3 ?_
          refine wq_calv [.int a1, .int a2, .int a3] rfl rfl rfl rfl rfl rfl rfl rfl rfl (by rw [e1, K2, I2]; exact tk_fn (d := 85) hn h3 hG (by omega) I1 ⟨hT, tv_un_rf⟩ hM) ?_
          rintro _ t ⟨⟨z, rfl, hz⟩, Ft, Mt⟩
          exact wp_reti rfl (th_nI rfl) ⟨_, rfl, Or.inl ⟨G, K, I, e1, K2, I2, hG, by omega, I1, hz, ⟨⟨⟨G, e1, hG⟩, K, K2, by omega⟩, by omega⟩⟩, tk_I2 h.1 Ft Mt⟩
        · have g23 : ¬ 0 ≤ (a3).toInt := fun g => h23 (tn_leI.mpr g)
          refine wq_con (x := (-1)) rfl (by decide) ?_
          refine wp_reti rfl (th_nI rfl) ⟨_, rfl, Or.inr ⟨fun hk => ?_, rfl⟩, h⟩
          obtain ⟨⟨k1, K, K2, K3⟩, k4⟩ := hk
          have eK : a2.toInt = K := by rw [K2]; exact nI_toInt (by omega)
          first | exact hn1 h4 k1 | (change a2.toInt < (0 : Int) at g8; omega) | (rw [eN] at g19; omega) | (change ¬ (0 : Int) ≤ a3.toInt at g23; omega)
set_option maxRecDepth 100000 in
set_option maxHeartbeats 4000000 in
theorem tf2_m_nameOf {n : Nat} {a1 a2 a3 : Int32} {σ : tm_S} (h : th_I2 n σ) : WM 90 175 [.ref 11, .int a1, .int a2, .int a3] σ (fun r σ' => ∃ z : Int32, r = some (.int z) ∧ tp_nof n a1 a2 a3 z ∧ th_I2 n σ') := by
  have hI := th_I20 h
  generalize e0 : tm_sI σ 11 0 0 = s0 at hI
  have ⟨⟨h3, hn, hT, hSL⟩, hM⟩ := hI
  have hN1 := th_N1 hT hn
  have hp : 2 ^ n ≤ 4096 := Nat.pow_le_pow_right (n := 2) (by decide) hn
  have eN : (nI n).toInt = n := nI_toInt (by omega)
  have h1n : ((1 : Int32) <<< (nI n &&& 31)) = nI (2 ^ n) := th_p24 n (by omega)
  have k26 : ∀ G K I : Nat, a1 = nI G → a2 = nI K → a3 = nI I → G ≤ 2 → K ≤ n → I < 2 ^ 31 → tp_nfok n a1 a2 a3 → ∀ f S : Nat, S + f = 2 ^ n → th_sm (tk_is n G K) S ≤ I → WP 90 175 26 [(5, .int (nI S)), (4, .int (nI (th_sm (tk_is n G K) S))), (0, .ref 11), (1, .int (nI G)), (2, .int (nI K)), (3, .int (nI I))] [] s0 (fun r σ' => ∃ z : Int32, r = some (.int z) ∧ tp_nof n a1 a2 a3 z ∧ th_I2 n σ') := by
    intro G K I e1 e2 e3 hG hK hI2 ok f
    induction f with
    | zero =>
      intro S hS hle
      obtain rfl : S = 2 ^ n := by omega
      refine wp_ldi rfl tm_m0 ?_
      refine wq_con (x := 1) rfl (by decide) ?_
      refine wp_lda rfl tm_m2 ?_
      refine wq_geti rfl rfl (f := 1) rfl rfl (Or.inl rfl) ?_
      rw [hN1]
      refine wq_ishl rfl ?_
      rw [h1n]
      refine wq_icge rfl (fun h34 => ?_) (fun h34 => absurd (nI_le (Nat.le_refl _) (by omega)) h34)
      refine wq_con (x := (-1)) rfl (by decide) ?_
      exact wp_reti rfl (th_nI rfl) ⟨_, rfl, Or.inl ⟨G, K, I, e1, e2, e3, hG, by omega, hI2, Or.inr ⟨rfl, hle⟩, ok⟩, hI⟩
    | succ f ih =>
      intro S hS hle
      have hSl : S < 2 ^ n := by omega
      have p24 : th_po S 24 = th_po S n := th_po24 hSl (by omega)
      have lp : th_po S n ≤ n := th_sm_le
      have ln : tk_nm n G S ≤ S := tk_le
      have lc : th_sm (tk_is n G K) S ≤ S := th_sm_le
      have e : th_sm (tk_is n G K) (S + 1) = th_sm (tk_is n G K) S + bif tk_is n G K S then 1 else 0 := rfl
      refine wp_ldi rfl tm_m0 ?_
      refine wq_con (x := 1) rfl (by decide) ?_
      refine wp_lda rfl tm_m2 ?_
      refine wq_geti rfl rfl (f := 1) rfl rfl (Or.inl rfl) ?_
      rw [hN1]
      refine wq_ishl rfl ?_
      rw [h1n]
      refine wq_icge rfl (fun h34 => absurd h34 (nI_ge (by omega) (by omega))) (fun h34 => ?_)
      refine wp_lda rfl tm_m2 ?_
      refine wp_ldi rfl tm_m0 ?_
      refine wq_calv [.int (nI S)] rfl rfl rfl rfl rfl rfl rfl rfl rfl (th_on24 (by omega)) ?_
      rintro _ _ ⟨rfl, rfl⟩
      rw [p24]
      refine wp_ldi rfl tm_m4 ?_
      refine wq_icne rfl (fun h44 => ?_) (fun h44 => ?_)
      · refine wq_inc (c := 1) [(5, .int ((nI S) + 1)), (4, .int (nI (th_sm (tk_is n G K) S))), (0, .ref 11), (1, .int (nI G)), (2, .int (nI K)), (3, .int (nI I))] rfl tm_m0 rfl rfl ?_
        refine wp_go rfl ?_
        have hb : tk_is n G K S = false := by
          unfold tk_is
          first
          | (have q : ¬ tk_nm n G S = S := fun q => h56 (by rw [q])
             simp [q])
          | (have q : ¬ th_po S n = K := fun q => h44 (by rw [q])
             simp [q])
        rw [hb] at e
        rw [nI_1, show th_sm (tk_is n G K) S = th_sm (tk_is n G K) (S + 1) from e.symm]
        exact WP.less (ih (S + 1) (by omega) (by rw [e]; exact hle)) (by simp)
      · refine wp_lda rfl tm_m2 ?_
        refine wp_ldi rfl tm_m3 ?_
        refine wp_ldi rfl tm_m0 ?_
        refine wq_calv [.int (nI G), .int (nI S)] rfl rfl rfl rfl rfl rfl rfl rfl rfl (tk_in (d := 87) hN1 hn h3 hG hSl) ?_
        rintro _ _ ⟨rfl, rfl⟩
        refine wp_ldi rfl tm_m0 ?_
        refine wq_iceq rfl (fun h56 => ?_) (fun h56 => ?_)
        · refine wp_ldi rfl tm_m1 ?_
          refine wp_ldi rfl tm_m5 ?_
          refine wq_icne rfl (fun h65 => ?_) (fun h65 => ?_)
          · refine wp_ldi rfl tm_m1 ?_
            refine wq_con (x := 1) rfl (by decide) ?_
            refine wq_iadd rfl ?_
            refine wq_sti [(4, .int ((nI (th_sm (tk_is n G K) S)) + 1)), (5, .int (nI S)), (0, .ref 11), (1, .int (nI G)), (2, .int (nI K)), (3, .int (nI I))] rfl rfl ?_
            refine wq_inc (c := 1) [(5, .int ((nI S) + 1)), (4, .int ((nI (th_sm (tk_is n G K) S)) + 1)), (0, .ref 11), (1, .int (nI G)), (2, .int (nI K)), (3, .int (nI I))] rfl tm_m1 rfl rfl ?_
            refine wp_go rfl ?_
            have hne : ¬ th_sm (tk_is n G K) S = I := fun q => h65 (by rw [q])
            have hb : tk_is n G K S = true := by
              unfold tk_is
              rw [(nI_eq (a := th_po S n) (by omega) (by omega)).mp (Classical.not_not.mp h44), (nI_eq (a := tk_nm n G S) (by omega) (by omega)).mp (h56)]
              simp
            rw [hb] at e
            rw [nI_1, nI_1, show th_sm (tk_is n G K) S + 1 = th_sm (tk_is n G K) (S + 1) from e.symm]
            exact WP.less (ih (S + 1) (by omega) (by rw [e]; show _ + 1 ≤ I; omega)) (by simp)
          · refine wp_ldi rfl tm_m0 ?_
            have hb : tk_is n G K S = true := by
              unfold tk_is
              rw [(nI_eq (a := th_po S n) (by omega) (by omega)).mp (Classical.not_not.mp h44), (nI_eq (a := tk_nm n G S) (by omega) (by omega)).mp (h56)]
              simp
            rw [hb] at e
            exact wp_reti rfl (th_nI rfl) ⟨_, rfl, Or.inl ⟨G, K, I, e1, e2, e3, hG, by omega, hI2, Or.inl ⟨S, rfl, hSl, hb, (nI_eq (by omega) hI2).mp (Classical.not_not.mp h65)⟩, ok⟩, hI⟩
        · refine wp_go rfl ?_
          refine wq_inc (c := 1) [(5, .int ((nI S) + 1)), (4, .int (nI (th_sm (tk_is n G K) S))), (0, .ref 11), (1, .int (nI G)), (2, .int (nI K)), (3, .int (nI I))] rfl tm_m0 rfl rfl ?_
          refine wp_go rfl ?_
          have hb : tk_is n G K S = false := by
            unfold tk_is
            first
            | (have q : ¬ tk_nm n G S = S := fun q => h56 (by rw [q])
               simp [q])
            | (have q : ¬ th_po S n = K := fun q => h44 (by rw [q])
               simp [q])
          rw [hb] at e
          rw [nI_1, show th_sm (tk_is n G K) S = th_sm (tk_is n G K) (S + 1) from e.symm]
          exact WP.less (ih (S + 1) (by omega) (by rw [e]; exact hle)) (by simp)
  show WP 90 175 0 [(0, .ref 11), (1, .int a1), (2, .int a2), (3, .int a3)] [] σ _
  refine wp_lda rfl tm_m0 ?_
  refine wq_con (x := 0) rfl (by decide) ?_
  refine wq_puti rfl rfl (f := 0) rfl rfl ?_
  rw [e0]
  refine wp_lda rfl tm_m0 ?_
  refine wp_ldi rfl tm_m1 ?_
  refine wp_ldi rfl tm_m2 ?_
  refine wq_calv [.int a1, .int a2] rfl rfl rfl rfl rfl rfl rfl rfl rfl (tk_many (d := 88) hN1 hn) ?_
  rintro r8 _ ⟨hr8, rfl⟩
  obtain ⟨z8, rfl, hz8, hn8⟩ : ∃ z : Int32, r8 = some (.int z) ∧ (¬ z = 0 → tk_mn n a1 a2) ∧ (z = 0 → ¬ tk_mn n a1 a2) := by
    rcases hr8 with ⟨rfl, g⟩ | ⟨rfl, g⟩
    · exact ⟨_, rfl, fun _ => g, fun e => absurd e (by decide)⟩
    · exact ⟨_, rfl, fun e => absurd rfl e, fun _ => g⟩
  refine wq_ifeq rfl (fun h11 => ?_) (fun h11 => ?_)
  · have g11 : (z8).toInt = 0 := congrArg Int32.toInt h11
    refine wq_con (x := (-1)) rfl (by decide) ?_
    refine wp_reti rfl (th_nI rfl) ⟨_, rfl, Or.inr ⟨fun hk => ?_, rfl⟩, hI⟩
    first | exact hn8 h11 hk.1 | (have := hk.2; change ¬ (0 : Int) ≤ a3.toInt at g15; omega)
  · refine wp_ldi rfl tm_m3 ?_
    refine wq_ifge rfl (fun h15 => ?_) (fun h15 => ?_)
    · have g15 : 0 ≤ (a3).toInt := tn_leI.mp h15
      refine wq_con (x := nI 0) rfl (by decide) ?_
      refine wq_sti [(4, .int (nI 0)), (0, .ref 11), (1, .int a1), (2, .int a2), (3, .int a3)] rfl rfl ?_
      refine wq_con (x := nI 0) rfl (by decide) ?_
      refine wq_sti [(5, .int (nI 0)), (4, .int (nI 0)), (0, .ref 11), (1, .int a1), (2, .int a2), (3, .int a3)] rfl rfl ?_
      obtain ⟨⟨G, e1, hG⟩, K, e2, hK⟩ := hz8 h11
      change (0 : Int) ≤ a3.toInt at g15
      obtain ⟨I, I1, I2⟩ := nI_of (x := a3) (by rw [tn_ltI]; show ¬ a3.toInt < 0; omega)
      have kk := k26 G K I e1 e2 I2 hG hK I1 ⟨hz8 h11, by omega⟩ (2 ^ n) 0 (by omega) (Nat.zero_le _)
      rw [← e1, ← e2, ← I2] at kk
      exact WP.less kk (by simp [th_sm])
    · have g15 : ¬ 0 ≤ (a3).toInt := fun g => h15 (tn_leI.mpr g)
      refine wq_con (x := (-1)) rfl (by decide) ?_
      refine wp_reti rfl (th_nI rfl) ⟨_, rfl, Or.inr ⟨fun hk => ?_, rfl⟩, hI⟩
      first | exact hn8 h11 hk.1 | (have := hk.2; change ¬ (0 : Int) ≤ a3.toInt at g15; omega)
theorem tk_ptb {n S d : Nat} (hn : n ≤ 12) : th_pt n S d n ≤ 144 := by
  have h : ∀ x : Nat, th_pt n S d x ≤ x * n := fun x => by
    induction x with
    | zero => exact Nat.zero_le _
    | succ x ih =>
      have h1 : th_sm (th_pF n S d x) (n - 1 - x) ≤ n - 1 - x := th_sm_le
      show th_pt n S d x + th_sm (th_pF n S d x) (n - 1 - x) ≤ (x + 1) * n
      rw [Nat.succ_mul]
      omega
  have h2 := h n
  have h3 : n * n ≤ 12 * 12 := Nat.mul_le_mul hn hn
  omega
set_option maxRecDepth 100000 in
set_option maxHeartbeats 4000000 in
theorem tk_hs {d n S v : Nat} {σ : tm_S} (hN : σ.1 1 0 = nI n) (hn : n ≤ 12) (h3 : 3 ≤ n) (hS : S < 2 ^ n) (hv : v < 2 ^ n) : WM (d + 2) 32 [.ref 1, .int (nI S), .int (nI v)] σ (fun q σ' => ((q = some (.int 1) ∧ tk_same n S v) ∨ (q = some (.int 0) ∧ ¬ tk_same n S v)) ∧ σ = σ') := by
  have k2 : ∀ f e : Nat, e + f = n / 2 + 1 → 1 ≤ e → (∀ i : Nat, 1 ≤ i → i < e → th_pt n S i n = th_pt n v i n) → WP (d + 2) 32 2 [(3, .int (nI e)), (0, .ref 1), (1, .int (nI S)), (2, .int (nI v))] [] σ (fun q σ' => ((q = some (.int 1) ∧ tk_same n S v) ∨ (q = some (.int 0) ∧ ¬ tk_same n S v)) ∧ σ = σ') := by
    intro f
    induction f with
    | zero =>
      intro e he h1 hi
      refine wp_ldi rfl tm_m0 ?_
      refine wp_lda rfl tm_m1 ?_
      refine wq_geti rfl rfl (f := 0) rfl rfl (Or.inl rfl) ?_
      rw [hN]
      refine wq_con (x := 2) rfl (by decide) ?_
      refine wp_div rfl (by decide) ?_
      rw [th_hf (by omega)]
      refine wq_icgt rfl (fun h9 => ?_) (fun h9 => absurd (nI_lt (by omega) (by omega)) h9)
      refine wq_con (x := 1) rfl (by decide) ?_
      exact wp_reti rfl (th_n1 rfl) ⟨Or.inl ⟨rfl, fun i i1 i2 => hi i i1 (by omega)⟩, rfl⟩
    | succ f ih =>
      intro e he h1 hi
      have b1 := tk_ptb (S := S) (d := e) hn
      have b2 := tk_ptb (S := v) (d := e) hn
      refine wp_ldi rfl tm_m0 ?_
      refine wp_lda rfl tm_m1 ?_
      refine wq_geti rfl rfl (f := 0) rfl rfl (Or.inl rfl) ?_
      rw [hN]
      refine wq_con (x := 2) rfl (by decide) ?_
      refine wp_div rfl (by decide) ?_
      rw [th_hf (by omega)]
      refine wq_icgt rfl (fun h9 => absurd h9 (nI_nlt (by omega) (by omega))) (fun h9 => ?_)
      refine wp_lda rfl tm_m1 ?_
      refine wp_ldi rfl tm_m2 ?_
      refine wp_ldi rfl tm_m0 ?_
      refine wq_calv [.int (nI S), .int (nI e)] rfl rfl rfl rfl rfl rfl rfl rfl rfl (th_pap hN hn hS h1 (by omega)) ?_
      rintro _ _ ⟨rfl, rfl⟩
      refine wp_lda rfl tm_m1 ?_
      refine wp_ldi rfl tm_m3 ?_
      refine wp_ldi rfl tm_m0 ?_
      refine wq_calv [.int (nI v), .int (nI e)] rfl rfl rfl rfl rfl rfl rfl rfl rfl (th_pap hN hn hv h1 (by omega)) ?_
      rintro _ _ ⟨rfl, rfl⟩
      refine wq_iceq rfl (fun h24 => ?_) (fun h24 => ?_)
      · refine wq_inc (c := 1) [(3, .int ((nI e) + 1)), (0, .ref 1), (1, .int (nI S)), (2, .int (nI v))] rfl tm_m0 rfl rfl ?_
        refine wp_go rfl ?_
        rw [nI_1]
        refine WP.less (ih (e + 1) (by omega) (by omega) (fun i i1 i2 => ?_)) (by simp)
        by_cases q : i = e
        · subst q
          exact (nI_eq (by omega) (by omega)).mp h24
        · exact hi i i1 (by omega)
      · refine wq_con (x := 0) rfl (by decide) ?_
        exact wp_reti rfl (th_n0 rfl) ⟨Or.inr ⟨rfl, fun hk => h24 (by rw [hk e h1 (by omega)])⟩, rfl⟩
  show WP (d + 2) 32 0 [(0, .ref 1), (1, .int (nI S)), (2, .int (nI v))] [] σ _
  refine wq_con (x := nI 1) rfl (by decide) ?_
  refine wq_sti [(3, .int (nI 1)), (0, .ref 1), (1, .int (nI S)), (2, .int (nI v))] rfl rfl ?_
  exact WP.less (k2 (n / 2) 1 (by omega) (Nat.le_refl _) (fun i i1 i2 => absurd i1 (by omega))) (by simp)
set_option maxRecDepth 100000 in
set_option maxHeartbeats 4000000 in
theorem tk_lt1 {d n S : Nat} {σ s : tm_S} (hn : n ≤ 12) (h3 : 3 ≤ n) (hS : S < 2 ^ n) (F : tk_F n σ s) (hM : tk_NM n s) : WM (d + 4) 31 [.ref 1, .int (nI S)] s (fun r t => (∃ z : Int32, r = some (.int z) ∧ tk_twz n S z) ∧ tk_F n σ t ∧ tk_NM n t) := by
  have hp : 2 ^ n ≤ 4096 := Nat.pow_le_pow_right (n := 2) (by decide) hn
  have h1n : ((1 : Int32) <<< (nI n &&& 31)) = nI (2 ^ n) := th_p24 n (by omega)
  have lS : th_po S n ≤ n := th_sm_le
  have lk := tk_lt (g := 1) h3 hS
  have k12 : ∀ (t : tm_S), tk_F n σ t → tk_NM n t → (∀ v : Nat, v < 2 ^ n → t.1 15 v = nI (tk_nm n 1 v)) → ∀ f v : Nat, v + f = 2 ^ n → (∀ u : Nat, u < v → ¬ tk_tw n S u) → WP (d + 4) 31 12 [(3, .int (nI v)), (2, .int (nI (th_po S n))), (0, .ref 1), (1, .int (nI S))] [] t (fun r t => (∃ z : Int32, r = some (.int z) ∧ tk_twz n S z) ∧ tk_F n σ t ∧ tk_NM n t) := by
    intro t Ft Mt Vt f
    have hN := th_N0 Ft.1 hn
    induction f with
    | zero =>
      intro v hv hb
      obtain rfl : v = 2 ^ n := by omega
      refine wp_ldi rfl tm_m0 ?_
      refine wq_con (x := 1) rfl (by decide) ?_
      refine wp_lda rfl tm_m2 ?_
      refine wq_geti rfl rfl (f := 0) rfl rfl (Or.inl rfl) ?_
      rw [hN]
      refine wq_ishl rfl ?_
      rw [h1n]
      refine wq_icge rfl (fun h19 => ?_) (fun h19 => absurd (nI_le (Nat.le_refl _) (by omega)) h19)
      refine wq_con (x := (-1)) rfl (by decide) ?_
      exact wp_reti rfl (th_nI rfl) ⟨⟨_, rfl, Or.inr ⟨rfl, hb⟩⟩, Ft, Mt⟩
    | succ f ih =>
      intro v hv hb
      have hvl : v < 2 ^ n := by omega
      have nx : ¬ tk_tw n S v → WP (d + 4) 31 12 [(3, .int (nI (v + 1))), (2, .int (nI (th_po S n))), (0, .ref 1), (1, .int (nI S))] [] t (fun r t => (∃ z : Int32, r = some (.int z) ∧ tk_twz n S z) ∧ tk_F n σ t ∧ tk_NM n t) := fun hne => ih (v + 1) (by omega) (fun u hu => by
        by_cases e : u = v
        · rw [e]
          exact hne
        · exact hb u (by omega))
      refine wp_ldi rfl tm_m0 ?_
      refine wq_con (x := 1) rfl (by decide) ?_
      refine wp_lda rfl tm_m2 ?_
      refine wq_geti rfl rfl (f := 0) rfl rfl (Or.inl rfl) ?_
      rw [hN]
      refine wq_ishl rfl ?_
      rw [h1n]
      refine wq_icge rfl (fun h19 => absurd h19 (nI_ge (by omega) (by omega))) (fun h19 => ?_)
      refine wp_lda rfl tm_m2 ?_
      refine wq_con (x := nI 1) rfl (by decide) ?_
      refine wp_ldi rfl tm_m1 ?_
      refine wp_ldi rfl tm_m0 ?_
      refine wq_calv [.int (nI 1), .int (nI (th_po S n)), .int (nI v)] rfl rfl rfl rfl rfl rfl rfl rfl rfl (tk_ins1 hn (by omega) hvl Vt) ?_
      rintro r26 _ ⟨hr26, rfl⟩
      obtain ⟨z26, rfl, hz26, hn26⟩ : ∃ z : Int32, r26 = some (.int z) ∧ (¬ z = 0 → tk_is n 1 (th_po S n) v = true) ∧ (z = 0 → ¬ tk_is n 1 (th_po S n) v = true) := by
        rcases hr26 with ⟨rfl, g⟩ | ⟨rfl, g⟩
        · exact ⟨_, rfl, fun _ => g, fun e => absurd e (by decide)⟩
        · exact ⟨_, rfl, fun e => absurd rfl e, fun _ => g⟩
      refine wq_ifeq rfl (fun h29 => ?_) (fun h29 => ?_)
      · refine wq_con (x := 0) rfl (by decide) ?_
        refine wq_sti [(4, .int 0), (3, .int (nI v)), (2, .int (nI (th_po S n))), (0, .ref 1), (1, .int (nI S))] rfl rfl ?_
        refine wp_ldi rfl tm_m0 ?_
        refine wq_ifeq rfl (fun h53 => ?_) (fun h53 => absurd rfl h53)
        refine wq_inc (c := 1) [(3, .int ((nI v) + 1)), (4, .int 0), (2, .int (nI (th_po S n))), (0, .ref 1), (1, .int (nI S))] rfl tm_m1 rfl rfl ?_
        refine wp_go rfl ?_
        rw [nI_1]
        refine WP.less (nx (fun hk => ?_)) (by simp)
        obtain ⟨k1, k2, k3, k4⟩ := hk
        first
        | exact hn26 h29 (by unfold tk_is; rw [k1, k2]; simp)
        | exact k3 ((nI_eq (by omega) (by omega)).mp h41)
        | exact hn59 h62 k4
        | exact absurd rfl h53
        | exact absurd h53 (by decide)
      · refine wp_ldi rfl tm_m0 ?_
        refine wp_lda rfl tm_m2 ?_
        refine wq_getr (p := 13) rfl rfl (f := 1) rfl rfl ?_
        refine wq_con (x := nI 1) rfl (by decide) ?_
        refine wp_aald rfl rfl (nI_in (by decide) (by decide)) ?_
        rw [show (nI 1).toNatClampNeg = 1 from rfl]
        refine wp_ldi rfl tm_m3 ?_
        refine wp_iald rfl rfl (nI_in (by omega) (by decide)) ?_
        rw [nI_clamp (n := S) (by omega), Vt S hS]
        refine wq_iceq rfl (fun h41 => ?_) (fun h41 => ?_)
        · refine wq_con (x := 0) rfl (by decide) ?_
          refine wq_sti [(4, .int 0), (3, .int (nI v)), (2, .int (nI (th_po S n))), (0, .ref 1), (1, .int (nI S))] rfl rfl ?_
          refine wp_ldi rfl tm_m0 ?_
          refine wq_ifeq rfl (fun h53 => ?_) (fun h53 => absurd rfl h53)
          refine wq_inc (c := 1) [(3, .int ((nI v) + 1)), (4, .int 0), (2, .int (nI (th_po S n))), (0, .ref 1), (1, .int (nI S))] rfl tm_m1 rfl rfl ?_
          refine wp_go rfl ?_
          rw [nI_1]
          refine WP.less (nx (fun hk => ?_)) (by simp)
          obtain ⟨k1, k2, k3, k4⟩ := hk
          first
          | exact hn26 h29 (by unfold tk_is; rw [k1, k2]; simp)
          | exact k3 ((nI_eq (by omega) (by omega)).mp h41)
          | exact hn59 h62 k4
          | exact absurd rfl h53
          | exact absurd h53 (by decide)
        · refine wq_con (x := 1) rfl (by decide) ?_
          refine wp_go rfl ?_
          refine wq_sti [(4, .int 1), (3, .int (nI v)), (2, .int (nI (th_po S n))), (0, .ref 1), (1, .int (nI S))] rfl rfl ?_
          refine wp_ldi rfl tm_m0 ?_
          refine wq_ifeq rfl (fun h53 => absurd h53 (by decide)) (fun h53 => ?_)
          refine wp_lda rfl tm_m3 ?_
          refine wp_ldi rfl tm_m4 ?_
          refine wp_ldi rfl tm_m1 ?_
          refine wq_calv [.int (nI S), .int (nI v)] rfl rfl rfl rfl rfl rfl rfl rfl rfl (tk_hs hN hn h3 hS hvl) ?_
          rintro r59 _ ⟨hr59, rfl⟩
          obtain ⟨z59, rfl, hz59, hn59⟩ : ∃ z : Int32, r59 = some (.int z) ∧ (¬ z = 0 → tk_same n S v) ∧ (z = 0 → ¬ tk_same n S v) := by
            rcases hr59 with ⟨rfl, g⟩ | ⟨rfl, g⟩
            · exact ⟨_, rfl, fun _ => g, fun e => absurd e (by decide)⟩
            · exact ⟨_, rfl, fun e => absurd rfl e, fun _ => g⟩
          refine wq_ifeq rfl (fun h62 => ?_) (fun h62 => ?_)
          · refine wq_inc (c := 1) [(3, .int ((nI v) + 1)), (4, .int 1), (2, .int (nI (th_po S n))), (0, .ref 1), (1, .int (nI S))] rfl tm_m1 rfl rfl ?_
            refine wp_go rfl ?_
            rw [nI_1]
            refine WP.less (nx (fun hk => ?_)) (by simp)
            obtain ⟨k1, k2, k3, k4⟩ := hk
            first
            | exact hn26 h29 (by unfold tk_is; rw [k1, k2]; simp)
            | exact k3 ((nI_eq (by omega) (by omega)).mp h41)
            | exact hn59 h62 k4
            | exact absurd rfl h53
            | exact absurd h53 (by decide)
          · refine wp_ldi rfl tm_m1 ?_
            have hi := hz26 h29
            unfold tk_is at hi
            rw [Bool.and_eq_true, decide_eq_true_eq, decide_eq_true_eq] at hi
            exact wp_reti rfl (th_nI rfl) ⟨⟨_, rfl, Or.inl ⟨v, rfl, hvl, ⟨hi.1, hi.2, fun q => h41 (by rw [q]), hz59 h62⟩, hb⟩⟩, Ft, Mt⟩
  show WP (d + 4) 31 0 [(0, .ref 1), (1, .int (nI S))] [] s _
  refine wp_lda rfl tm_m0 ?_
  refine wq_con (x := nI 1) rfl (by decide) ?_
  refine wq_calv [.int (nI 1)] rfl rfl rfl rfl rfl rfl rfl rfl rfl (tk_all1 hn h3 F hM) ?_
  rintro _ t ⟨rfl, Ft, Mt, Vt⟩
  refine wp_ldi rfl tm_m1 ?_
  refine wq_cals [.int (nI S)] rfl rfl rfl rfl rfl rfl (th_bitCount (nI S) (Q := th_is (.int (nI (th_po S n))) t) ⟨by rw [th_bn (by omega), th_po12 hn hS], rfl⟩) ?_
  rintro _ _ ⟨rfl, rfl⟩
  refine wq_sti [(2, .int (nI (th_po S n))), (0, .ref 1), (1, .int (nI S))] rfl rfl ?_
  refine wq_con (x := nI 0) rfl (by decide) ?_
  refine wq_sti [(3, .int (nI 0)), (2, .int (nI (th_po S n))), (0, .ref 1), (1, .int (nI S))] rfl rfl ?_
  exact WP.less (k12 t Ft Mt Vt (2 ^ n) 0 (by omega) (fun u hu => absurd hu (by omega))) (by simp)
set_option maxRecDepth 100000 in
set_option maxHeartbeats 4000000 in
theorem tf2_x_twin {n : Nat} {a1 : Int32} {σ : tm_S} (h : th_I2 n σ) : WM 90 30 [.ref 0, .int a1] σ (fun r σ' => ∃ z : Int32, r = some (.int z) ∧ tp_twin n a1 z ∧ th_I2 n σ') := by
  have ⟨⟨h3, hn, hT, hSL⟩, hM⟩ := h
  have hN := th_N0 hT hn
  have hp : 2 ^ n ≤ 4096 := Nat.pow_le_pow_right (n := 2) (by decide) hn
  have eN : (nI n).toInt = n := nI_toInt (by omega)
  show WP 90 30 0 [(0, .ref 0), (1, .int a1)] [] σ _
  refine wp_lda rfl tm_m0 ?_
  refine wq_getr (p := 1) rfl rfl (f := 0) rfl rfl ?_
  refine wp_ldi rfl tm_m1 ?_
  refine wq_calv [.int a1] rfl rfl rfl rfl rfl rfl rfl rfl rfl (th_hset hN hn) ?_
  rintro r5 _ ⟨hr5, rfl⟩
  obtain ⟨z5, rfl, hz5, hn5⟩ : ∃ z : Int32, r5 = some (.int z) ∧ (¬ z = 0 → th_st n a1) ∧ (z = 0 → ¬ th_st n a1) := by
    rcases hr5 with ⟨rfl, g⟩ | ⟨rfl, g⟩
    · exact ⟨_, rfl, fun _ => g, fun e => absurd e (by decide)⟩
    · exact ⟨_, rfl, fun e => absurd rfl e, fun _ => g⟩
  refine wq_ifeq rfl (fun h8 => ?_) (fun h8 => ?_)
  · refine wq_con (x := (-1)) rfl (by decide) ?_
    exact wp_reti rfl (th_nI rfl) ⟨_, rfl, Or.inr ⟨hn5 h8, rfl⟩, h⟩
  · obtain ⟨S, e1, hS⟩ := hz5 h8
    refine wp_lda rfl tm_m0 ?_
    refine wq_getr (p := 1) rfl rfl (f := 0) rfl rfl ?_
    refine wp_ldi rfl tm_m1 ?_
    refine wq_calv [.int a1] rfl rfl rfl rfl rfl rfl rfl rfl rfl (by rw [e1]; exact tk_lt1 (d := 85) hn h3 hS ⟨hT, tv_un_rf⟩ hM) ?_
    rintro _ t ⟨⟨z, rfl, hz⟩, Ft, Mt⟩
    refine wp_go rfl ?_
    exact wp_reti rfl (th_nI rfl) ⟨_, rfl, Or.inl ⟨S, e1, by omega, hz, ⟨S, e1, hS⟩⟩, tk_I2 h.1 Ft Mt⟩
set_option maxRecDepth 100000 in
set_option maxHeartbeats 4000000 in
theorem tf2_m_twin {n : Nat} {a1 : Int32} {σ : tm_S} (h : th_I2 n σ) : WM 90 179 [.ref 11, .int a1] σ (fun r σ' => ∃ z : Int32, r = some (.int z) ∧ tp_twin n a1 z ∧ th_I2 n σ') := by
  have hI := th_I20 h
  generalize e0 : tm_sI σ 11 0 0 = s0 at hI
  have ⟨⟨h3, hn, hT, hSL⟩, hM⟩ := hI
  have hN1 := th_N1 hT hn
  have hp : 2 ^ n ≤ 4096 := Nat.pow_le_pow_right (n := 2) (by decide) hn
  have eN : (nI n).toInt = n := nI_toInt (by omega)
  have h1n : ((1 : Int32) <<< (nI n &&& 31)) = nI (2 ^ n) := th_p24 n (by omega)
  have k24 : ∀ S : Nat, a1 = nI S → S < 2 ^ n → ∀ f v : Nat, v + f = 2 ^ n → (∀ u : Nat, u < v → ¬ tk_tw n S u) → WP 90 179 24 [(3, .int (nI v)), (2, .int (nI (tk_nm n 1 S))), (0, .ref 11), (1, .int (nI S))] [] s0 (fun r σ' => ∃ z : Int32, r = some (.int z) ∧ tp_twin n a1 z ∧ th_I2 n σ') := by
    intro S e1 hS f
    have lS : th_po S n ≤ n := th_sm_le
    have lk := tk_lt (g := 1) h3 hS
    have q24 : th_po S 24 = th_po S n := th_po24 hS (by omega)
    induction f with
    | zero =>
      intro v hv hb
      obtain rfl : v = 2 ^ n := by omega
      refine wp_ldi rfl tm_m0 ?_
      refine wq_con (x := 1) rfl (by decide) ?_
      refine wp_lda rfl tm_m2 ?_
      refine wq_geti rfl rfl (f := 1) rfl rfl (Or.inl rfl) ?_
      rw [hN1]
      refine wq_ishl rfl ?_
      rw [h1n]
      refine wq_icge rfl (fun h31 => ?_) (fun h31 => absurd (nI_le (Nat.le_refl _) (by omega)) h31)
      refine wq_con (x := (-1)) rfl (by decide) ?_
      exact wp_reti rfl (th_nI rfl) ⟨_, rfl, Or.inl ⟨S, e1, by omega, Or.inr ⟨rfl, hb⟩, ⟨S, e1, hS⟩⟩, hI⟩
    | succ f ih =>
      intro v hv hb
      have hvl : v < 2 ^ n := by omega
      have p24 : th_po v 24 = th_po v n := th_po24 hvl (by omega)
      have lp : th_po v n ≤ n := th_sm_le
      have ln : tk_nm n 1 v ≤ v := tk_le
      have nx : ¬ tk_tw n S v → WP 90 179 24 [(3, .int (nI (v + 1))), (2, .int (nI (tk_nm n 1 S))), (0, .ref 11), (1, .int (nI S))] [] s0 (fun r σ' => ∃ z : Int32, r = some (.int z) ∧ tp_twin n a1 z ∧ th_I2 n σ') := fun hne => ih (v + 1) (by omega) (fun u hu => by
        by_cases e : u = v
        · rw [e]
          exact hne
        · exact hb u (by omega))
      have k107 : ∀ lk : Int32, (¬ lk = 0 → tk_same n S v ∧ th_po v n = th_po S n ∧ ¬ v = tk_nm n 1 S) → (lk = 0 → ¬ tk_same n S v) → WP 90 179 107 [(4, .int lk), (3, .int (nI v)), (2, .int (nI (tk_nm n 1 S))), (0, .ref 11), (1, .int (nI S))] [] s0 (fun r σ' => ∃ z : Int32, r = some (.int z) ∧ tp_twin n a1 z ∧ th_I2 n σ') := by
        intro lk y1 y2
        refine wp_ldi rfl tm_m0 ?_
        refine wq_ifeq rfl (fun h109 => ?_) (fun h109 => ?_)
        · refine wq_inc (c := 1) [(3, .int ((nI v) + 1)), (4, .int lk), (2, .int (nI (tk_nm n 1 S))), (0, .ref 11), (1, .int (nI S))] rfl tm_m1 rfl rfl ?_
          refine wp_go rfl ?_
          rw [nI_1]
          refine WP.less (nx (fun hk => ?_)) (by simp)
          obtain ⟨k1, k2, k3, k4⟩ := hk
          first | exact y2 h109 k4 | exact h119 (by rw [k1])
        · refine wp_lda rfl tm_m3 ?_
          refine wq_con (x := nI 1) rfl (by decide) ?_
          refine wp_ldi rfl tm_m1 ?_
          refine wq_calv [.int (nI 1), .int (nI v)] rfl rfl rfl rfl rfl rfl rfl rfl rfl (tk_in (d := 87) hN1 hn h3 (by decide) hvl) ?_
          rintro _ _ ⟨rfl, rfl⟩
          refine wp_ldi rfl tm_m1 ?_
          refine wq_icne rfl (fun h119 => ?_) (fun h119 => ?_)
          · refine wq_inc (c := 1) [(3, .int ((nI v) + 1)), (4, .int lk), (2, .int (nI (tk_nm n 1 S))), (0, .ref 11), (1, .int (nI S))] rfl tm_m1 rfl rfl ?_
            refine wp_go rfl ?_
            rw [nI_1]
            refine WP.less (nx (fun hk => ?_)) (by simp)
            obtain ⟨k1, k2, k3, k4⟩ := hk
            first | exact y2 h109 k4 | exact h119 (by rw [k1])
          · refine wp_ldi rfl tm_m1 ?_
            obtain ⟨z1, z2, z3⟩ := y1 h109
            exact wp_reti rfl (th_nI rfl) ⟨_, rfl, Or.inl ⟨S, e1, by omega, Or.inl ⟨v, rfl, hvl, ⟨(nI_eq (by omega) (by omega)).mp (Classical.not_not.mp h119), z2, z3, z1⟩, hb⟩, ⟨S, e1, hS⟩⟩, hI⟩
      have k61 : th_po v n = th_po S n → ¬ v = tk_nm n 1 S → ∀ (f2 e : Nat) (lk : Int32), e + f2 = n / 2 + 1 → 1 ≤ e → (¬ lk = 0 → ∀ i : Nat, 1 ≤ i → i < e → th_pt n S i n = th_pt n v i n) → (lk = 0 → ¬ tk_same n S v) → WP 90 179 61 [(5, .int (nI e)), (4, .int lk), (3, .int (nI v)), (2, .int (nI (tk_nm n 1 S))), (0, .ref 11), (1, .int (nI S))] [] s0 (fun r σ' => ∃ z : Int32, r = some (.int z) ∧ tp_twin n a1 z ∧ th_I2 n σ') := by
        intro z2 z3 f2
        induction f2 with
        | zero =>
          intro e lk he h1 y1 y2
          refine wp_ldi rfl tm_m0 ?_
          refine wp_lda rfl tm_m4 ?_
          refine wq_geti rfl rfl (f := 1) rfl rfl (Or.inl rfl) ?_
          rw [hN1]
          refine wq_con (x := 2) rfl (by decide) ?_
          refine wp_div rfl (by decide) ?_
          rw [th_hf (by omega)]
          refine wq_icgt rfl (fun h69 => ?_) (fun h69 => absurd (nI_lt (by omega) (by omega)) h69)
          refine WP.less (k107 lk (fun q => ⟨fun i i1 i2 => y1 q i i1 (by omega), z2, z3⟩) y2) (by simp)
        | succ f2 ihf =>
          intro e lk he h1 y1 y2
          have b1 := tk_ptb (S := S) (d := e) hn
          have b2 := tk_ptb (S := v) (d := e) hn
          refine wp_ldi rfl tm_m0 ?_
          refine wp_lda rfl tm_m4 ?_
          refine wq_geti rfl rfl (f := 1) rfl rfl (Or.inl rfl) ?_
          rw [hN1]
          refine wq_con (x := 2) rfl (by decide) ?_
          refine wp_div rfl (by decide) ?_
          rw [th_hf (by omega)]
          refine wq_icgt rfl (fun h69 => absurd h69 (nI_nlt (by omega) (by omega))) (fun h69 => ?_)
          refine wp_ldi rfl tm_m1 ?_
          refine wq_ifeq rfl (fun h74 => ?_) (fun h74 => ?_)
          · exact WP.less (k107 lk (fun q => absurd h74 q) y2) (by simp)
          · refine wp_lda rfl tm_m4 ?_
            refine wp_ldi rfl tm_m2 ?_
            refine wp_ldi rfl tm_m0 ?_
            refine wq_calv [.int (nI v), .int (nI e)] rfl rfl rfl rfl rfl rfl rfl rfl rfl (th_prs hN1 hn hvl (by omega)) ?_
            rintro _ _ ⟨rfl, rfl⟩
            refine wp_lda rfl tm_m4 ?_
            refine wp_ldi rfl tm_m5 ?_
            refine wp_ldi rfl tm_m0 ?_
            refine wq_calv [.int (nI S), .int (nI e)] rfl rfl rfl rfl rfl rfl rfl rfl rfl (th_prs hN1 hn hS (by omega)) ?_
            rintro _ _ ⟨rfl, rfl⟩
            refine wq_icne rfl (fun h91 => ?_) (fun h91 => ?_)
            · refine wq_con (x := 0) rfl (by decide) ?_
              refine wq_sti [(4, .int 0), (5, .int (nI e)), (3, .int (nI v)), (2, .int (nI (tk_nm n 1 S))), (0, .ref 11), (1, .int (nI S))] rfl rfl ?_
              refine wq_inc (c := 1) [(5, .int ((nI e) + 1)), (4, .int 0), (3, .int (nI v)), (2, .int (nI (tk_nm n 1 S))), (0, .ref 11), (1, .int (nI S))] rfl tm_m1 rfl rfl ?_
              refine wp_go rfl ?_
              rw [nI_1]
              exact WP.less (ihf (e + 1) 0 (by omega) (by omega) (fun q => absurd rfl q) (fun _ hk => h91 (by rw [hk e h1 (by omega)]))) (by simp)
            · refine wq_con (x := 1) rfl (by decide) ?_
              refine wp_go rfl ?_
              refine wq_sti [(4, .int 1), (5, .int (nI e)), (3, .int (nI v)), (2, .int (nI (tk_nm n 1 S))), (0, .ref 11), (1, .int (nI S))] rfl rfl ?_
              refine wq_inc (c := 1) [(5, .int ((nI e) + 1)), (4, .int 1), (3, .int (nI v)), (2, .int (nI (tk_nm n 1 S))), (0, .ref 11), (1, .int (nI S))] rfl tm_m1 rfl rfl ?_
              refine wp_go rfl ?_
              rw [nI_1]
              refine WP.less (ihf (e + 1) 1 (by omega) (by omega) (fun _ i i1 i2 => ?_) (fun q => absurd q (by decide))) (by simp)
              by_cases q : i = e
              · subst q
                exact ((nI_eq (by omega) (by omega)).mp (Classical.not_not.mp h91)).symm
              · exact y1 h74 i i1 (by omega)
      refine wp_ldi rfl tm_m0 ?_
      refine wq_con (x := 1) rfl (by decide) ?_
      refine wp_lda rfl tm_m2 ?_
      refine wq_geti rfl rfl (f := 1) rfl rfl (Or.inl rfl) ?_
      rw [hN1]
      refine wq_ishl rfl ?_
      rw [h1n]
      refine wq_icge rfl (fun h31 => absurd h31 (nI_ge (by omega) (by omega))) (fun h31 => ?_)
      refine wp_ldi rfl tm_m0 ?_
      refine wp_ldi rfl tm_m1 ?_
      refine wq_iceq rfl (fun h36 => ?_) (fun h36 => ?_)
      · refine wq_inc (c := 1) [(3, .int ((nI v) + 1)), (2, .int (nI (tk_nm n 1 S))), (0, .ref 11), (1, .int (nI S))] rfl tm_m0 rfl rfl ?_
        refine wp_go rfl ?_
        rw [nI_1]
        refine WP.less (nx (fun hk => ?_)) (by simp)
        obtain ⟨k1, k2, k3, k4⟩ := hk
        first | exact k3 ((nI_eq (by omega) (by omega)).mp h36) | exact h49 (by rw [k2])
      · refine wp_lda rfl tm_m2 ?_
        refine wp_ldi rfl tm_m0 ?_
        refine wq_calv [.int (nI v)] rfl rfl rfl rfl rfl rfl rfl rfl rfl (th_on24 (by omega)) ?_
        rintro _ _ ⟨rfl, rfl⟩
        rw [p24]
        refine wp_lda rfl tm_m2 ?_
        refine wp_ldi rfl tm_m3 ?_
        refine wq_calv [.int (nI S)] rfl rfl rfl rfl rfl rfl rfl rfl rfl (th_on24 (by omega)) ?_
        rintro _ _ ⟨rfl, rfl⟩
        rw [q24]
        refine wq_iceq rfl (fun h49 => ?_) (fun h49 => ?_)
        · refine wq_con (x := 1) rfl (by decide) ?_
          refine wq_sti [(4, .int 1), (3, .int (nI v)), (2, .int (nI (tk_nm n 1 S))), (0, .ref 11), (1, .int (nI S))] rfl rfl ?_
          refine wq_con (x := nI 1) rfl (by decide) ?_
          refine wq_sti [(5, .int (nI 1)), (4, .int 1), (3, .int (nI v)), (2, .int (nI (tk_nm n 1 S))), (0, .ref 11), (1, .int (nI S))] rfl rfl ?_
          exact WP.less (k61 ((nI_eq (by omega) (by omega)).mp h49) (fun q => h36 (by rw [q])) (n / 2) 1 1 (by omega) (Nat.le_refl _) (fun _ i i1 i2 => absurd i1 (by omega)) (fun q => absurd q (by decide))) (by simp [nI])
        · refine wp_go rfl ?_
          refine wq_inc (c := 1) [(3, .int ((nI v) + 1)), (2, .int (nI (tk_nm n 1 S))), (0, .ref 11), (1, .int (nI S))] rfl tm_m0 rfl rfl ?_
          refine wp_go rfl ?_
          rw [nI_1]
          refine WP.less (nx (fun hk => ?_)) (by simp)
          obtain ⟨k1, k2, k3, k4⟩ := hk
          first | exact k3 ((nI_eq (by omega) (by omega)).mp h36) | exact h49 (by rw [k2])
  show WP 90 179 0 [(0, .ref 11), (1, .int a1)] [] σ _
  refine wp_lda rfl tm_m0 ?_
  refine wq_con (x := 0) rfl (by decide) ?_
  refine wq_puti rfl rfl (f := 0) rfl rfl ?_
  rw [e0]
  refine wp_lda rfl tm_m0 ?_
  refine wp_ldi rfl tm_m1 ?_
  refine wq_calv [.int a1] rfl rfl rfl rfl rfl rfl rfl rfl rfl (tg_mset hN1 hn) ?_
  rintro r7 _ ⟨hr7, rfl⟩
  obtain ⟨z7, rfl, hz7, hn7⟩ : ∃ z : Int32, r7 = some (.int z) ∧ (¬ z = 0 → th_st n a1) ∧ (z = 0 → ¬ th_st n a1) := by
    rcases hr7 with ⟨rfl, g⟩ | ⟨rfl, g⟩
    · exact ⟨_, rfl, fun _ => g, fun e => absurd e (by decide)⟩
    · exact ⟨_, rfl, fun e => absurd rfl e, fun _ => g⟩
  refine wq_ifne rfl (fun h10 => ?_) (fun h10 => ?_)
  · obtain ⟨S, e1, hS⟩ := hz7 h10
    refine wp_lda rfl tm_m0 ?_
    refine wq_con (x := nI 1) rfl (by decide) ?_
    refine wp_ldi rfl tm_m1 ?_
    refine wq_calv [.int (nI 1), .int a1] rfl rfl rfl rfl rfl rfl rfl rfl rfl (by rw [e1]; exact tk_in (d := 87) hN1 hn h3 (by decide) hS) ?_
    rintro _ _ ⟨rfl, rfl⟩
    refine wq_sti [(2, .int (nI (tk_nm n 1 S))), (0, .ref 11), (1, .int a1)] rfl rfl ?_
    refine wq_con (x := nI 0) rfl (by decide) ?_
    refine wq_sti [(3, .int (nI 0)), (2, .int (nI (tk_nm n 1 S))), (0, .ref 11), (1, .int a1)] rfl rfl ?_
    have kk := k24 S e1 hS (2 ^ n) 0 (by omega) (fun u hu => absurd hu (by omega))
    rw [← e1] at kk
    exact WP.less kk (by simp)
  · refine wq_con (x := (-1)) rfl (by decide) ?_
    exact wp_reti rfl (th_nI rfl) ⟨_, rfl, Or.inr ⟨hn7 (Classical.not_not.mp h10), rfl⟩, hI⟩
