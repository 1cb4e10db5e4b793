/-! ===== the law: constants, the first store ===== -/
def lw_tm (i : Nat) : Term := match i with
  | 0 => .string "ToneHouse$Reader" 154
  | 1 => .string "ToneHouse$Reader" 160
  | 2 => .string "ToneHouse$Reader" 162
  | 3 => .string "ToneHouse$Reader" 110
  | 4 => .string "ToneHouse$Score" 75
  | 5 => .string "ToneHouse$Score" 87
  | 6 => .string "ToneHouse$Score" 92
  | 7 => .string "ToneHouse$Score" 94
  | 8 => .string "ToneHouse$Score" 104
  | 9 => .string "ToneHouse$Score" 106
  | _ => .string "" 0
def lw_fl : List Cond := flatC (Jvm.Cond.and given_1 narrow_1)
set_option maxRecDepth 100000 in
theorem lw_f1 : ∀ i, i < tt_tok.length → Cond.laysStatic "ToneHouse$Token" (tt_tok.getD i "") "LToneHouse$Token;" ∈ lw_tbl := by decide +kernel
set_option maxRecDepth 100000 in
theorem lw_f2 : ∀ i, i < tt_tok.length → Cond.exactly (.static "ToneHouse$Token" (tt_tok.getD i "") "LToneHouse$Token;") "ToneHouse$Token" ∈ lw_fl := by decide +kernel
set_option maxRecDepth 100000 in
theorem lw_f3 : ∀ i, i < tt_tok.length → ∀ j, j < tt_tok.length → i ≠ j → (Cond.not (.eq (.static "ToneHouse$Token" (tt_tok.getD i "") "LToneHouse$Token;") (.static "ToneHouse$Token" (tt_tok.getD j "") "LToneHouse$Token;"))) ∈ lw_fl ∨ (Cond.not (.eq (.static "ToneHouse$Token" (tt_tok.getD j "") "LToneHouse$Token;") (.static "ToneHouse$Token" (tt_tok.getD i "") "LToneHouse$Token;"))) ∈ lw_fl := by decide +kernel
set_option maxRecDepth 100000 in
theorem lw_f4 : ∀ i, i < tt_NS → tt_len.getD i 0 < 2 ^ 31 ∧ Cond.exactly (lw_tm i) "java/lang/String" ∈ lw_fl ∧ Cond.eq (.field (lw_tm i) "java/lang/String" "coder" "B") (.int 0) ∈ lw_fl ∧ Cond.arrayOf (.field (lw_tm i) "java/lang/String" "value" "[B") .byte ∈ lw_fl ∧ Cond.eq (.length (.field (lw_tm i) "java/lang/String" "value" "[B")) (.int (Int32.ofNat (tt_len.getD i 0))) ∈ lw_fl := by decide +kernel
set_option maxRecDepth 100000 in
theorem lw_f5 : ∀ i, i < tt_NS → ∀ j, j < tt_len.getD i 0 → Cond.eq (.elem (.field (lw_tm i) "java/lang/String" "value" "[B") (.int (Int32.ofNat j))) (.int ((tt_byt.getD i []).getD j 0)) ∈ lw_fl := by decide +kernel
set_option maxRecDepth 100000 in
theorem lw_f6 : ∀ i, i < tt_NS → ∀ j, j < tt_NS → i ≠ j → (Cond.not (.eq (lw_tm i) (lw_tm j))) ∈ lw_fl ∨ (Cond.not (.eq (lw_tm j) (lw_tm i))) ∈ lw_fl := by decide +kernel
set_option maxRecDepth 100000 in
theorem lw_f7 : ∀ q ∈ tt_ldc, Cond.stringRef q.1 q.2.1 q.2.2.1 ∈ lw_tbl := by decide +kernel
theorem lw_f8 : Cond.eq (.string "ToneHouse$Reader" 110) (.string "ToneHouse$Score" 96) ∈ lw_fl := by decide +kernel
theorem lw_f9 : ∀ q ∈ tt_ldc, (Term.string q.1 q.2.1 = lw_tm (q.2.2.2 - tt_ST) ∧ q.2.2.2 - tt_ST < tt_NS) ∨ (q.1 = "ToneHouse$Score" ∧ q.2.1 = 96 ∧ q.2.2.2 - tt_ST = 3) := by decide +kernel
theorem lw_eqr {args : Array Value} {s : State} {t1 t2 : Term} {a : Nat} (h : (Cond.eq t1 t2).before args s = true) (h1 : t1.eval args s none [] s = some (.ref a)) : t2.eval args s none [] s = some (.ref a) := by
  cases hv : t2.eval args s none [] s with
  | none => simp [Cond.before, Cond.holds, Cond.value, hv, h1] at h
  | some w =>
    simp only [Cond.before, Cond.holds, Cond.value, hv, h1] at h
    cases w <;> simp_all
/-- what the law begins with, of constants -/
def lw_C (ad adK adV : Nat → Nat) (xq : Nat) (s : State) : Prop :=
  va_En "ToneHouse$Token" "LToneHouse$Token;" tt_tok [] ad (fun q : Nat => s.heap.size ≤ q) s s.heap ∧ vk_S tt_NS tt_len tt_byt adK adV (fun q : Nat => s.heap.size ≤ q) s s.heap ∧ va_Z "java/lang/String" "COMPACT_STRINGS" "Z" (.int 1) (fun q : Nat => s.heap.size ≤ q) s s.heap ∧
  (va_Z "jdk/internal/util/Preconditions" "SIOOBE_FORMATTER" "Ljava/util/function/BiFunction;" .null (fun q : Nat => s.heap.size ≤ q) s s.heap ∨ va_Z "jdk/internal/util/Preconditions" "SIOOBE_FORMATTER" "Ljava/util/function/BiFunction;" (.ref xq) (fun q : Nat => s.heap.size ≤ q) s s.heap) ∧
  (∀ q ∈ tt_ldc, vk_R q.1 q.2.1 q.2.2.1 (adK (q.2.2.2 - tt_ST)) s) ∧ ti_N s ∧ va_AOA .int s
set_option maxHeartbeats 4000000 in
set_option maxRecDepth 100000 in
theorem lw_consts {args : Array Value} {s : State} (hts : ∀ w ∈ lw_tbl, w.before args s = true) (hgv : (Jvm.Cond.and given_1 narrow_1).before args s = true) : ∃ (ad adK adV : Nat → Nat) (xq : Nat), lw_C ad adK adV xq s := by
  have hs : ∀ w ∈ lw_fl, w.before args s = true := flat_of_before _ hgv
  have hA : ∀ a : Nat, a < s.heap.size → ¬ (fun q : Nat => s.heap.size ≤ q) a := fun a h => Nat.not_le.mpr h
  obtain ⟨ad, h1⟩ := va_Enof (args := args) (s := s) (E := "ToneHouse$Token") (d := "LToneHouse$Token;") (nm := tt_tok) (F := []) (A := (fun q : Nat => s.heap.size ≤ q)) (fun i hi => hts _ (lw_f1 i hi)) (hts _ (List.mem_of_getElem? (i := 90) (by decide +kernel))) (fun i hi => hs _ (lw_f2 i hi)) (fun q hq => absurd hq List.not_mem_nil) (fun i j hi hj hij => (lw_f3 i hi j hj hij).imp (hs _) (hs _)) hA
  obtain ⟨adK, adV, h2, h2e⟩ := vk_Sof (args := args) (s := s) (N := tt_NS) (tm := lw_tm) (len := tt_len) (byt := tt_byt) (A := (fun q : Nat => s.heap.size ≤ q)) (fun i hi => (lw_f4 i hi).1) (fun i hi => hs _ (lw_f4 i hi).2.1) (fun i hi => hs _ (lw_f4 i hi).2.2.1) (fun i hi => hs _ (lw_f4 i hi).2.2.2.1) (fun i hi => hs _ (lw_f4 i hi).2.2.2.2) (fun i hi j hj => hs _ (lw_f5 i hi j hj)) (fun i j hi hj hij => (lw_f6 i hi j hj hij).imp (hs _) (hs _)) hA
  have h3 : va_Z "java/lang/String" "COMPACT_STRINGS" "Z" (.int 1) (fun q : Nat => s.heap.size ≤ q) s s.heap := va_Zof (args := args) (hts _ (List.mem_of_getElem? (i := 777) (by decide +kernel))) (hts _ (List.mem_of_getElem? (i := 95) (by decide +kernel))) (va_eqi (hs _ (by decide +kernel))) hA
  have h4 : va_Zq "jdk/internal/util/Preconditions" "SIOOBE_FORMATTER" "Ljava/util/function/BiFunction;" (fun q : Nat => s.heap.size ≤ q) s s.heap := va_Zqof (args := args) (hts _ (List.mem_of_getElem? (i := 793) (by decide +kernel))) (hts _ (List.mem_of_getElem? (i := 97) (by decide +kernel))) (hs _ (by decide +kernel)) hA
  have h5 : ∀ q ∈ tt_ldc, vk_R q.1 q.2.1 q.2.2.1 (adK (q.2.2.2 - tt_ST)) s := by
    intro q hq
    refine vk_R.of (A := args) (hts _ (lw_f7 q hq)) ?_
    rcases lw_f9 q hq with ⟨e, hi⟩ | ⟨e1, e2, e3⟩
    · rw [e]
      exact h2e _ hi
    · rw [e1, e2, e3]
      exact lw_eqr (hs _ lw_f8) (h2e 3 (by decide))
  have h6 : ti_N s := by
    intro w hw
    have hm := List.mem_filter.mp hw
    have h := hts w hm.1
    have hn := hm.2
    cases w <;> first | (simp [tm_isNest] at hn; done) | exact va_Nw.of rfl h
  have h7 : va_AOA .int s := by
    have h := hts (Cond.arrayOver (.array .int)) (List.mem_of_getElem? (i := 116) (by decide +kernel))
    exact h
  rcases h4 with h4 | ⟨t, h4⟩
  · exact ⟨ad, adK, adV, 0, h1, h2, h3, Or.inl h4, h5, h6, h7⟩
  · exact ⟨ad, adK, adV, t, h1, h2, h3, Or.inr h4, h5, h6, h7⟩
def lw_i1 : Nat → Int32 := fun j => if j = 0 then 12 else 0
def lw_i6 : Nat → Int32 := fun j => if j = 8 then -1 else 0
def lw_i11 : Nat → Int32 := fun j => if j = 1 then 12 else if j = 40 then -1 else 0
/-- the store at the law's head, the first time -/
def lw_σ (g : Nat → Int64) : tm_S := (fun k => if k = 1 then lw_i1 else if k = 6 then lw_i6 else if k = 11 then lw_i11 else fun _ => 0, fun k => if k = 12 then g else fun _ => 0, fun k => if k = 0 then (fun _ => 9) else if k = 6 then (fun j => if j = 1 then 10 else 80) else fun _ => 0)
def lw_zr (q : Int × Int) : Bool := tv_le q.1 0 && tv_le 0 q.2
def lw_zt (e : List (Int × Int) ⊕ (Int × Int)) : Bool := match e with
  | .inl l => l.all lw_zr
  | .inr q => lw_zr q
theorem lw_le {a c : Int} (h : tv_le a c = true) : a ≤ c := (tv_le_iff a c).mp h
theorem lw_z0 : (tc_T 0).all lw_zt = true := by decide +kernel
theorem lw_z (k j : Nat) : (tv_ti (tc_T 0) k j).1 ≤ 0 ∧ 0 ≤ (tv_ti (tc_T 0) k j).2 := by
  have hd : (tv_lo ≤ 0) ∧ (0 ≤ tv_hi) := ⟨by decide, by decide⟩
  have hq : ∀ q : Int × Int, lw_zr q = true → q.1 ≤ 0 ∧ 0 ≤ q.2 := fun q h => by
    unfold lw_zr at h
    rw [Bool.and_eq_true] at h
    exact ⟨lw_le h.1, lw_le h.2⟩
  unfold tv_ti
  cases hk : (tc_T 0)[k]? with
  | none => exact hd
  | some e =>
    have he := List.all_eq_true.mp lw_z0 e (List.mem_of_getElem? hk)
    cases e with
    | inl l =>
      show (l.getD j (tv_lo, tv_hi)).1 ≤ 0 ∧ 0 ≤ (l.getD j (tv_lo, tv_hi)).2
      by_cases hj : j < l.length
      · rw [List.getD_eq_getElem?_getD, List.getElem?_eq_getElem hj]
        exact hq _ (List.all_eq_true.mp he _ (List.getElem_mem hj))
      · rw [List.getD_eq_getElem?_getD, List.getElem?_eq_none (by omega)]
        exact hd
    | inr q => exact hq q he
theorem lw_IV {g : Nat → Int64} (hg : ∀ k : Nat, g k = 0 ∨ g k = -1) : th_IV 12 (lw_σ g) := by
  have t0 : (0 : Int32).toInt = 0 := by decide
  have hz : ∀ k j : Nat, ¬ k = 1 → ¬ k = 11 → (tv_ti (tc_T 12) k j).1 ≤ 0 ∧ 0 ≤ (tv_ti (tc_T 12) k j).2 := fun k j h1 h2 => by
    have e : tv_ti (tc_T 12) k j = tv_ti (tc_T 0) k j := by unfold tv_ti; rw [tc_Tne (v := 12) (w := 0) k h1 h2]
    rw [e]
    exact lw_z k j
  refine ⟨by decide, by decide, ⟨fun k j => ?_, fun q hq => ?_⟩, fun s => ?_, fun i => ?_, ⟨fun r hr => ?_, fun u hu => ?_⟩, show ¬ (10 : Nat) = 9 by decide⟩
  · by_cases h1 : k = 1
    · subst h1
      show (tv_ti (tc_T 12) 1 j).1 ≤ (lw_i1 j).toInt ∧ (lw_i1 j).toInt ≤ (tv_ti (tc_T 12) 1 j).2
      by_cases hj : j = 0
      · subst hj
        decide
      · rw [show lw_i1 j = 0 from if_neg hj, t0, tc_Tn1 (v := 12) (w := 0) j hj]
        exact lw_z 1 j
    · by_cases h6 : k = 6
      · subst h6
        show (tv_ti (tc_T 12) 6 j).1 ≤ (lw_i6 j).toInt ∧ (lw_i6 j).toInt ≤ (tv_ti (tc_T 12) 6 j).2
        by_cases hj : j = 8
        · subst hj
          decide
        · rw [show lw_i6 j = 0 from if_neg hj, t0]
          exact hz 6 j (by decide) (by decide)
      · by_cases h11 : k = 11
        · subst h11
          show (tv_ti (tc_T 12) 11 j).1 ≤ (lw_i11 j).toInt ∧ (lw_i11 j).toInt ≤ (tv_ti (tc_T 12) 11 j).2
          by_cases hj : j = 1
          · subst hj
            decide
          · by_cases hj2 : j = 40
            · subst hj2
              decide
            · rw [show lw_i11 j = 0 from (if_neg hj).trans (if_neg hj2), t0, tc_Tn11 (v := 12) (w := 0) j hj]
              exact lw_z 11 j
        · have e : (lw_σ g).1 k = fun _ => 0 := (if_neg h1).trans ((if_neg h6).trans (if_neg h11))
          rw [e, t0]
          exact hz k j h1 h11
  · rcases List.mem_cons.mp hq with rfl | hq
    · exact ⟨show (9 : Nat) ≤ 9 by decide, show (9 : Nat) ≤ 10 by decide⟩
    · rcases List.mem_cons.mp hq with rfl | hq
      · exact ⟨show (9 : Nat) ≤ 10 by decide, show (10 : Nat) ≤ 10 by decide⟩
      · rcases List.mem_cons.mp hq with rfl | hq
        · exact ⟨show (73 : Nat) ≤ 80 by decide, show (80 : Nat) ≤ 81 by decide⟩
        · exact absurd hq List.not_mem_nil
  · show g s = -1 ∨ th_dg 12 (g s)
    rcases hg s with h | h
    · rw [h]
      exact Or.inr (th_dg0 (by decide))
    · exact Or.inl h
  · exact th_dg0 (by decide)
  · exact absurd (show (r : Int) < (0 : Int32).toInt from hr) (by rw [t0]; omega)
  · exact absurd (show (u : Int) < (0 : Int32).toInt from hu) (by rw [t0]; omega)
theorem lw_I4 {g : Nat → Int64} (hg : ∀ k : Nat, g k = 0 ∨ g k = -1) : th_I4 12 (lw_σ g) := ⟨lw_IV hg, tw_start0 rfl rfl⟩
