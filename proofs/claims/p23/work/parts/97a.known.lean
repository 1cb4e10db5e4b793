/-! ===== the law, from its entry ===== -/
def lw_adr (l : List Nat) (ad adK adV : Nat → Nat) (xq : Nat) : Nat → Nat := fun k => if k < 73 then l.getD k 0 else if k < 82 then ad (k - 73) else if k < 92 then adK (k - 82) else if k < 102 then adV (k - 92) else xq
theorem lw_En {E d : String} {nm : List String} {F : List (String × String × String × List Int32)} {ad ad' : Nat → Nat} {A : Nat → Prop} {U : State} {H : Heap} (h : va_En E d nm F ad A U H) (he : ∀ i, i < nm.length → ad' i = ad i) : va_En E d nm F ad' A U H :=
  ⟨fun i hi => by rw [he i hi]; exact h.1 i hi, fun i j hi hj e => h.2 i j hi hj (by rw [← he i hi, ← he j hj]; exact e)⟩
theorem lw_vS {N : Nat} {len : List Nat} {byt : List (List Int32)} {k1 k2 v1 v2 : Nat → Nat} {A : Nat → Prop} {U : State} {H : Heap} (h : vk_S N len byt k1 v1 A U H) (he : ∀ i, i < N → k2 i = k1 i) (hv : ∀ i, i < N → v2 i = v1 i) : vk_S N len byt k2 v2 A U H :=
  ⟨fun i hi => by rw [he i hi, hv i hi]; exact h.1 i hi, fun i j hi hj e => h.2 i j hi hj (by rw [← he i hi, ← he j hj]; exact e)⟩
theorem lw_a1 {l : List Nat} {ad adK adV : Nat → Nat} {xq i : Nat} (h : i < 9) : lw_adr l ad adK adV xq (tt_EN + i) = ad i := by
  show (if 73 + i < 73 then _ else if 73 + i < 82 then ad (73 + i - 73) else _) = _
  rw [if_neg (by omega), if_pos (by omega), Nat.add_sub_cancel_left]
theorem lw_a2 {l : List Nat} {ad adK adV : Nat → Nat} {xq i : Nat} (h : i < 10) : lw_adr l ad adK adV xq (tt_ST + i) = adK i := by
  show (if 82 + i < 73 then _ else if 82 + i < 82 then _ else if 82 + i < 92 then adK (82 + i - 82) else _) = _
  rw [if_neg (by omega), if_neg (by omega), if_pos (by omega), Nat.add_sub_cancel_left]
theorem lw_a3 {l : List Nat} {ad adK adV : Nat → Nat} {xq i : Nat} (h : i < 10) : lw_adr l ad adK adV xq (tt_SV + i) = adV i := by
  show (if 92 + i < 73 then _ else if 92 + i < 82 then _ else if 92 + i < 92 then _ else if 92 + i < 102 then adV (92 + i - 92) else _) = _
  rw [if_neg (by omega), if_neg (by omega), if_neg (by omega), if_pos (by omega), Nat.add_sub_cancel_left]
theorem lw_f10 : ∀ q ∈ tt_ldc, tt_ST ≤ q.2.2.2 ∧ q.2.2.2 < tt_SV := by decide +kernel
theorem lw_mk {s : State} {l : List Nat} {ad adK adV : Nat → Nat} {xq : Nat} {D : va_G} {dA : Nat → ClassId} {σ : tm_S} (hC : lw_C ad adK adV xq s) (hK : va_K D tt_cl (tm_ty dA) s) (hD : va_D (fun q : Nat => s.heap.size ≤ q) (tm_w (lw_adr l ad adK adV xq) dA σ)) : lw_F s (lw_adr l ad adK adV xq) D dA := by
  obtain ⟨h1, h2, h3, h4, h5, h6, h7⟩ := hC
  have hw : ∀ k : Nat, k < tt_NP → ∃ e : va_E, (tm_w (lw_adr l ad adK adV xq) dA σ)[k]? = some (lw_adr l ad adK adV xq k, e) := fun k hk => ⟨_, tm_w_get (List.getElem?_eq_getElem (Nat.lt_of_lt_of_eq hk tt_NP_eq))⟩
  have hge : ∀ k : Nat, k < tt_NP → s.heap.size ≤ lw_adr l ad adK adV xq k := fun k hk => by
    obtain ⟨e, he⟩ := hw k hk
    exact hD.2 k _ he
  have hlt : ∀ i : Nat, i < 9 → ad i < s.heap.size := fun i hi => by
    obtain ⟨cell, g1, -⟩ := (h1.1 i hi).2.1
    exact (Array.getElem?_eq_some_iff.mp g1).1
  refine ⟨hK, fun i j hi hj e => ?_, ⟨lw_En h1 (fun i hi => lw_a1 hi), lw_vS h2 (fun i hi => lw_a2 hi) (fun i hi => lw_a3 hi), h3, h4, fun q hq => ?_, h6⟩, hge⟩
  · by_cases ci : i < tt_NP
    · by_cases cj : j < tt_NP
      · obtain ⟨e1, g1⟩ := hw i ci
        obtain ⟨e2, g2⟩ := hw j cj
        exact hD.1 i j _ _ g1 g2 e
      · obtain ⟨j2, rfl⟩ : ∃ j2, j = tt_EN + j2 := ⟨j - 73, by show j = 73 + (j - 73); have : ¬ j < 73 := cj; omega⟩
        have hj2 : j2 < 9 := by have : 73 + j2 < 82 := hj; omega
        rw [lw_a1 hj2] at e
        have q1 := hge i ci
        have q2 := hlt j2 hj2
        omega
    · obtain ⟨i2, rfl⟩ : ∃ i2, i = tt_EN + i2 := ⟨i - 73, by show i = 73 + (i - 73); have : ¬ i < 73 := ci; omega⟩
      have hi2 : i2 < 9 := by have : 73 + i2 < 82 := hi; omega
      rw [lw_a1 hi2] at e
      by_cases cj : j < tt_NP
      · have q1 := hge j cj
        have q2 := hlt i2 hi2
        omega
      · obtain ⟨j2, rfl⟩ : ∃ j2, j = tt_EN + j2 := ⟨j - 73, by show j = 73 + (j - 73); have : ¬ j < 73 := cj; omega⟩
        have hj2 : j2 < 9 := by have : 73 + j2 < 82 := hj; omega
        rw [lw_a1 hj2] at e
        rw [h1.2 i2 j2 hi2 hj2 e]
  · obtain ⟨g1, g2⟩ := lw_f10 q hq
    have e : lw_adr l ad adK adV xq q.2.2.2 = adK (q.2.2.2 - tt_ST) := by
      have g3 : 82 ≤ q.2.2.2 := g1
      have g4 : q.2.2.2 < 92 := g2
      show (if q.2.2.2 < 73 then _ else _) = _
      rw [if_neg (by omega), if_neg (by omega), if_pos (by omega)]
      rfl
    rw [e]
    exact h5 q hq
theorem lw_goodI {y : MethodName} {cc : ByteArray} {i : Nat} (h : tb_w i (Cond.code y cc 1 none) = true) : GoodIn lw_tbl (tt_wi y cc) := by
  intro w hw
  have hm : w ∈ tm_tbl := by
    rcases List.mem_cons.mp hw with rfl | hm
    · exact tb_w_in h
    · exact hm
  exact ⟨(List.mem_filter.mp hm).1, (tm_tbl_good w hm).2⟩
set_option maxHeartbeats 4000000 in
set_option maxRecDepth 100000 in
theorem lw_kn {args : Array Value} {s : State} (hts : ∀ w ∈ lw_tbl, w.before args s = true) : ∃ (D : va_G) (cI cJ cZ : ClassId), va_K D tt_cl [(cI, .int), (cJ, .long), (cZ, .boolean)] s := by
  obtain ⟨c0, iS0, hKn0⟩ := u_known (C := tt_R0) (T := tt_T0) (N := 9) (n := 9) hts (fun w hw => (tt_in0 w hw).1) (hts _ (List.mem_of_getElem? (i := 102) (by decide +kernel)))
  obtain ⟨c1, iS1, hKn1⟩ := u_known (C := tt_R1) (T := tt_T1) (N := 3) (n := 3) hts (fun w hw => (tt_in1 w hw).1) (hts _ (List.mem_of_getElem? (i := 110) (by decide +kernel)))
  obtain ⟨c2, iS2, hKn2⟩ := u_known (C := tt_R2) (T := tt_T2) (N := 6) (n := 6) hts (fun w hw => (tt_in2 w hw).1) (hts _ (List.mem_of_getElem? (i := 130) (by decide +kernel)))
  obtain ⟨c3, iS3, hKn3⟩ := u_known (C := tt_R3) (T := tt_T3) (N := 3) (n := 3) hts (fun w hw => (tt_in3 w hw).1) (hts _ (List.mem_of_getElem? (i := 155) (by decide +kernel)))
  obtain ⟨c4, iS4, hKn4⟩ := u_known (C := tt_R4) (T := tt_T4) (N := 5) (n := 5) hts (fun w hw => (tt_in4 w hw).1) (hts _ (List.mem_of_getElem? (i := 171) (by decide +kernel)))
  obtain ⟨c5, iS5, hKn5⟩ := u_known (C := tt_R5) (T := tt_T5) (N := 5) (n := 5) hts (fun w hw => (tt_in5 w hw).1) (hts _ (List.mem_of_getElem? (i := 194) (by decide +kernel)))
  obtain ⟨c6, iS6, hKn6⟩ := u_known (C := tt_R6) (T := tt_T6) (N := 9) (n := 9) hts (fun w hw => (tt_in6 w hw).1) (hts _ (List.mem_of_getElem? (i := 216) (by decide +kernel)))
  obtain ⟨c7, iS7, hKn7⟩ := u_known (C := tt_R7) (T := tt_T7) (N := 2) (n := 2) hts (fun w hw => (tt_in7 w hw).1) (hts _ (List.mem_of_getElem? (i := 222) (by decide +kernel)))
  obtain ⟨c8, iS8, hKn8⟩ := u_known (C := tt_R8) (T := tt_T8) (N := 8) (n := 8) hts (fun w hw => (tt_in8 w hw).1) (hts _ (List.mem_of_getElem? (i := 235) (by decide +kernel)))
  obtain ⟨c9, iS9, hKn9⟩ := u_known (C := tt_R9) (T := tt_T9) (N := 49) (n := 49) hts (fun w hw => (tt_in9 w hw).1) (hts _ (List.mem_of_getElem? (i := 1084) (by decide +kernel)))
  obtain ⟨cI, kI, cmI, fI1, fI2, fI3⟩ := Cond.arrayClass_spec (hts (Cond.arrayClass .int) (List.mem_of_getElem? (i := 127) (by decide +kernel)))
  obtain ⟨cJ, kJ, cmJ, fJ1, fJ2, fJ3⟩ := Cond.arrayClass_spec (hts (Cond.arrayClass .long) (List.mem_of_getElem? (i := 192) (by decide +kernel)))
  obtain ⟨cZ, kZ, cmZ, fZ1, fZ2, fZ3⟩ := Cond.arrayClass_spec (hts (Cond.arrayClass .boolean) (List.mem_of_getElem? (i := 128) (by decide +kernel)))
  refine ⟨(fun k => match k with | 0 => c0 | 1 => c1 | 2 => c2 | 3 => c3 | 4 => c4 | 5 => c5 | 6 => c6 | 7 => c7 | 8 => c8 | _ => c9, fun k => match k with | 0 => iS0 | 1 => iS1 | 2 => iS2 | 3 => iS3 | 4 => iS4 | 5 => iS5 | 6 => iS6 | 7 => iS7 | 8 => iS8 | _ => iS9), cI, cJ, cZ, fun k q hq => ?_, fun k q hq => ?_⟩
  · match k, hq with
    | 0, hq => cases hq; exact hKn0
    | 1, hq => cases hq; exact hKn1
    | 2, hq => cases hq; exact hKn2
    | 3, hq => cases hq; exact hKn3
    | 4, hq => cases hq; exact hKn4
    | 5, hq => cases hq; exact hKn5
    | 6, hq => cases hq; exact hKn6
    | 7, hq => cases hq; exact hKn7
    | 8, hq => cases hq; exact hKn8
    | 9, hq => cases hq; exact hKn9
    | k + 10, hq => simp [tt_cl] at hq
  · match k, hq with
    | 0, hq => cases hq; exact ⟨fun N z => ⟨(fun k h => by cases h), kI, fI2, cmI, fI3⟩, fI1⟩
    | 1, hq => cases hq; exact ⟨fun N z => ⟨(fun k h => by cases h), kJ, fJ2, cmJ, fJ3⟩, fJ1⟩
    | 2, hq => cases hq; exact ⟨fun N z => ⟨(fun k h => by cases h), kZ, fZ2, cmZ, fZ3⟩, fZ1⟩
    | k + 3, hq => simp at hq
