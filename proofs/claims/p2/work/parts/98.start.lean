/-! ===== the law, from its entry ===== -/
def lw_adr (l : List Nat) (ad adK adV : Nat → Nat) (xq : Nat) : Nat → Nat := fun k => if k < 73 then l.getD k 0 else if k < 82 then ad (k - 73) else if k < 92 then adK (k - 82) else if k < 102 then adV (k - 92) else xq
theorem lw_En {E d : String} {nm : List String} {F : List (String × String × String × List Int32)} {ad ad' : Nat → Nat} {A : Nat → Prop} {U : State} {H : Heap} (h : va_En E d nm F ad A U H) (he : ∀ i, i < nm.length → ad' i = ad i) : va_En E d nm F ad' A U H :=
  ⟨fun i hi => by rw [he i hi]; exact h.1 i hi, fun i j hi hj e => h.2 i j hi hj (by rw [← he i hi, ← he j hj]; exact e)⟩
theorem lw_vS {N : Nat} {len : List Nat} {byt : List (List Int32)} {k1 k2 v1 v2 : Nat → Nat} {A : Nat → Prop} {U : State} {H : Heap} (h : vk_S N len byt k1 v1 A U H) (he : ∀ i, i < N → k2 i = k1 i) (hv : ∀ i, i < N → v2 i = v1 i) : vk_S N len byt k2 v2 A U H :=
  ⟨fun i hi => by rw [he i hi, hv i hi]; exact h.1 i hi, fun i j hi hj e => h.2 i j hi hj (by rw [← he i hi, ← he j hj]; exact e)⟩
theorem lw_a1 {l : List Nat} {ad adK adV : Nat → Nat} {xq i : Nat} (h : i < 9) : lw_adr l ad adK adV xq (tt_EN + i) = ad i := by
  show (if 73 + i < 73 then _ else _) = _
  rw [if_neg (by omega), if_pos (by omega), Nat.add_sub_cancel_left]
theorem lw_a2 {l : List Nat} {ad adK adV : Nat → Nat} {xq i : Nat} (h : i < 10) : lw_adr l ad adK adV xq (tt_ST + i) = adK i := by
  show (if 82 + i < 73 then _ else _) = _
  rw [if_neg (by omega), if_neg (by omega), if_pos (by omega), Nat.add_sub_cancel_left]
theorem lw_a3 {l : List Nat} {ad adK adV : Nat → Nat} {xq i : Nat} (h : i < 10) : lw_adr l ad adK adV xq (tt_SV + i) = adV i := by
  show (if 92 + i < 73 then _ else _) = _
  rw [if_neg (by omega), if_neg (by omega), if_neg (by omega), if_pos (by omega), Nat.add_sub_cancel_left]
theorem lw_f10 : ∀ q ∈ tt_ldc, tt_ST ≤ q.2.2.2 ∧ q.2.2.2 < tt_SV := by decide +kernel
theorem lw_mk {s : State} {l : List Nat} {ad adK adV : Nat → Nat} {xq : Nat} {D : va_G} {dA : Nat → ClassId} {σ : tm_S} (hC : lw_C ad adK adV xq s) (hK : va_K D tt_cl (tm_ty dA) s) (hD : va_D (fun q : Nat => s.heap.size ≤ q) (tm_w (lw_adr l ad adK adV xq) dA σ)) : lw_F s (lw_adr l ad adK adV xq) D dA := by
  obtain ⟨h1, h2, h3, h4, h5, h6, h7⟩ := hC
  have hw : ∀ k : Nat, k < tt_NP → ∃ e : va_E, (tm_w (lw_adr l ad adK adV xq) dA σ)[k]? = some (lw_adr l ad adK adV xq k, e) := fun k hk => ⟨_, tm_w_get (List.getElem?_eq_getElem (Nat.lt_of_lt_of_eq hk tt_NP_eq))⟩
  have hge : ∀ k : Nat, k < tt_NP → s.heap.size ≤ lw_adr l ad adK adV xq k := fun k hk => by
    obtain ⟨e, he⟩ := hw k hk
    exact hD.2 k _ he
  have hlt : ∀ i : Nat, i < 9 → ad i < s.heap.size := fun i hi => by
    obtain ⟨cell, g1, -⟩ := (h1.1 i hi).2.1
    exact (Array.getElem?_eq_some_iff.mp g1).1
  refine ⟨hK, fun i j hi hj e => ?_, ⟨lw_En h1 (fun i hi => lw_a1 hi), lw_vS h2 (fun i hi => lw_a2 hi) (fun i hi => lw_a3 hi), h3, h4, fun q hq => ?_, h6⟩, hge⟩
  · by_cases ci : i < tt_NP
    · by_cases cj : j < tt_NP
      · obtain ⟨e1, g1⟩ := hw i ci
        obtain ⟨e2, g2⟩ := hw j cj
        exact hD.1 i j _ _ g1 g2 e
      · obtain ⟨j2, rfl⟩ : ∃ j2, j = tt_EN + j2 := ⟨j - 73, by show j = 73 + (j - 73); have : ¬ j < 73 := cj; omega⟩
        have hj2 : j2 < 9 := by have : 73 + j2 < 82 := hj; omega
        rw [lw_a1 hj2] at e
        have q1 := hge i ci
        have q2 := hlt j2 hj2
        omega
    · obtain ⟨i2, rfl⟩ : ∃ i2, i = tt_EN + i2 := ⟨i - 73, by show i = 73 + (i - 73); have : ¬ i < 73 := ci; omega⟩
      have hi2 : i2 < 9 := by have : 73 + i2 < 82 := hi; omega
      rw [lw_a1 hi2] at e
      by_cases cj : j < tt_NP
      · have q1 := hge j cj
        have q2 := hlt i2 hi2
        omega
      · obtain ⟨j2, rfl⟩ : ∃ j2, j = tt_EN + j2 := ⟨j - 73, by show j = 73 + (j - 73); have : ¬ j < 73 := cj; omega⟩
        have hj2 : j2 < 9 := by have : 73 + j2 < 82 := hj; omega
        rw [lw_a1 hj2] at e
        rw [h1.2 i2 j2 hi2 hj2 e]
  · obtain ⟨g1, g2⟩ := lw_f10 q hq
    have e : lw_adr l ad adK adV xq q.2.2.2 = adK (q.2.2.2 - tt_ST) := by
      have g3 : 82 ≤ q.2.2.2 := g1
      have g4 : q.2.2.2 < 92 := g2
      show (if q.2.2.2 < 73 then _ else _) = _
      rw [if_neg (by omega), if_neg (by omega), if_pos (by omega)]
      rfl
    rw [e]
    exact h5 q hq
theorem lw_goodI {y : MethodName} {cc : ByteArray} {i : Nat} (h : tb_w i (Cond.code y cc 1 none) = true) : GoodIn lw_tbl (tt_wi y cc) := by
  intro w hw
  have hm : w ∈ tm_tbl := by
    rcases List.mem_cons.mp hw with rfl | hm
    · exact tb_w_in h
    · exact hm
  exact ⟨(List.mem_filter.mp hm).1, (tm_tbl_good w hm).2⟩
set_option maxHeartbeats 4000000 in
set_option maxRecDepth 100000 in
theorem lw_kn {args : Array Value} {s : State} (hts : ∀ w ∈ lw_tbl, w.before args s = true) : ∃ (D : va_G) (cI cJ cZ : ClassId), va_K D tt_cl [(cI, .int), (cJ, .long), (cZ, .boolean)] s := by
  obtain ⟨c0, iS0, hKn0⟩ := u_known (C := tt_R0) (T := tt_T0) (N := 9) (n := 9) hts (fun w hw => (tt_in0 w hw).1) (hts _ (List.mem_of_getElem? (i := 102) (by decide +kernel)))
  obtain ⟨c1, iS1, hKn1⟩ := u_known (C := tt_R1) (T := tt_T1) (N := 3) (n := 3) hts (fun w hw => (tt_in1 w hw).1) (hts _ (List.mem_of_getElem? (i := 110) (by decide +kernel)))
  obtain ⟨c2, iS2, hKn2⟩ := u_known (C := tt_R2) (T := tt_T2) (N := 6) (n := 6) hts (fun w hw => (tt_in2 w hw).1) (hts _ (List.mem_of_getElem? (i := 130) (by decide +kernel)))
  obtain ⟨c3, iS3, hKn3⟩ := u_known (C := tt_R3) (T := tt_T3) (N := 3) (n := 3) hts (fun w hw => (tt_in3 w hw).1) (hts _ (List.mem_of_getElem? (i := 155) (by decide +kernel)))
  obtain ⟨c4, iS4, hKn4⟩ := u_known (C := tt_R4) (T := tt_T4) (N := 5) (n := 5) hts (fun w hw => (tt_in4 w hw).1) (hts _ (List.mem_of_getElem? (i := 171) (by decide +kernel)))
  obtain ⟨c5, iS5, hKn5⟩ := u_known (C := tt_R5) (T := tt_T5) (N := 5) (n := 5) hts (fun w hw => (tt_in5 w hw).1) (hts _ (List.mem_of_getElem? (i := 194) (by decide +kernel)))
  obtain ⟨c6, iS6, hKn6⟩ := u_known (C := tt_R6) (T := tt_T6) (N := 9) (n := 9) hts (fun w hw => (tt_in6 w hw).1) (hts _ (List.mem_of_getElem? (i := 216) (by decide +kernel)))
  obtain ⟨c7, iS7, hKn7⟩ := u_known (C := tt_R7) (T := tt_T7) (N := 2) (n := 2) hts (fun w hw => (tt_in7 w hw).1) (hts _ (List.mem_of_getElem? (i := 222) (by decide +kernel)))
  obtain ⟨c8, iS8, hKn8⟩ := u_known (C := tt_R8) (T := tt_T8) (N := 8) (n := 8) hts (fun w hw => (tt_in8 w hw).1) (hts _ (List.mem_of_getElem? (i := 235) (by decide +kernel)))
  obtain ⟨c9, iS9, hKn9⟩ := u_known (C := tt_R9) (T := tt_T9) (N := 49) (n := 49) hts (fun w hw => (tt_in9 w hw).1) (hts _ (List.mem_of_getElem? (i := 1084) (by decide +kernel)))
  obtain ⟨cI, kI, cmI, fI1, fI2, fI3⟩ := Cond.arrayClass_spec (hts (Cond.arrayClass .int) (List.mem_of_getElem? (i := 127) (by decide +kernel)))
  obtain ⟨cJ, kJ, cmJ, fJ1, fJ2, fJ3⟩ := Cond.arrayClass_spec (hts (Cond.arrayClass .long) (List.mem_of_getElem? (i := 192) (by decide +kernel)))
  obtain ⟨cZ, kZ, cmZ, fZ1, fZ2, fZ3⟩ := Cond.arrayClass_spec (hts (Cond.arrayClass .boolean) (List.mem_of_getElem? (i := 128) (by decide +kernel)))
  refine ⟨(fun k => match k with | 0 => c0 | 1 => c1 | 2 => c2 | 3 => c3 | 4 => c4 | 5 => c5 | 6 => c6 | 7 => c7 | 8 => c8 | _ => c9, fun k => match k with | 0 => iS0 | 1 => iS1 | 2 => iS2 | 3 => iS3 | 4 => iS4 | 5 => iS5 | 6 => iS6 | 7 => iS7 | 8 => iS8 | _ => iS9), cI, cJ, cZ, fun k q hq => ?_, fun k q hq => ?_⟩
  · match k, hq with
    | 0, hq => cases hq; exact hKn0
    | 1, hq => cases hq; exact hKn1
    | 2, hq => cases hq; exact hKn2
    | 3, hq => cases hq; exact hKn3
    | 4, hq => cases hq; exact hKn4
    | 5, hq => cases hq; exact hKn5
    | 6, hq => cases hq; exact hKn6
    | 7, hq => cases hq; exact hKn7
    | 8, hq => cases hq; exact hKn8
    | 9, hq => cases hq; exact hKn9
    | k + 10, hq => simp [tt_cl] at hq
  · match k, hq with
    | 0, hq => cases hq; exact ⟨fun N z => ⟨fun k h => by cases h, kI, fI2, cmI, fI3⟩, fI1⟩
    | 1, hq => cases hq; exact ⟨fun N z => ⟨fun k h => by cases h, kJ, fJ2, cmJ, fJ3⟩, fJ1⟩
    | 2, hq => cases hq; exact ⟨fun N z => ⟨fun k h => by cases h, kZ, fZ2, cmZ, fZ3⟩, fZ1⟩
    | k + 3, hq => simp at hq
set_option maxHeartbeats 8000000 in
set_option maxRecDepth 100000 in
theorem lw_perm {D : va_G} {H : Heap} {A : Nat → Prop} {a ad adK adV : Nat → Nat} {xq qM q14 q22 q30 q39 q48 q57 q66 q74 q82 q91 q99 q108 q116 q124 q132 q140 q148 q156 q164 q172 q180 q188 q197 q206 q219 q227 q235 q243 q251 q259 : Nat} {cI cJ cZ c3 : ClassId} {g : Nat → Int64} (hP : va_P D tt_cl (tw_X a cI cJ cZ c3 g (ad 7) ++ [(qM, .inr (9, [.int 0, .int 12, .ref q14, .ref q22, .ref q30, .ref q39, .ref q48, .ref q57, .ref q66, .ref q74, .ref q82, .int 0, .int 0, .ref q91, .ref q99, .int 0, .int 0, .int 0, .ref q108, .ref q116, .ref q124, .ref q132, .ref q140, .int 0, .ref q148, .ref q156, .int 0, .ref q164, .ref q172, .ref q180, .ref q188, .ref q197, .int 0, .ref q206, .int 0, .int 0, .int 0, .int 0, .int 0, .int 0, .int (-1), .int 0, .int 0, .ref q219, .ref q227, .ref q235, .ref q243, .ref q251, .ref q259])), (q14, .inl (cZ, 4096, .inl (fun _ => 0))), (q22, .inl (cI, 12, .inl (fun _ => 0))), (q30, .inl (cI, 12, .inl (fun _ => 0))), (q39, .inl (cI, 4096, .inl (fun _ => 0))), (q48, .inl (cI, 4096, .inl (fun _ => 0))), (q57, .inl (cI, 4096, .inl (fun _ => 0))), (q66, .inl (cI, 4096, .inl (fun _ => 0))), (q74, .inl (cZ, 6, .inl (fun _ => 0))), (q82, .inl (cI, 72, .inl (fun _ => 0))), (q91, .inl (cJ, 4000, .inr (.inl (fun _ => 0)))), (q99, .inl (cI, 13, .inl (fun _ => 0))), (q108, .inl (cI, 8192, .inl (fun _ => 0))), (q116, .inl (cI, 25, .inl (fun _ => 0))), (q124, .inl (cI, 25, .inl (fun _ => 0))), (q132, .inl (cI, 25, .inl (fun _ => 0))), (q140, .inl (cI, 25, .inl (fun _ => 0))), (q148, .inl (cI, 6, .inl (fun _ => 0))), (q156, .inl (cI, 72, .inl (fun _ => 0))), (q164, .inl (cI, 8, .inl (fun _ => 0))), (q172, .inl (cI, 8, .inl (fun _ => 0))), (q180, .inl (cI, 8, .inl (fun _ => 0))), (q188, .inl (cI, 8, .inl (fun _ => 0))), (q197, .inl (cI, 800, .inl (fun _ => 0))), (q206, .inl (cI, 1000, .inl (fun _ => 0))), (q219, .inl (cI, 6, .inl (fun _ => 0))), (q227, .inl (cI, 72, .inl (fun _ => 0))), (q235, .inl (cI, 8, .inl (fun _ => 0))), (q243, .inl (cI, 8, .inl (fun _ => 0))), (q251, .inl (cI, 8, .inl (fun _ => 0))), (q259, .inl (cI, 8, .inl (fun _ => 0)))]) H) (hD : va_D A (tw_X a cI cJ cZ c3 g (ad 7) ++ [(qM, .inr (9, [.int 0, .int 12, .ref q14, .ref q22, .ref q30, .ref q39, .ref q48, .ref q57, .ref q66, .ref q74, .ref q82, .int 0, .int 0, .ref q91, .ref q99, .int 0, .int 0, .int 0, .ref q108, .ref q116, .ref q124, .ref q132, .ref q140, .int 0, .ref q148, .ref q156, .int 0, .ref q164, .ref q172, .ref q180, .ref q188, .ref q197, .int 0, .ref q206, .int 0, .int 0, .int 0, .int 0, .int 0, .int 0, .int (-1), .int 0, .int 0, .ref q219, .ref q227, .ref q235, .ref q243, .ref q251, .ref q259])), (q14, .inl (cZ, 4096, .inl (fun _ => 0))), (q22, .inl (cI, 12, .inl (fun _ => 0))), (q30, .inl (cI, 12, .inl (fun _ => 0))), (q39, .inl (cI, 4096, .inl (fun _ => 0))), (q48, .inl (cI, 4096, .inl (fun _ => 0))), (q57, .inl (cI, 4096, .inl (fun _ => 0))), (q66, .inl (cI, 4096, .inl (fun _ => 0))), (q74, .inl (cZ, 6, .inl (fun _ => 0))), (q82, .inl (cI, 72, .inl (fun _ => 0))), (q91, .inl (cJ, 4000, .inr (.inl (fun _ => 0)))), (q99, .inl (cI, 13, .inl (fun _ => 0))), (q108, .inl (cI, 8192, .inl (fun _ => 0))), (q116, .inl (cI, 25, .inl (fun _ => 0))), (q124, .inl (cI, 25, .inl (fun _ => 0))), (q132, .inl (cI, 25, .inl (fun _ => 0))), (q140, .inl (cI, 25, .inl (fun _ => 0))), (q148, .inl (cI, 6, .inl (fun _ => 0))), (q156, .inl (cI, 72, .inl (fun _ => 0))), (q164, .inl (cI, 8, .inl (fun _ => 0))), (q172, .inl (cI, 8, .inl (fun _ => 0))), (q180, .inl (cI, 8, .inl (fun _ => 0))), (q188, .inl (cI, 8, .inl (fun _ => 0))), (q197, .inl (cI, 800, .inl (fun _ => 0))), (q206, .inl (cI, 1000, .inl (fun _ => 0))), (q219, .inl (cI, 6, .inl (fun _ => 0))), (q227, .inl (cI, 72, .inl (fun _ => 0))), (q235, .inl (cI, 8, .inl (fun _ => 0))), (q243, .inl (cI, 8, .inl (fun _ => 0))), (q251, .inl (cI, 8, .inl (fun _ => 0))), (q259, .inl (cI, 8, .inl (fun _ => 0)))])) :
    va_P D tt_cl (tm_w (lw_adr [a 0, a 1, a 2, a 3, a 4, a 5, a 6, a 7, a 8, a 9, a 10, qM, a 12, a 13, a 14, a 15, a 16, a 17, a 18, a 19, a 20, a 21, a 22, a 23, a 24, a 25, a 26, a 27, a 28, a 29, a 30, a 31, a 32, a 33, a 34, a 35, a 36, a 37, a 38, a 39, a 40, a 41, a 42, q14, q22, q30, q39, q48, q57, q66, q74, q82, q91, q99, q108, q116, q124, q132, q140, q148, q156, q164, q172, q180, q188, q197, q206, q219, q227, q235, q243, q251, q259] ad adK adV xq) (fun k => match k with | 0 => cI | 1 => cJ | 2 => cZ | _ => c3) (lw_σ g)) H ∧ va_D A (tm_w (lw_adr [a 0, a 1, a 2, a 3, a 4, a 5, a 6, a 7, a 8, a 9, a 10, qM, a 12, a 13, a 14, a 15, a 16, a 17, a 18, a 19, a 20, a 21, a 22, a 23, a 24, a 25, a 26, a 27, a 28, a 29, a 30, a 31, a 32, a 33, a 34, a 35, a 36, a 37, a 38, a 39, a 40, a 41, a 42, q14, q22, q30, q39, q48, q57, q66, q74, q82, q91, q99, q108, q116, q124, q132, q140, q148, q156, q164, q172, q180, q188, q197, q206, q219, q227, q235, q243, q251, q259] ad adK adV xq) (fun k => match k with | 0 => cI | 1 => cJ | 2 => cZ | _ => c3) (lw_σ g)) := by
  have er : (fun i : Nat => if i < 3 then some (a (14 + i)) else (none : Option Nat)) = fun i => if i < 3 then some ((lw_adr [a 0, a 1, a 2, a 3, a 4, a 5, a 6, a 7, a 8, a 9, a 10, qM, a 12, a 13, a 14, a 15, a 16, a 17, a 18, a 19, a 20, a 21, a 22, a 23, a 24, a 25, a 26, a 27, a 28, a 29, a 30, a 31, a 32, a 33, a 34, a 35, a 36, a 37, a 38, a 39, a 40, a 41, a 42, q14, q22, q30, q39, q48, q57, q66, q74, q82, q91, q99, q108, q116, q124, q132, q140, q148, q156, q164, q172, q180, q188, q197, q206, q219, q227, q235, q243, q251, q259] ad adK adV xq) (14 + i)) else none := by
    funext i
    match i with
    | 0 => rfl
    | 1 => rfl
    | 2 => rfl
    | i + 3 => rw [if_neg (by omega), if_neg (by omega)]
  unfold tw_X at hP hD
  rw [er] at hP hD
  exact ⟨hP.sub [0, 1, 7, 12, 15, 20, 22, 23, 32, 34, 25, 42, 41, 2, 3, 4, 5, 6, 8, 9, 10, 11, 13, 14, 16, 17, 18, 19, 21, 24, 33, 35, 36, 37, 38, 39, 40, 26, 27, 28, 29, 30, 31, 43, 44, 45, 46, 47, 48, 49, 50, 51, 52, 53, 54, 55, 56, 57, 58, 59, 60, 61, 62, 63, 64, 65, 66, 67, 68, 69, 70, 71, 72] rfl, hD.sub [0, 1, 7, 12, 15, 20, 22, 23, 32, 34, 25, 42, 41, 2, 3, 4, 5, 6, 8, 9, 10, 11, 13, 14, 16, 17, 18, 19, 21, 24, 33, 35, 36, 37, 38, 39, 40, 26, 27, 28, 29, 30, 31, 43, 44, 45, 46, 47, 48, 49, 50, 51, 52, 53, 54, 55, 56, 57, 58, 59, 60, 61, 62, 63, 64, 65, 66, 67, 68, 69, 70, 71, 72] (by decide) rfl⟩
set_option maxHeartbeats 8000000 in
set_option maxRecDepth 100000 in
theorem whole_start {p : Program} {e : Env} {s : State} {m : MethodId} {below : List Frame} {meth : Method} {c : Code} (l : Launch) {b L : Nat} {xs : Nat → Int32} (hL : L ≤ 3072) (C0 : lw_At p s m meth c b L xs) : W p l e room_1 s m #[Value.ref b] below meth c s.heap [] 0 0 (lw_Z below #[Value.ref b] s) (entryFrame m ([Value.ref b] : List Value).toArray 4) := by
  obtain ⟨hx, hb, hr, hml, hown, hts, hX, hbl, hlocks, hgv⟩ := id C0
  have hA : ∀ q : Nat, s.heap.size ≤ q → (fun q : Nat => s.heap.size ≤ q) q := fun _ h => h
  obtain ⟨ad, adK, adV, xq, hC⟩ := lw_consts hts hgv
  obtain ⟨D, cI, cJ, cZ, hK⟩ := lw_kn hts
  have hK0 := hK
  have hE : va_Z "ToneHouse$Token" "END" "LToneHouse$Token;" (.ref (ad 7)) (fun q : Nat => s.heap.size ≤ q) s s.heap := (hC.1.1 7 (by decide)).1
  have hN := hC.2.2.2.2.2.1
  have hov := hC.2.2.2.2.2.2
  have hS : va_S (fun q : Nat => s.heap.size ≤ q) s.heap s.heap [] := va_S.rf
  have hP : va_P D tt_cl [] s.heap := fun k q h => by simp at h
  have hD : va_D (fun q : Nat => s.heap.size ≤ q) [] := ⟨fun i j p q h => by simp at h, fun k q h => by simp at h⟩
  have hl := lv_entry ([.ref b]) (n := 4) (Nat.le_of_ble_eq_true rfl)
  rw [lg_entry_eq]
  generalize (lg_sl ([.ref b]) ++ List.replicate (4 - (lg_sl ([.ref b])).length) Slot.unset).toArray = ls at hl ⊢
  have hl : lv_has ls 4 [(0, .ref b)] := hl
  refine va_new (ci := 0) (fs := [.null, .null, .null, .null, .null, .null, .null, .null, .null]) (C := tt_R0) (T := tt_T0) (N := 9) hx hb hts (fun w hw => (tt_in0 w hw).1) tt_ty0 tt_tok0 hown (hts _ (List.mem_of_getElem? (i := 101) (by decide +kernel))) (hts _ (List.mem_of_getElem? (i := 102) (by decide +kernel))) (hts _ (List.mem_of_getElem? (i := 80) (by decide +kernel))) hK hP hD hS hA rfl (fun j hj => match j, hj with | 0, _ => rfl | 1, _ => rfl | 2, _ => rfl | 3, _ => rfl | 4, _ => rfl | 5, _ => rfl | 6, _ => rfl | 7, _ => rfl | 8, _ => rfl | j + 9, hj => absurd hj (by omega)) (Nat.le_of_ble_eq_true rfl) (Nat.le_of_ble_eq_true rfl) tdl_0 (fun qX H hP hD hS => ?_)
  have hP : va_P D tt_cl [(qX, .inr (0, [.null, .null, .null, .null, .null, .null, .null, .null, .null]))] H := hP
  have hD : va_D (fun q : Nat => s.heap.size ≤ q) [(qX, .inr (0, [.null, .null, .null, .null, .null, .null, .null, .null, .null]))] := hD
  refine lv_dup hx hb tdl_3 rfl ?_
  have hPc := hP.sub (ws' := [(qX, .inr (0, [.null, .null, .null, .null, .null, .null, .null, .null, .null]))]) [0] rfl
  have hDc := hD.sub (ws' := [(qX, .inr (0, [.null, .null, .null, .null, .null, .null, .null, .null, .null]))]) [0] (by decide) rfl
  have hFc := va_free (wc := [(qX, .inr (0, [.null, .null, .null, .null, .null, .null, .null, .null, .null]))]) hD hS hA [0] rfl
  refine va_callv (va_runI (As := []) (rest := [.ref qX]) ⟨hx, hb, hml, hown, hts⟩ (ti_0 l D cI cJ cZ (ad 7) qX H.size) ⟨callB_of 0 hts (lw_goodI (i := 105) (by decide +kernel)) rfl rfl rfl (hts _ (List.mem_of_getElem? (i := 80) (by decide +kernel))) (hts _ (List.mem_of_getElem? (i := 103) (by decide +kernel))) ⟨by decide, by decide, by decide +kernel⟩ ⟨Nat.le_of_ble_eq_true rfl, Nat.le_of_ble_eq_true rfl⟩, rfl, (hts _ (List.mem_of_getElem? (i := 104) (by decide +kernel)))⟩ ⟨fun a U g mk q => by obtain ⟨q0, q1, qP, qK, qD, qN, qE, qO⟩ := q; exact ⟨q0, q1, qP, va_K.moved (u := U) (U := U.calling g mk a) (Vm.Alike.refl U.vm) qK, qD, qN.same rfl, va_Z.moved (Vm.Alike.refl U.vm) qE, va_AOA.moved (Vm.Alike.refl U.vm) qO⟩, fun U hU hW => ⟨rfl, by rw [hU], by rw [hU]; exact hPc, va_K.moved hW.alike hK0, hDc.weaken (fun _ _ _ _ => trivial), hN.go hW, by show va_Z _ _ _ _ _ U U.heap; rw [hU]; exact (va_Z.moved hW.alike (hE.kept hS.2.1)).narrow hFc, va_AOA.moved hW.alike hov⟩⟩ rfl rfl hl.1 rfl (lv_room (Nat.le_of_ble_eq_true rfl)) tdl_4 ⟨Nat.le_of_ble_eq_true rfl, Nat.le_of_ble_eq_true rfl⟩) hS (fun q _ h => hFc q h) hFc (fun u t H1 locs ht hvm hw hB hz1 hk1 hS => ?_)
  obtain ⟨a, c3, g, ha0, hg, hP1, hK1, hD1⟩ := hB
  rw [ht] at hP1
  have hK4 := va_K.moved hvm.symm hK1
  obtain ⟨hP, hD⟩ := va_join (wr := []) (w1 := tw_X a cI cJ cZ c3 g (ad 7)) hP hD [0] [] rfl rfl (by decide) (by decide) hk1 hFc hP1 hD1
  generalize H1 = H at hP hS ⊢
  have hP : va_P D tt_cl (tw_X a cI cJ cZ c3 g (ad 7)) H := hP
  have hD : va_D (fun q : Nat => s.heap.size ≤ q) (tw_X a cI cJ cZ c3 g (ad 7)) := hD
  refine lv_astore_n (lv' := [(1, .ref qX), (0, .ref b)]) hx hb tdl_7 rfl hl (by decide) rfl (fun ls hl => ?_)
  refine va_new (ci := 9) (fs := [.int 0, .int 0, .null, .null, .null, .null, .null, .null, .null, .null, .null, .int 0, .int 0, .null, .null, .int 0, .int 0, .int 0, .null, .null, .null, .null, .null, .int 0, .null, .null, .int 0, .null, .null, .null, .null, .null, .int 0, .null, .int 0, .int 0, .int 0, .int 0, .int 0, .int 0, .int 0, .int 0, .int 0, .null, .null, .null, .null, .null, .null]) (C := tt_R9) (T := tt_T9) (N := 49) hx hb hts (fun w hw => (tt_in9 w hw).1) tt_ty9 tt_tok9 hown (hts _ (List.mem_of_getElem? (i := 1083) (by decide +kernel))) (hts _ (List.mem_of_getElem? (i := 1084) (by decide +kernel))) (hts _ (List.mem_of_getElem? (i := 92) (by decide +kernel))) hK hP hD hS hA rfl (fun j hj => match j, hj with | 0, _ => rfl | 1, _ => rfl | 2, _ => rfl | 3, _ => rfl | 4, _ => rfl | 5, _ => rfl | 6, _ => rfl | 7, _ => rfl | 8, _ => rfl | 9, _ => rfl | 10, _ => rfl | 11, _ => rfl | 12, _ => rfl | 13, _ => rfl | 14, _ => rfl | 15, _ => rfl | 16, _ => rfl | 17, _ => rfl | 18, _ => rfl | 19, _ => rfl | 20, _ => rfl | 21, _ => rfl | 22, _ => rfl | 23, _ => rfl | 24, _ => rfl | 25, _ => rfl | 26, _ => rfl | 27, _ => rfl | 28, _ => rfl | 29, _ => rfl | 30, _ => rfl | 31, _ => rfl | 32, _ => rfl | 33, _ => rfl | 34, _ => rfl | 35, _ => rfl | 36, _ => rfl | 37, _ => rfl | 38, _ => rfl | 39, _ => rfl | 40, _ => rfl | 41, _ => rfl | 42, _ => rfl | 43, _ => rfl | 44, _ => rfl | 45, _ => rfl | 46, _ => rfl | 47, _ => rfl | 48, _ => rfl | j + 49, hj => absurd hj (by omega)) (Nat.le_of_ble_eq_true rfl) (Nat.le_of_ble_eq_true rfl) tdl_8 (fun qM H hP hD hS => ?_)
  refine lv_dup hx hb tdl_11 rfl ?_
  have hPc := hP.sub (ws' := [(qM, .inr (9, [.int 0, .int 0, .null, .null, .null, .null, .null, .null, .null, .null, .null, .int 0, .int 0, .null, .null, .int 0, .int 0, .int 0, .null, .null, .null, .null, .null, .int 0, .null, .null, .int 0, .null, .null, .null, .null, .null, .int 0, .null, .int 0, .int 0, .int 0, .int 0, .int 0, .int 0, .int 0, .int 0, .int 0, .null, .null, .null, .null, .null, .null]))]) [42] rfl
  have hDc := hD.sub (ws' := [(qM, .inr (9, [.int 0, .int 0, .null, .null, .null, .null, .null, .null, .null, .null, .null, .int 0, .int 0, .null, .null, .int 0, .int 0, .int 0, .null, .null, .null, .null, .null, .int 0, .null, .null, .int 0, .null, .null, .null, .null, .null, .int 0, .null, .int 0, .int 0, .int 0, .int 0, .int 0, .int 0, .int 0, .int 0, .int 0, .null, .null, .null, .null, .null, .null]))]) [42] (by decide) rfl
  have hFc := va_free (wc := [(qM, .inr (9, [.int 0, .int 0, .null, .null, .null, .null, .null, .null, .null, .null, .null, .int 0, .int 0, .null, .null, .int 0, .int 0, .int 0, .null, .null, .null, .null, .null, .int 0, .null, .null, .int 0, .null, .null, .null, .null, .null, .int 0, .null, .int 0, .int 0, .int 0, .int 0, .int 0, .int 0, .int 0, .int 0, .int 0, .null, .null, .null, .null, .null, .null]))]) hD hS hA [42] rfl
  refine va_callv (va_runI (As := []) (rest := [.ref qM]) ⟨hx, hb, hml, hown, hts⟩ (ti_9 l D cI cJ cZ qM H.size) ⟨callB_of 0 hts (lw_goodI (i := 1087) (by decide +kernel)) rfl rfl rfl (hts _ (List.mem_of_getElem? (i := 92) (by decide +kernel))) (hts _ (List.mem_of_getElem? (i := 1085) (by decide +kernel))) ⟨by decide, by decide, by decide +kernel⟩ ⟨Nat.le_of_ble_eq_true rfl, Nat.le_of_ble_eq_true rfl⟩, rfl, (hts _ (List.mem_of_getElem? (i := 1086) (by decide +kernel)))⟩ ⟨fun a U g mk q => by obtain ⟨q0, q1, qP, qK, qD⟩ := q; exact ⟨q0, q1, qP, va_K.moved (u := U) (U := U.calling g mk a) (Vm.Alike.refl U.vm) qK, qD⟩, fun U hU hW => ⟨rfl, by rw [hU], by rw [hU]; exact hPc, va_K.moved hW.alike hK0, hDc.weaken (fun _ _ _ _ => trivial)⟩⟩ rfl rfl hl.1 rfl (lv_room (Nat.le_of_ble_eq_true rfl)) tdl_12 ⟨Nat.le_of_ble_eq_true rfl, Nat.le_of_ble_eq_true rfl⟩) hS (fun q _ h => hFc q h) hFc (fun u t H1 locs ht hvm hw hB hz1 hk1 hS => ?_)
  obtain ⟨q14, q22, q30, q39, q48, q57, q66, q74, q82, q91, q99, q108, q116, q124, q132, q140, q148, q156, q164, q172, q180, q188, q197, q206, q219, q227, q235, q243, q251, q259, hP1, hK1, hD1⟩ := hB
  rw [ht] at hP1
  obtain ⟨hP, hD⟩ := va_join (wr := tw_X a cI cJ cZ c3 g (ad 7)) (w1 := [(qM, .inr (9, [.int 0, .int 12, .ref q14, .ref q22, .ref q30, .ref q39, .ref q48, .ref q57, .ref q66, .ref q74, .ref q82, .int 0, .int 0, .ref q91, .ref q99, .int 0, .int 0, .int 0, .ref q108, .ref q116, .ref q124, .ref q132, .ref q140, .int 0, .ref q148, .ref q156, .int 0, .ref q164, .ref q172, .ref q180, .ref q188, .ref q197, .int 0, .ref q206, .int 0, .int 0, .int 0, .int 0, .int 0, .int 0, .int (-1), .int 0, .int 0, .ref q219, .ref q227, .ref q235, .ref q243, .ref q251, .ref q259])), (q14, .inl (cZ, 4096, .inl (fun _ => 0))), (q22, .inl (cI, 12, .inl (fun _ => 0))), (q30, .inl (cI, 12, .inl (fun _ => 0))), (q39, .inl (cI, 4096, .inl (fun _ => 0))), (q48, .inl (cI, 4096, .inl (fun _ => 0))), (q57, .inl (cI, 4096, .inl (fun _ => 0))), (q66, .inl (cI, 4096, .inl (fun _ => 0))), (q74, .inl (cZ, 6, .inl (fun _ => 0))), (q82, .inl (cI, 72, .inl (fun _ => 0))), (q91, .inl (cJ, 4000, .inr (.inl (fun _ => 0)))), (q99, .inl (cI, 13, .inl (fun _ => 0))), (q108, .inl (cI, 8192, .inl (fun _ => 0))), (q116, .inl (cI, 25, .inl (fun _ => 0))), (q124, .inl (cI, 25, .inl (fun _ => 0))), (q132, .inl (cI, 25, .inl (fun _ => 0))), (q140, .inl (cI, 25, .inl (fun _ => 0))), (q148, .inl (cI, 6, .inl (fun _ => 0))), (q156, .inl (cI, 72, .inl (fun _ => 0))), (q164, .inl (cI, 8, .inl (fun _ => 0))), (q172, .inl (cI, 8, .inl (fun _ => 0))), (q180, .inl (cI, 8, .inl (fun _ => 0))), (q188, .inl (cI, 8, .inl (fun _ => 0))), (q197, .inl (cI, 800, .inl (fun _ => 0))), (q206, .inl (cI, 1000, .inl (fun _ => 0))), (q219, .inl (cI, 6, .inl (fun _ => 0))), (q227, .inl (cI, 72, .inl (fun _ => 0))), (q235, .inl (cI, 8, .inl (fun _ => 0))), (q243, .inl (cI, 8, .inl (fun _ => 0))), (q251, .inl (cI, 8, .inl (fun _ => 0))), (q259, .inl (cI, 8, .inl (fun _ => 0)))]) hP hD [42] [0, 1, 2, 3, 4, 5, 6, 7, 8, 9, 10, 11, 12, 13, 14, 15, 16, 17, 18, 19, 20, 21, 22, 23, 24, 25, 26, 27, 28, 29, 30, 31, 32, 33, 34, 35, 36, 37, 38, 39, 40, 41] rfl rfl (by decide) (by decide) hk1 hFc hP1 hD1
  generalize H1 = H at hP hS ⊢
  refine lv_astore_n (lv' := [(2, .ref qM), (1, .ref qX), (0, .ref b)]) hx hb tdl_15 rfl hl (by decide) rfl (fun ls hl => ?_)
  refine lv_iconst (v := 0) hx hb tdl_16 (by decide) ?_
  refine lv_istore_n (lv' := [(3, .int 0), (2, .ref qM), (1, .ref qX), (0, .ref b)]) hx hb tdl_17 rfl hl (by decide) rfl (fun ls hl => ?_)
  refine W.widen (k := 100) (n := 80000) (Nat.le_of_ble_eq_true rfl) (Nat.le_of_ble_eq_true rfl) ?_
  obtain ⟨hP2, hD2⟩ := lw_perm (adK := adK) (adV := adV) (xq := xq) hP hD
  have F := lw_mk hC (dA := fun k => match k with | 0 => cI | 1 => cJ | 2 => cZ | _ => c3) (σ := lw_σ g) (D := D) hK4 hD2
  have hl : lv_has ls 4 [(3, .int (nI 0)), (2, .ref ((lw_adr [a 0, a 1, a 2, a 3, a 4, a 5, a 6, a 7, a 8, a 9, a 10, qM, a 12, a 13, a 14, a 15, a 16, a 17, a 18, a 19, a 20, a 21, a 22, a 23, a 24, a 25, a 26, a 27, a 28, a 29, a 30, a 31, a 32, a 33, a 34, a 35, a 36, a 37, a 38, a 39, a 40, a 41, a 42, q14, q22, q30, q39, q48, q57, q66, q74, q82, q91, q99, q108, q116, q124, q132, q140, q148, q156, q164, q172, q180, q188, q197, q206, q219, q227, q235, q243, q251, q259] ad adK adV xq) 11)), (1, .ref ((lw_adr [a 0, a 1, a 2, a 3, a 4, a 5, a 6, a 7, a 8, a 9, a 10, qM, a 12, a 13, a 14, a 15, a 16, a 17, a 18, a 19, a 20, a 21, a 22, a 23, a 24, a 25, a 26, a 27, a 28, a 29, a 30, a 31, a 32, a 33, a 34, a 35, a 36, a 37, a 38, a 39, a 40, a 41, a 42, q14, q22, q30, q39, q48, q57, q66, q74, q82, q91, q99, q108, q116, q124, q132, q140, q148, q156, q164, q172, q180, q188, q197, q206, q219, q227, q235, q243, q251, q259] ad adK adV xq) 0)), (0, .ref b)] := by
    have e0 : ((lw_adr [a 0, a 1, a 2, a 3, a 4, a 5, a 6, a 7, a 8, a 9, a 10, qM, a 12, a 13, a 14, a 15, a 16, a 17, a 18, a 19, a 20, a 21, a 22, a 23, a 24, a 25, a 26, a 27, a 28, a 29, a 30, a 31, a 32, a 33, a 34, a 35, a 36, a 37, a 38, a 39, a 40, a 41, a 42, q14, q22, q30, q39, q48, q57, q66, q74, q82, q91, q99, q108, q116, q124, q132, q140, q148, q156, q164, q172, q180, q188, q197, q206, q219, q227, q235, q243, q251, q259] ad adK adV xq) 0) = qX := ha0
    rw [e0]
    exact hl
  exact lw_loop hL C0 F (L + 7) 0 (Nat.zero_le _) (by omega) 12 (lw_σ g) H locs ls hl (lw_IV hg) hP2 hS
