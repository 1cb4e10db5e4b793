/-! ===== the switch, the loop ===== -/
set_option maxHeartbeats 4000000 in
set_option maxRecDepth 100000 in
theorem lw_switch {p : Program} {l : Launch} {e : Env} {s : State} {m : MethodId} {below : List Frame} {meth : Method} {c : Code} {b L : Nat} {xs : Nat → Int32} {H : Heap} {locs : List Loc} {adr : Nat → Nat} {D : va_G} {dA : Nat → ClassId} {ls : Array Slot} {σ : tm_S} {n : Nat} {iv : Int32} {xv : Int32} (C0 : lw_At p s m meth c b L xs) (F : lw_F s adr D dA) (hl : lv_has ls 4 [(3, .int iv), (2, .ref (adr 11)), (1, .ref (adr 0)), (0, .ref b)]) (v1 : vp_in (iv + 1) L) (v2 : vp_in (iv + 2) L) (v3 : vp_in (iv + 3) L) (v4 : vp_in (iv + 4) L) (v5 : vp_in (iv + 5) L) (hI : th_I4 n σ) (hP : va_P D tt_cl (tm_w adr dA σ) H) (hS : va_S (fun q : Nat => s.heap.size ≤ q) s.heap H locs) (K : lw_G p l e s m below meth c b adr D dA ls) :
    W p l e room_1 s m #[Value.ref b] below meth c H locs 100 80000 (lw_Z below #[Value.ref b] s) (F0 m 33 ls [.int xv]) := by
  obtain ⟨hx, hb, hr, hml, hown, hts, hX, hbl, hlocks, hgv⟩ := id C0
  by_cases h0 : xv.toInt < 0 ∨ 35 < xv.toInt
  · exact lv_tableOut (tgt := 1360) hx hb tdl_33 h0 (by decide) (K n σ H locs hI hP hS)
  · have ha : ¬ xv.toInt < 0 := fun h => h0 (Or.inl h)
    have hz : ¬ 35 < xv.toInt := fun h => h0 (Or.inr h)
    by_cases h1 : xv.toInt = 0
    · exact lv_tableIn (off := 159) (tgt := 192) hx hb tdl_33 ha hz (by rw [h1]; first | rfl | decide) (by decide) (lw_c0 C0 F hl v1 v2 v3 v4 v5 hI hP hS K)
    by_cases h2 : xv.toInt = 1
    · exact lv_tableIn (off := 182) (tgt := 215) hx hb tdl_33 ha hz (by rw [h2]; first | rfl | decide) (by decide) (lw_c1 C0 F hl v1 v2 v3 v4 v5 hI hP hS K)
    by_cases h3 : xv.toInt = 2
    · exact lv_tableIn (off := 225) (tgt := 258) hx hb tdl_33 ha hz (by rw [h3]; first | rfl | decide) (by decide) (lw_c2 C0 F hl v1 v2 v3 v4 v5 hI hP hS K)
    by_cases h4 : xv.toInt = 3
    · exact lv_tableIn (off := 258) (tgt := 291) hx hb tdl_33 ha hz (by rw [h4]; first | rfl | decide) (by decide) (lw_c3 C0 F hl v1 v2 v3 v4 v5 hI hP hS K)
    by_cases h5 : xv.toInt = 4
    · exact lv_tableIn (off := 301) (tgt := 334) hx hb tdl_33 ha hz (by rw [h5]; first | rfl | decide) (by decide) (lw_c4 C0 F hl v1 v2 v3 v4 v5 hI hP hS K)
    by_cases h6 : xv.toInt = 5
    · exact lv_tableIn (off := 334) (tgt := 367) hx hb tdl_33 ha hz (by rw [h6]; first | rfl | decide) (by decide) (lw_c5 C0 F hl v1 v2 v3 v4 v5 hI hP hS K)
    by_cases h7 : xv.toInt = 6
    · exact lv_tableIn (off := 377) (tgt := 410) hx hb tdl_33 ha hz (by rw [h7]; first | rfl | decide) (by decide) (lw_c6 C0 F hl v1 v2 v3 v4 v5 hI hP hS K)
    by_cases h8 : xv.toInt = 7
    · exact lv_tableIn (off := 410) (tgt := 443) hx hb tdl_33 ha hz (by rw [h8]; first | rfl | decide) (by decide) (lw_c7 C0 F hl v1 v2 v3 v4 v5 hI hP hS K)
    by_cases h9 : xv.toInt = 8
    · exact lv_tableIn (off := 433) (tgt := 466) hx hb tdl_33 ha hz (by rw [h9]; first | rfl | decide) (by decide) (lw_c8 C0 F hl v1 v2 v3 v4 v5 hI hP hS K)
    by_cases h10 : xv.toInt = 9
    · exact lv_tableIn (off := 476) (tgt := 509) hx hb tdl_33 ha hz (by rw [h10]; first | rfl | decide) (by decide) (lw_c9 C0 F hl v1 v2 v3 v4 v5 hI hP hS K)
    by_cases h11 : xv.toInt = 10
    · exact lv_tableIn (off := 519) (tgt := 552) hx hb tdl_33 ha hz (by rw [h11]; first | rfl | decide) (by decide) (lw_c10 C0 F hl v1 v2 v3 v4 v5 hI hP hS K)
    by_cases h12 : xv.toInt = 11
    · exact lv_tableIn (off := 552) (tgt := 585) hx hb tdl_33 ha hz (by rw [h12]; first | rfl | decide) (by decide) (lw_c11 C0 F hl v1 v2 v3 v4 v5 hI hP hS K)
    by_cases h13 : xv.toInt = 12
    · exact lv_tableIn (off := 615) (tgt := 648) hx hb tdl_33 ha hz (by rw [h13]; first | rfl | decide) (by decide) (lw_c12 C0 F hl v1 v2 v3 v4 v5 hI hP hS K)
    by_cases h14 : xv.toInt = 13
    · exact lv_tableIn (off := 668) (tgt := 701) hx hb tdl_33 ha hz (by rw [h14]; first | rfl | decide) (by decide) (lw_c13 C0 F hl v1 v2 v3 v4 v5 hI hP hS K)
    by_cases h15 : xv.toInt = 14
    · exact lv_tableIn (off := 701) (tgt := 734) hx hb tdl_33 ha hz (by rw [h15]; first | rfl | decide) (by decide) (lw_c14 C0 F hl v1 v2 v3 v4 v5 hI hP hS K)
    by_cases h16 : xv.toInt = 15
    · exact lv_tableIn (off := 734) (tgt := 767) hx hb tdl_33 ha hz (by rw [h16]; first | rfl | decide) (by decide) (lw_c15 C0 F hl v1 v2 v3 v4 v5 hI hP hS K)
    by_cases h17 : xv.toInt = 16
    · exact lv_tableIn (off := 767) (tgt := 800) hx hb tdl_33 ha hz (by rw [h17]; first | rfl | decide) (by decide) (lw_c16 C0 F hl v1 v2 v3 v4 v5 hI hP hS K)
    by_cases h18 : xv.toInt = 17
    · exact lv_tableIn (off := 780) (tgt := 813) hx hb tdl_33 ha hz (by rw [h18]; first | rfl | decide) (by decide) (lw_c17 C0 F hl v1 v2 v3 v4 v5 hI hP hS K)
    by_cases h19 : xv.toInt = 18
    · exact lv_tableIn (off := 813) (tgt := 846) hx hb tdl_33 ha hz (by rw [h19]; first | rfl | decide) (by decide) (lw_c18 C0 F hl v1 v2 v3 v4 v5 hI hP hS K)
    by_cases h20 : xv.toInt = 19
    · exact lv_tableIn (off := 836) (tgt := 869) hx hb tdl_33 ha hz (by rw [h20]; first | rfl | decide) (by decide) (lw_c19 C0 F hl v1 v2 v3 v4 v5 hI hP hS K)
    by_cases h21 : xv.toInt = 20
    · exact lv_tableIn (off := 869) (tgt := 902) hx hb tdl_33 ha hz (by rw [h21]; first | rfl | decide) (by decide) (lw_c20 C0 F hl v1 v2 v3 v4 v5 hI hP hS K)
    by_cases h22 : xv.toInt = 21
    · exact lv_tableIn (off := 912) (tgt := 945) hx hb tdl_33 ha hz (by rw [h22]; first | rfl | decide) (by decide) (lw_c21 C0 F hl v1 v2 v3 v4 v5 hI hP hS K)
    by_cases h23 : xv.toInt = 22
    · exact lv_tableIn (off := 945) (tgt := 978) hx hb tdl_33 ha hz (by rw [h23]; first | rfl | decide) (by decide) (lw_c22 C0 F hl v1 v2 v3 v4 v5 hI hP hS K)
    by_cases h24 : xv.toInt = 23
    · exact lv_tableIn (off := 978) (tgt := 1011) hx hb tdl_33 ha hz (by rw [h24]; first | rfl | decide) (by decide) (lw_c23 C0 F hl v1 v2 v3 v4 v5 hI hP hS K)
    by_cases h25 : xv.toInt = 24
    · exact lv_tableIn (off := 1041) (tgt := 1074) hx hb tdl_33 ha hz (by rw [h25]; first | rfl | decide) (by decide) (lw_c24 C0 F hl v1 v2 v3 v4 v5 hI hP hS K)
    by_cases h26 : xv.toInt = 25
    · exact lv_tableIn (off := 1064) (tgt := 1097) hx hb tdl_33 ha hz (by rw [h26]; first | rfl | decide) (by decide) (lw_c25 C0 F hl v1 v2 v3 v4 v5 hI hP hS K)
    by_cases h27 : xv.toInt = 26
    · exact lv_tableIn (off := 1077) (tgt := 1110) hx hb tdl_33 ha hz (by rw [h27]; first | rfl | decide) (by decide) (lw_c26 C0 F hl v1 v2 v3 v4 v5 hI hP hS K)
    by_cases h28 : xv.toInt = 27
    · exact lv_tableIn (off := 1100) (tgt := 1133) hx hb tdl_33 ha hz (by rw [h28]; first | rfl | decide) (by decide) (lw_c27 C0 F hl v1 v2 v3 v4 v5 hI hP hS K)
    by_cases h29 : xv.toInt = 28
    · exact lv_tableIn (off := 1123) (tgt := 1156) hx hb tdl_33 ha hz (by rw [h29]; first | rfl | decide) (by decide) (lw_c28 C0 F hl v1 v2 v3 v4 v5 hI hP hS K)
    by_cases h30 : xv.toInt = 29
    · exact lv_tableIn (off := 1156) (tgt := 1189) hx hb tdl_33 ha hz (by rw [h30]; first | rfl | decide) (by decide) (lw_c29 C0 F hl v1 v2 v3 v4 v5 hI hP hS K)
    by_cases h31 : xv.toInt = 30
    · exact lv_tableIn (off := 1189) (tgt := 1222) hx hb tdl_33 ha hz (by rw [h31]; first | rfl | decide) (by decide) (lw_c30 C0 F hl v1 v2 v3 v4 v5 hI hP hS K)
    by_cases h32 : xv.toInt = 31
    · exact lv_tableIn (off := 1212) (tgt := 1245) hx hb tdl_33 ha hz (by rw [h32]; first | rfl | decide) (by decide) (lw_c31 C0 F hl v1 v2 v3 v4 v5 hI hP hS K)
    by_cases h33 : xv.toInt = 32
    · exact lv_tableIn (off := 1245) (tgt := 1278) hx hb tdl_33 ha hz (by rw [h33]; first | rfl | decide) (by decide) (lw_c32 C0 F hl v1 v2 v3 v4 v5 hI hP hS K)
    by_cases h34 : xv.toInt = 33
    · exact lv_tableIn (off := 1278) (tgt := 1311) hx hb tdl_33 ha hz (by rw [h34]; first | rfl | decide) (by decide) (lw_c33 C0 F hl v1 v2 v3 v4 v5 hI hP hS K)
    by_cases h35 : xv.toInt = 34
    · exact lv_tableIn (off := 1291) (tgt := 1324) hx hb tdl_33 ha hz (by rw [h35]; first | rfl | decide) (by decide) (lw_c34 C0 F hl v1 v2 v3 v4 v5 hI hP hS K)
    by_cases h36 : xv.toInt = 35
    · exact lv_tableIn (off := 1314) (tgt := 1347) hx hb tdl_33 ha hz (by rw [h36]; first | rfl | decide) (by decide) (lw_c35 C0 F hl v1 v2 v3 v4 v5 hI hP hS K)
    exfalso
    omega
set_option maxHeartbeats 4000000 in
set_option maxRecDepth 100000 in
theorem lw_loop {p : Program} {l : Launch} {e : Env} {s : State} {m : MethodId} {below : List Frame} {meth : Method} {c : Code} {b L : Nat} {xs : Nat → Int32} {adr : Nat → Nat} {D : va_G} {dA : Nat → ClassId} (hL : L ≤ 3072) (C0 : lw_At p s m meth c b L xs) (F : lw_F s adr D dA) :
    ∀ (f i : Nat), i ≤ L + 6 → L + 7 ≤ i + f → ∀ (n : Nat) (σ : tm_S) (H : Heap) (locs : List Loc) (ls : Array Slot), lv_has ls 4 [(3, .int (nI i)), (2, .ref (adr 11)), (1, .ref (adr 0)), (0, .ref b)] → th_I4 n σ → va_P D tt_cl (tm_w adr dA σ) H → va_S (fun q : Nat => s.heap.size ≤ q) s.heap H locs →
    W p l e room_1 s m #[Value.ref b] below meth c H locs 100 80000 (lw_Z below #[Value.ref b] s) (F0 m 18 ls []) := by
  obtain ⟨hx, hb, hr, hml, hown, hts, hX, hbl, hlocks, hgv⟩ := id C0
  have hbA : ¬ (fun q : Nat => s.heap.size ≤ q) b := Nat.not_le.mpr hbl
  intro f
  induction f with
  | zero => intro i h1 h2; exact absurd h2 (by omega)
  | succ f ih =>
    intro i hi hf n σ H locs ls hl hI hP hS
    refine lv_iload_n hx hb tdl_18 rfl (lv_at hl 0 rfl) ?_
    refine lv_aload_n hx hb tdl_19 rfl (lv_at hl 3 rfl) ?_
    refine va_slen hx hb hX hbl hbA hS tdl_20 ?_
    refine lv_bipush (v := 6) hx hb tdl_21 (by decide) ?_
    refine lv_isub hx hb tdl_23 ?_
    have e1 : (Int32.ofNat L - 6).toInt = (L : Int) - 6 := by
      have e2 : (Int32.ofNat L).toInt = (L : Int) := nI_toInt (by omega)
      have e6 : (6 : Int32).toInt = 6 := by decide
      rw [tn_sub (by rw [e2, e6]; omega) (by rw [e2, e6]; omega), e2, e6]
    have e3 := nI_toInt (n := i) (by omega)
    refine lv_icmp_gt (tgt := 1366) hx hb tdl_24 (by decide) (fun h => ?_) (fun h => ?_)
    · refine lv_iconst (v := 1) hx hb tdl_1366 (by decide) ?_
      refine va_forget (fun q hq => hS.2.2 q hq) ?_
      refine W.widen (k := 600000) (n := 7302250) (by omega) (by omega) ?_
      exact lw_ret hx hb hr hlocks tdl_1367
    · have hlt : i + 6 ≤ L := by
        rw [tn_ltI, e1, e3] at h
        omega
      have v0 : vp_in (nI i) L := vp_in_nI (by omega) (by omega)
      refine lv_aload_n hx hb tdl_27 rfl (lv_at hl 3 rfl) ?_
      refine lv_iload_n hx hb tdl_28 rfl (lv_at hl 0 rfl) ?_
      refine va_sld hx hb hX hbl hbA hS v0 tdl_29 ?_
      refine lv_bipush (v := 63) hx hb tdl_30 (by decide) ?_
      refine lv_iand hx hb tdl_32 ?_
      refine lw_switch (iv := nI i) C0 F hl (lw_in (k := 1) (by decide) (by omega) hL) (lw_in (k := 2) (by decide) (by omega) hL) (lw_in (k := 3) (by decide) (by omega) hL) (lw_in (k := 4) (by decide) (by omega) hL) (lw_in (k := 5) (by decide) (by omega) hL) hI hP hS ?_
      intro n2 σ2 H2 locs2 hI2 hP2 hS2
      refine lv_iinc (v := nI (i + 6)) (lv' := [(3, .int (nI (i + 6))), (2, .ref (adr 11)), (1, .ref (adr 0)), (0, .ref b)]) hx hb tdl_1360 hl (k := 0) rfl (by rw [show Int32.ofInt 6 = nI 6 by decide]; exact nI_add i 6) (by decide) rfl (fun ls2 hl2 => ?_)
      refine lv_goto (tgt := 18) hx hb tdl_1363 (by decide) ?_
      exact ih (i + 6) (by omega) (by omega) n2 σ2 H2 locs2 ls2 hl2 hI2 hP2 hS2
