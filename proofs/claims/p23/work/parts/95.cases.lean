/-! ===== the cases of the law ===== -/
/-- from the end of a case on -/
def lw_G (p : Program) (l : Launch) (e : Env) (s : State) (m : MethodId) (below : List Frame) (meth : Method) (c : Code) (b : Nat) (adr : Nat → Nat) (D : va_G) (dA : Nat → ClassId) (ls : Array Slot) : Prop :=
  ∀ (n : Nat) (σ : tm_S) (H : Heap) (locs : List Loc), th_I4 n σ → va_P D tt_cl (tm_w adr dA σ) H → va_S (fun q : Nat => s.heap.size ≤ q) s.heap H locs → W p l e room_1 s m #[Value.ref b] below meth c H locs 100 80000 (lw_Z below #[Value.ref b] s) (F0 m 1360 ls [])
set_option maxHeartbeats 4000000 in
set_option maxRecDepth 100000 in
theorem lw_c0 {p : Program} {l : Launch} {e : Env} {s : State} {m : MethodId} {below : List Frame} {meth : Method} {c : Code} {b L : Nat} {xs : Nat → Int32} {H : Heap} {locs : List Loc} {adr : Nat → Nat} {D : va_G} {dA : Nat → ClassId} {ls : Array Slot} {σ : tm_S} {n : Nat} {iv : Int32} (C0 : lw_At p s m meth c b L xs) (F : lw_F s adr D dA) (hl : lv_has ls 4 [(3, .int iv), (2, .ref (adr 11)), (1, .ref (adr 0)), (0, .ref b)]) (v1 : vp_in (iv + 1) L) (v2 : vp_in (iv + 2) L) (v3 : vp_in (iv + 3) L) (v4 : vp_in (iv + 4) L) (v5 : vp_in (iv + 5) L) (hI : th_I4 n σ) (hP : va_P D tt_cl (tm_w adr dA σ) H) (hS : va_S (fun q : Nat => s.heap.size ≤ q) s.heap H locs) (K : lw_G p l e s m below meth c b adr D dA ls) :
    W p l e room_1 s m #[Value.ref b] below meth c H locs 100 80000 (lw_Z below #[Value.ref b] s) (F0 m 192 ls []) := by
  obtain ⟨hx, hb, hr, hml, hown, hts, hX, hbl, hlocks, hgv⟩ := id C0
  refine lv_aload_n hx hb tdl_192 rfl (lv_at hl 2 rfl) ?_
  refine lw_arg 1 C0 hS hl v1 tdl_193 tdl_194 tdl_195 (by decide) tdl_196 tdl_197 ?_
  refine lw_call (q := 0) (j := 1) (B := [.int (xs (iv + 1).toNatClampNeg)]) (st := []) (Q' := fun z σ' => z = th_oct (xs (iv + 1).toNatClampNeg) ∧ ((σ' = σ ∧ (3 ≤ (xs (iv + 1).toNatClampNeg).toInt → (xs (iv + 1).toNatClampNeg).toInt ≤ 12 → σ.1 1 0 = xs (iv + 1).toNatClampNeg)) ∨ (3 ≤ (xs (iv + 1).toNatClampNeg).toInt ∧ (xs (iv + 1).toNatClampNeg).toInt ≤ 12 ∧ th_octS (σ.2.2 0 8) (xs (iv + 1).toNatClampNeg) σ σ'))) C0 F tdl_198 (Nat.le_of_ble_eq_true rfl) rfl lw_isX rfl (Nat.le_of_ble_eq_true rfl) (List.mem_of_getElem? (i := 331) (by decide +kernel)) ((th_xoct (d := 89) (th_cur hI.1.2.2.1)).mono (fun r σ' hq => ⟨_, hq.1, rfl, hq.2⟩)) rfl rfl (Nat.le_of_ble_eq_true rfl) hP hS hl.1 (fun z1 σ1 H locs hQ1 hP hS => ?_)
  refine lv_pop hx hb tdl_201 rfl ?_
  refine lv_aload_n hx hb tdl_202 rfl (lv_at hl 1 rfl) ?_
  refine lw_arg 1 C0 hS hl v1 tdl_203 tdl_204 tdl_205 (by decide) tdl_206 tdl_207 ?_
  refine lw_call (q := 11) (j := 160) (B := [.int (xs (iv + 1).toNatClampNeg)]) (st := []) (Q' := fun z σ' => z = th_oct (xs (iv + 1).toNatClampNeg) ∧ ((σ' = tm_sI σ1 11 0 0 ∧ ¬ (3 ≤ (xs (iv + 1).toNatClampNeg).toInt ∧ (xs (iv + 1).toNatClampNeg).toInt ≤ 12)) ∨ (3 ≤ (xs (iv + 1).toNatClampNeg).toInt ∧ (xs (iv + 1).toNatClampNeg).toInt ≤ 12 ∧ ∃ σ2, th_row0 50 (tm_sI (tm_sI σ1 11 0 0) 11 1 (xs (iv + 1).toNatClampNeg)) σ2 ∧ σ' = tm_sI (tm_sI (tm_sI σ2 11 23 0) 11 26 0) 11 11 0))) C0 F tdl_208 (Nat.le_of_ble_eq_true rfl) rfl lw_isM rfl (Nat.le_of_ble_eq_true rfl) (List.mem_of_getElem? (i := 1237) (by decide +kernel)) (th_moct2.mono (fun r σ' hq => ⟨_, hq.1, rfl, hq.2⟩)) rfl rfl (Nat.le_of_ble_eq_true rfl) hP hS hl.1 (fun z2 σ2 H locs hQ2 hP hS => ?_)
  refine lv_pop hx hb tdl_211 rfl ?_
  refine lv_goto (tgt := 1360) hx hb tdl_212 (by decide) ?_
  obtain ⟨n2, hI2⟩ := tw_both hI hQ1.2 hQ2.2
  exact K n2 σ2 H locs hI2 hP hS
set_option maxHeartbeats 4000000 in
set_option maxRecDepth 100000 in
theorem lw_c1 {p : Program} {l : Launch} {e : Env} {s : State} {m : MethodId} {below : List Frame} {meth : Method} {c : Code} {b L : Nat} {xs : Nat → Int32} {H : Heap} {locs : List Loc} {adr : Nat → Nat} {D : va_G} {dA : Nat → ClassId} {ls : Array Slot} {σ : tm_S} {n : Nat} {iv : Int32} (C0 : lw_At p s m meth c b L xs) (F : lw_F s adr D dA) (hl : lv_has ls 4 [(3, .int iv), (2, .ref (adr 11)), (1, .ref (adr 0)), (0, .ref b)]) (v1 : vp_in (iv + 1) L) (v2 : vp_in (iv + 2) L) (v3 : vp_in (iv + 3) L) (v4 : vp_in (iv + 4) L) (v5 : vp_in (iv + 5) L) (hI : th_I4 n σ) (hP : va_P D tt_cl (tm_w adr dA σ) H) (hS : va_S (fun q : Nat => s.heap.size ≤ q) s.heap H locs) (K : lw_G p l e s m below meth c b adr D dA ls) :
    W p l e room_1 s m #[Value.ref b] below meth c H locs 100 80000 (lw_Z below #[Value.ref b] s) (F0 m 215 ls []) := by
  obtain ⟨hx, hb, hr, hml, hown, hts, hX, hbl, hlocks, hgv⟩ := id C0
  refine lv_aload_n hx hb tdl_215 rfl (lv_at hl 2 rfl) ?_
  refine lw_arg 1 C0 hS hl v1 tdl_216 tdl_217 tdl_218 (by decide) tdl_219 tdl_220 ?_
  refine lw_arg 2 C0 hS hl v2 tdl_221 tdl_222 tdl_223 (by decide) tdl_224 tdl_225 ?_
  refine lw_arg 3 C0 hS hl v3 tdl_226 tdl_227 tdl_228 (by decide) tdl_229 tdl_230 ?_
  refine lw_call (q := 0) (j := 5) (B := [.int (xs (iv + 1).toNatClampNeg), .int (xs (iv + 2).toNatClampNeg), .int (xs (iv + 3).toNatClampNeg)]) (st := [])  C0 F tdl_231 (Nat.le_of_ble_eq_true rfl) rfl lw_isX rfl (Nat.le_of_ble_eq_true rfl) (List.mem_of_getElem? (i := 347) (by decide +kernel)) (lw_Q4 (tl4_x_image hI)) rfl rfl (Nat.le_of_ble_eq_true rfl) hP hS hl.1 (fun z σ H locs hI hP hS => ?_)
  refine lv_pop hx hb tdl_234 rfl ?_
  refine lv_aload_n hx hb tdl_235 rfl (lv_at hl 1 rfl) ?_
  refine lw_arg 1 C0 hS hl v1 tdl_236 tdl_237 tdl_238 (by decide) tdl_239 tdl_240 ?_
  refine lw_arg 2 C0 hS hl v2 tdl_241 tdl_242 tdl_243 (by decide) tdl_244 tdl_245 ?_
  refine lw_arg 3 C0 hS hl v3 tdl_246 tdl_247 tdl_248 (by decide) tdl_249 tdl_250 ?_
  refine lw_call (q := 11) (j := 161) (B := [.int (xs (iv + 1).toNatClampNeg), .int (xs (iv + 2).toNatClampNeg), .int (xs (iv + 3).toNatClampNeg)]) (st := [])  C0 F tdl_251 (Nat.le_of_ble_eq_true rfl) rfl lw_isM rfl (Nat.le_of_ble_eq_true rfl) (List.mem_of_getElem? (i := 1241) (by decide +kernel)) (lw_Q4 (tl4_m_image hI)) rfl rfl (Nat.le_of_ble_eq_true rfl) hP hS hl.1 (fun z σ H locs hI hP hS => ?_)
  refine lv_pop hx hb tdl_254 rfl ?_
  refine lv_goto (tgt := 1360) hx hb tdl_255 (by decide) ?_
  exact K n σ H locs hI hP hS
set_option maxHeartbeats 4000000 in
set_option maxRecDepth 100000 in
theorem lw_c2 {p : Program} {l : Launch} {e : Env} {s : State} {m : MethodId} {below : List Frame} {meth : Method} {c : Code} {b L : Nat} {xs : Nat → Int32} {H : Heap} {locs : List Loc} {adr : Nat → Nat} {D : va_G} {dA : Nat → ClassId} {ls : Array Slot} {σ : tm_S} {n : Nat} {iv : Int32} (C0 : lw_At p s m meth c b L xs) (F : lw_F s adr D dA) (hl : lv_has ls 4 [(3, .int iv), (2, .ref (adr 11)), (1, .ref (adr 0)), (0, .ref b)]) (v1 : vp_in (iv + 1) L) (v2 : vp_in (iv + 2) L) (v3 : vp_in (iv + 3) L) (v4 : vp_in (iv + 4) L) (v5 : vp_in (iv + 5) L) (hI : th_I4 n σ) (hP : va_P D tt_cl (tm_w adr dA σ) H) (hS : va_S (fun q : Nat => s.heap.size ≤ q) s.heap H locs) (K : lw_G p l e s m below meth c b adr D dA ls) :
    W p l e room_1 s m #[Value.ref b] below meth c H locs 100 80000 (lw_Z below #[Value.ref b] s) (F0 m 258 ls []) := by
  obtain ⟨hx, hb, hr, hml, hown, hts, hX, hbl, hlocks, hgv⟩ := id C0
  refine lv_aload_n hx hb tdl_258 rfl (lv_at hl 2 rfl) ?_
  refine lw_arg 1 C0 hS hl v1 tdl_259 tdl_260 tdl_261 (by decide) tdl_262 tdl_263 ?_
  refine lw_arg 2 C0 hS hl v2 tdl_264 tdl_265 tdl_266 (by decide) tdl_267 tdl_268 ?_
  refine lw_call (q := 0) (j := 12) (B := [.int (xs (iv + 1).toNatClampNeg), .int (xs (iv + 2).toNatClampNeg)]) (st := [])  C0 F tdl_269 (Nat.le_of_ble_eq_true rfl) rfl lw_isX rfl (Nat.le_of_ble_eq_true rfl) (List.mem_of_getElem? (i := 374) (by decide +kernel)) (lw_Q4 (tl4_x_name hI)) rfl rfl (Nat.le_of_ble_eq_true rfl) hP hS hl.1 (fun z σ H locs hI hP hS => ?_)
  refine lv_pop hx hb tdl_272 rfl ?_
  refine lv_aload_n hx hb tdl_273 rfl (lv_at hl 1 rfl) ?_
  refine lw_arg 1 C0 hS hl v1 tdl_274 tdl_275 tdl_276 (by decide) tdl_277 tdl_278 ?_
  refine lw_arg 2 C0 hS hl v2 tdl_279 tdl_280 tdl_281 (by decide) tdl_282 tdl_283 ?_
  refine lw_call (q := 11) (j := 167) (B := [.int (xs (iv + 1).toNatClampNeg), .int (xs (iv + 2).toNatClampNeg)]) (st := [])  C0 F tdl_284 (Nat.le_of_ble_eq_true rfl) rfl lw_isM rfl (Nat.le_of_ble_eq_true rfl) (List.mem_of_getElem? (i := 1265) (by decide +kernel)) (lw_Q4 (tl4_m_name hI)) rfl rfl (Nat.le_of_ble_eq_true rfl) hP hS hl.1 (fun z σ H locs hI hP hS => ?_)
  refine lv_pop hx hb tdl_287 rfl ?_
  refine lv_goto (tgt := 1360) hx hb tdl_288 (by decide) ?_
  exact K n σ H locs hI hP hS
set_option maxHeartbeats 4000000 in
set_option maxRecDepth 100000 in
theorem lw_c3 {p : Program} {l : Launch} {e : Env} {s : State} {m : MethodId} {below : List Frame} {meth : Method} {c : Code} {b L : Nat} {xs : Nat → Int32} {H : Heap} {locs : List Loc} {adr : Nat → Nat} {D : va_G} {dA : Nat → ClassId} {ls : Array Slot} {σ : tm_S} {n : Nat} {iv : Int32} (C0 : lw_At p s m meth c b L xs) (F : lw_F s adr D dA) (hl : lv_has ls 4 [(3, .int iv), (2, .ref (adr 11)), (1, .ref (adr 0)), (0, .ref b)]) (v1 : vp_in (iv + 1) L) (v2 : vp_in (iv + 2) L) (v3 : vp_in (iv + 3) L) (v4 : vp_in (iv + 4) L) (v5 : vp_in (iv + 5) L) (hI : th_I4 n σ) (hP : va_P D tt_cl (tm_w adr dA σ) H) (hS : va_S (fun q : Nat => s.heap.size ≤ q) s.heap H locs) (K : lw_G p l e s m below meth c b adr D dA ls) :
    W p l e room_1 s m #[Value.ref b] below meth c H locs 100 80000 (lw_Z below #[Value.ref b] s) (F0 m 291 ls []) := by
  obtain ⟨hx, hb, hr, hml, hown, hts, hX, hbl, hlocks, hgv⟩ := id C0
  refine lv_aload_n hx hb tdl_291 rfl (lv_at hl 2 rfl) ?_
  refine lw_arg 1 C0 hS hl v1 tdl_292 tdl_293 tdl_294 (by decide) tdl_295 tdl_296 ?_
  refine lw_arg 2 C0 hS hl v2 tdl_297 tdl_298 tdl_299 (by decide) tdl_300 tdl_301 ?_
  refine lw_arg 3 C0 hS hl v3 tdl_302 tdl_303 tdl_304 (by decide) tdl_305 tdl_306 ?_
  refine lw_call (q := 0) (j := 18) (B := [.int (xs (iv + 1).toNatClampNeg), .int (xs (iv + 2).toNatClampNeg), .int (xs (iv + 3).toNatClampNeg)]) (st := [])  C0 F tdl_307 (Nat.le_of_ble_eq_true rfl) rfl lw_isX rfl (Nat.le_of_ble_eq_true rfl) (List.mem_of_getElem? (i := 399) (by decide +kernel)) (lw_Q4 (tl4_x_own hI)) rfl rfl (Nat.le_of_ble_eq_true rfl) hP hS hl.1 (fun z σ H locs hI hP hS => ?_)
  refine lv_pop hx hb tdl_310 rfl ?_
  refine lv_aload_n hx hb tdl_311 rfl (lv_at hl 1 rfl) ?_
  refine lw_arg 1 C0 hS hl v1 tdl_312 tdl_313 tdl_314 (by decide) tdl_315 tdl_316 ?_
  refine lw_arg 2 C0 hS hl v2 tdl_317 tdl_318 tdl_319 (by decide) tdl_320 tdl_321 ?_
  refine lw_arg 3 C0 hS hl v3 tdl_322 tdl_323 tdl_324 (by decide) tdl_325 tdl_326 ?_
  refine lw_call (q := 11) (j := 170) (B := [.int (xs (iv + 1).toNatClampNeg), .int (xs (iv + 2).toNatClampNeg), .int (xs (iv + 3).toNatClampNeg)]) (st := [])  C0 F tdl_327 (Nat.le_of_ble_eq_true rfl) rfl lw_isM rfl (Nat.le_of_ble_eq_true rfl) (List.mem_of_getElem? (i := 1277) (by decide +kernel)) (lw_Q4 (tl4_m_own hI)) rfl rfl (Nat.le_of_ble_eq_true rfl) hP hS hl.1 (fun z σ H locs hI hP hS => ?_)
  refine lv_pop hx hb tdl_330 rfl ?_
  refine lv_goto (tgt := 1360) hx hb tdl_331 (by decide) ?_
  exact K n σ H locs hI hP hS
set_option maxHeartbeats 4000000 in
set_option maxRecDepth 100000 in
theorem lw_c4 {p : Program} {l : Launch} {e : Env} {s : State} {m : MethodId} {below : List Frame} {meth : Method} {c : Code} {b L : Nat} {xs : Nat → Int32} {H : Heap} {locs : List Loc} {adr : Nat → Nat} {D : va_G} {dA : Nat → ClassId} {ls : Array Slot} {σ : tm_S} {n : Nat} {iv : Int32} (C0 : lw_At p s m meth c b L xs) (F : lw_F s adr D dA) (hl : lv_has ls 4 [(3, .int iv), (2, .ref (adr 11)), (1, .ref (adr 0)), (0, .ref b)]) (v1 : vp_in (iv + 1) L) (v2 : vp_in (iv + 2) L) (v3 : vp_in (iv + 3) L) (v4 : vp_in (iv + 4) L) (v5 : vp_in (iv + 5) L) (hI : th_I4 n σ) (hP : va_P D tt_cl (tm_w adr dA σ) H) (hS : va_S (fun q : Nat => s.heap.size ≤ q) s.heap H locs) (K : lw_G p l e s m below meth c b adr D dA ls) :
    W p l e room_1 s m #[Value.ref b] below meth c H locs 100 80000 (lw_Z below #[Value.ref b] s) (F0 m 334 ls []) := by
  obtain ⟨hx, hb, hr, hml, hown, hts, hX, hbl, hlocks, hgv⟩ := id C0
  refine lv_aload_n hx hb tdl_334 rfl (lv_at hl 2 rfl) ?_
  refine lw_arg 1 C0 hS hl v1 tdl_335 tdl_336 tdl_337 (by decide) tdl_338 tdl_339 ?_
  refine lw_arg 2 C0 hS hl v2 tdl_340 tdl_341 tdl_342 (by decide) tdl_343 tdl_344 ?_
  refine lw_call (q := 0) (j := 22) (B := [.int (xs (iv + 1).toNatClampNeg), .int (xs (iv + 2).toNatClampNeg)]) (st := [])  C0 F tdl_345 (Nat.le_of_ble_eq_true rfl) rfl lw_isX rfl (Nat.le_of_ble_eq_true rfl) (List.mem_of_getElem? (i := 416) (by decide +kernel)) (lw_Q4 (tl4_x_classes hI)) rfl rfl (Nat.le_of_ble_eq_true rfl) hP hS hl.1 (fun z σ H locs hI hP hS => ?_)
  refine lv_pop hx hb tdl_348 rfl ?_
  refine lv_aload_n hx hb tdl_349 rfl (lv_at hl 1 rfl) ?_
  refine lw_arg 1 C0 hS hl v1 tdl_350 tdl_351 tdl_352 (by decide) tdl_353 tdl_354 ?_
  refine lw_arg 2 C0 hS hl v2 tdl_355 tdl_356 tdl_357 (by decide) tdl_358 tdl_359 ?_
  refine lw_call (q := 11) (j := 172) (B := [.int (xs (iv + 1).toNatClampNeg), .int (xs (iv + 2).toNatClampNeg)]) (st := [])  C0 F tdl_360 (Nat.le_of_ble_eq_true rfl) rfl lw_isM rfl (Nat.le_of_ble_eq_true rfl) (List.mem_of_getElem? (i := 1285) (by decide +kernel)) (lw_Q4 (tl4_m_classes hI)) rfl rfl (Nat.le_of_ble_eq_true rfl) hP hS hl.1 (fun z σ H locs hI hP hS => ?_)
  refine lv_pop hx hb tdl_363 rfl ?_
  refine lv_goto (tgt := 1360) hx hb tdl_364 (by decide) ?_
  exact K n σ H locs hI hP hS
set_option maxHeartbeats 4000000 in
set_option maxRecDepth 100000 in
theorem lw_c5 {p : Program} {l : Launch} {e : Env} {s : State} {m : MethodId} {below : List Frame} {meth : Method} {c : Code} {b L : Nat} {xs : Nat → Int32} {H : Heap} {locs : List Loc} {adr : Nat → Nat} {D : va_G} {dA : Nat → ClassId} {ls : Array Slot} {σ : tm_S} {n : Nat} {iv : Int32} (C0 : lw_At p s m meth c b L xs) (F : lw_F s adr D dA) (hl : lv_has ls 4 [(3, .int iv), (2, .ref (adr 11)), (1, .ref (adr 0)), (0, .ref b)]) (v1 : vp_in (iv + 1) L) (v2 : vp_in (iv + 2) L) (v3 : vp_in (iv + 3) L) (v4 : vp_in (iv + 4) L) (v5 : vp_in (iv + 5) L) (hI : th_I4 n σ) (hP : va_P D tt_cl (tm_w adr dA σ) H) (hS : va_S (fun q : Nat => s.heap.size ≤ q) s.heap H locs) (K : lw_G p l e s m below meth c b adr D dA ls) :
    W p l e room_1 s m #[Value.ref b] below meth c H locs 100 80000 (lw_Z below #[Value.ref b] s) (F0 m 367 ls []) := by
  obtain ⟨hx, hb, hr, hml, hown, hts, hX, hbl, hlocks, hgv⟩ := id C0
  refine lv_aload_n hx hb tdl_367 rfl (lv_at hl 2 rfl) ?_
  refine lw_arg 1 C0 hS hl v1 tdl_368 tdl_369 tdl_370 (by decide) tdl_371 tdl_372 ?_
  refine lw_arg 2 C0 hS hl v2 tdl_373 tdl_374 tdl_375 (by decide) tdl_376 tdl_377 ?_
  refine lw_arg 3 C0 hS hl v3 tdl_378 tdl_379 tdl_380 (by decide) tdl_381 tdl_382 ?_
  refine lw_call (q := 0) (j := 26) (B := [.int (xs (iv + 1).toNatClampNeg), .int (xs (iv + 2).toNatClampNeg), .int (xs (iv + 3).toNatClampNeg)]) (st := [])  C0 F tdl_383 (Nat.le_of_ble_eq_true rfl) rfl lw_isX rfl (Nat.le_of_ble_eq_true rfl) (List.mem_of_getElem? (i := 434) (by decide +kernel)) (lw_Q4 (tl4_x_nameOf hI)) rfl rfl (Nat.le_of_ble_eq_true rfl) hP hS hl.1 (fun z σ H locs hI hP hS => ?_)
  refine lv_pop hx hb tdl_386 rfl ?_
  refine lv_aload_n hx hb tdl_387 rfl (lv_at hl 1 rfl) ?_
  refine lw_arg 1 C0 hS hl v1 tdl_388 tdl_389 tdl_390 (by decide) tdl_391 tdl_392 ?_
  refine lw_arg 2 C0 hS hl v2 tdl_393 tdl_394 tdl_395 (by decide) tdl_396 tdl_397 ?_
  refine lw_arg 3 C0 hS hl v3 tdl_398 tdl_399 tdl_400 (by decide) tdl_401 tdl_402 ?_
  refine lw_call (q := 11) (j := 175) (B := [.int (xs (iv + 1).toNatClampNeg), .int (xs (iv + 2).toNatClampNeg), .int (xs (iv + 3).toNatClampNeg)]) (st := [])  C0 F tdl_403 (Nat.le_of_ble_eq_true rfl) rfl lw_isM rfl (Nat.le_of_ble_eq_true rfl) (List.mem_of_getElem? (i := 1297) (by decide +kernel)) (lw_Q4 (tl4_m_nameOf hI)) rfl rfl (Nat.le_of_ble_eq_true rfl) hP hS hl.1 (fun z σ H locs hI hP hS => ?_)
  refine lv_pop hx hb tdl_406 rfl ?_
  refine lv_goto (tgt := 1360) hx hb tdl_407 (by decide) ?_
  exact K n σ H locs hI hP hS
set_option maxHeartbeats 4000000 in
set_option maxRecDepth 100000 in
theorem lw_c6 {p : Program} {l : Launch} {e : Env} {s : State} {m : MethodId} {below : List Frame} {meth : Method} {c : Code} {b L : Nat} {xs : Nat → Int32} {H : Heap} {locs : List Loc} {adr : Nat → Nat} {D : va_G} {dA : Nat → ClassId} {ls : Array Slot} {σ : tm_S} {n : Nat} {iv : Int32} (C0 : lw_At p s m meth c b L xs) (F : lw_F s adr D dA) (hl : lv_has ls 4 [(3, .int iv), (2, .ref (adr 11)), (1, .ref (adr 0)), (0, .ref b)]) (v1 : vp_in (iv + 1) L) (v2 : vp_in (iv + 2) L) (v3 : vp_in (iv + 3) L) (v4 : vp_in (iv + 4) L) (v5 : vp_in (iv + 5) L) (hI : th_I4 n σ) (hP : va_P D tt_cl (tm_w adr dA σ) H) (hS : va_S (fun q : Nat => s.heap.size ≤ q) s.heap H locs) (K : lw_G p l e s m below meth c b adr D dA ls) :
    W p l e room_1 s m #[Value.ref b] below meth c H locs 100 80000 (lw_Z below #[Value.ref b] s) (F0 m 410 ls []) := by
  obtain ⟨hx, hb, hr, hml, hown, hts, hX, hbl, hlocks, hgv⟩ := id C0
  refine lv_aload_n hx hb tdl_410 rfl (lv_at hl 2 rfl) ?_
  refine lw_arg 1 C0 hS hl v1 tdl_411 tdl_412 tdl_413 (by decide) tdl_414 tdl_415 ?_
  refine lw_arg 2 C0 hS hl v2 tdl_416 tdl_417 tdl_418 (by decide) tdl_419 tdl_420 ?_
  refine lw_call (q := 0) (j := 28) (B := [.int (xs (iv + 1).toNatClampNeg), .int (xs (iv + 2).toNatClampNeg)]) (st := [])  C0 F tdl_421 (Nat.le_of_ble_eq_true rfl) rfl lw_isX rfl (Nat.le_of_ble_eq_true rfl) (List.mem_of_getElem? (i := 442) (by decide +kernel)) (lw_Q4 (tl4_x_interval hI)) rfl rfl (Nat.le_of_ble_eq_true rfl) hP hS hl.1 (fun z σ H locs hI hP hS => ?_)
  refine lv_pop hx hb tdl_424 rfl ?_
  refine lv_aload_n hx hb tdl_425 rfl (lv_at hl 1 rfl) ?_
  refine lw_arg 1 C0 hS hl v1 tdl_426 tdl_427 tdl_428 (by decide) tdl_429 tdl_430 ?_
  refine lw_arg 2 C0 hS hl v2 tdl_431 tdl_432 tdl_433 (by decide) tdl_434 tdl_435 ?_
  refine lw_call (q := 11) (j := 176) (B := [.int (xs (iv + 1).toNatClampNeg), .int (xs (iv + 2).toNatClampNeg)]) (st := [])  C0 F tdl_436 (Nat.le_of_ble_eq_true rfl) rfl lw_isM rfl (Nat.le_of_ble_eq_true rfl) (List.mem_of_getElem? (i := 1301) (by decide +kernel)) (lw_Q4 (tl4_m_interval hI)) rfl rfl (Nat.le_of_ble_eq_true rfl) hP hS hl.1 (fun z σ H locs hI hP hS => ?_)
  refine lv_pop hx hb tdl_439 rfl ?_
  refine lv_goto (tgt := 1360) hx hb tdl_440 (by decide) ?_
  exact K n σ H locs hI hP hS
set_option maxHeartbeats 4000000 in
set_option maxRecDepth 100000 in
theorem lw_c7 {p : Program} {l : Launch} {e : Env} {s : State} {m : MethodId} {below : List Frame} {meth : Method} {c : Code} {b L : Nat} {xs : Nat → Int32} {H : Heap} {locs : List Loc} {adr : Nat → Nat} {D : va_G} {dA : Nat → ClassId} {ls : Array Slot} {σ : tm_S} {n : Nat} {iv : Int32} (C0 : lw_At p s m meth c b L xs) (F : lw_F s adr D dA) (hl : lv_has ls 4 [(3, .int iv), (2, .ref (adr 11)), (1, .ref (adr 0)), (0, .ref b)]) (v1 : vp_in (iv + 1) L) (v2 : vp_in (iv + 2) L) (v3 : vp_in (iv + 3) L) (v4 : vp_in (iv + 4) L) (v5 : vp_in (iv + 5) L) (hI : th_I4 n σ) (hP : va_P D tt_cl (tm_w adr dA σ) H) (hS : va_S (fun q : Nat => s.heap.size ≤ q) s.heap H locs) (K : lw_G p l e s m below meth c b adr D dA ls) :
    W p l e room_1 s m #[Value.ref b] below meth c H locs 100 80000 (lw_Z below #[Value.ref b] s) (F0 m 443 ls []) := by
  obtain ⟨hx, hb, hr, hml, hown, hts, hX, hbl, hlocks, hgv⟩ := id C0
  refine lv_aload_n hx hb tdl_443 rfl (lv_at hl 2 rfl) ?_
  refine lw_arg 1 C0 hS hl v1 tdl_444 tdl_445 tdl_446 (by decide) tdl_447 tdl_448 ?_
  refine lw_call (q := 0) (j := 30) (B := [.int (xs (iv + 1).toNatClampNeg)]) (st := [])  C0 F tdl_449 (Nat.le_of_ble_eq_true rfl) rfl lw_isX rfl (Nat.le_of_ble_eq_true rfl) (List.mem_of_getElem? (i := 450) (by decide +kernel)) (lw_Q4 (tl4_x_twin hI)) rfl rfl (Nat.le_of_ble_eq_true rfl) hP hS hl.1 (fun z σ H locs hI hP hS => ?_)
  refine lv_pop hx hb tdl_452 rfl ?_
  refine lv_aload_n hx hb tdl_453 rfl (lv_at hl 1 rfl) ?_
  refine lw_arg 1 C0 hS hl v1 tdl_454 tdl_455 tdl_456 (by decide) tdl_457 tdl_458 ?_
  refine lw_call (q := 11) (j := 179) (B := [.int (xs (iv + 1).toNatClampNeg)]) (st := [])  C0 F tdl_459 (Nat.le_of_ble_eq_true rfl) rfl lw_isM rfl (Nat.le_of_ble_eq_true rfl) (List.mem_of_getElem? (i := 1313) (by decide +kernel)) (lw_Q4 (tl4_m_twin hI)) rfl rfl (Nat.le_of_ble_eq_true rfl) hP hS hl.1 (fun z σ H locs hI hP hS => ?_)
  refine lv_pop hx hb tdl_462 rfl ?_
  refine lv_goto (tgt := 1360) hx hb tdl_463 (by decide) ?_
  exact K n σ H locs hI hP hS
set_option maxHeartbeats 4000000 in
set_option maxRecDepth 100000 in
theorem lw_c8 {p : Program} {l : Launch} {e : Env} {s : State} {m : MethodId} {below : List Frame} {meth : Method} {c : Code} {b L : Nat} {xs : Nat → Int32} {H : Heap} {locs : List Loc} {adr : Nat → Nat} {D : va_G} {dA : Nat → ClassId} {ls : Array Slot} {σ : tm_S} {n : Nat} {iv : Int32} (C0 : lw_At p s m meth c b L xs) (F : lw_F s adr D dA) (hl : lv_has ls 4 [(3, .int iv), (2, .ref (adr 11)), (1, .ref (adr 0)), (0, .ref b)]) (v1 : vp_in (iv + 1) L) (v2 : vp_in (iv + 2) L) (v3 : vp_in (iv + 3) L) (v4 : vp_in (iv + 4) L) (v5 : vp_in (iv + 5) L) (hI : th_I4 n σ) (hP : va_P D tt_cl (tm_w adr dA σ) H) (hS : va_S (fun q : Nat => s.heap.size ≤ q) s.heap H locs) (K : lw_G p l e s m below meth c b adr D dA ls) :
    W p l e room_1 s m #[Value.ref b] below meth c H locs 100 80000 (lw_Z below #[Value.ref b] s) (F0 m 466 ls []) := by
  obtain ⟨hx, hb, hr, hml, hown, hts, hX, hbl, hlocks, hgv⟩ := id C0
  refine lv_aload_n hx hb tdl_466 rfl (lv_at hl 2 rfl) ?_
  refine lw_arg 1 C0 hS hl v1 tdl_467 tdl_468 tdl_469 (by decide) tdl_470 tdl_471 ?_
  refine lw_arg 2 C0 hS hl v2 tdl_472 tdl_473 tdl_474 (by decide) tdl_475 tdl_476 ?_
  refine lw_arg 3 C0 hS hl v3 tdl_477 tdl_478 tdl_479 (by decide) tdl_480 tdl_481 ?_
  refine lw_call (q := 0) (j := 33) (B := [.int (xs (iv + 1).toNatClampNeg), .int (xs (iv + 2).toNatClampNeg), .int (xs (iv + 3).toNatClampNeg)]) (st := [])  C0 F tdl_482 (Nat.le_of_ble_eq_true rfl) rfl lw_isX rfl (Nat.le_of_ble_eq_true rfl) (List.mem_of_getElem? (i := 463) (by decide +kernel)) (lw_Q4 (tl4_x_within hI)) rfl rfl (Nat.le_of_ble_eq_true rfl) hP hS hl.1 (fun z σ H locs hI hP hS => ?_)
  refine lv_pop hx hb tdl_485 rfl ?_
  refine lv_aload_n hx hb tdl_486 rfl (lv_at hl 1 rfl) ?_
  refine lw_arg 1 C0 hS hl v1 tdl_487 tdl_488 tdl_489 (by decide) tdl_490 tdl_491 ?_
  refine lw_arg 2 C0 hS hl v2 tdl_492 tdl_493 tdl_494 (by decide) tdl_495 tdl_496 ?_
  refine lw_arg 3 C0 hS hl v3 tdl_497 tdl_498 tdl_499 (by decide) tdl_500 tdl_501 ?_
  refine lw_call (q := 11) (j := 180) (B := [.int (xs (iv + 1).toNatClampNeg), .int (xs (iv + 2).toNatClampNeg), .int (xs (iv + 3).toNatClampNeg)]) (st := [])  C0 F tdl_502 (Nat.le_of_ble_eq_true rfl) rfl lw_isM rfl (Nat.le_of_ble_eq_true rfl) (List.mem_of_getElem? (i := 1317) (by decide +kernel)) (lw_Q4 (tl4_m_within hI)) rfl rfl (Nat.le_of_ble_eq_true rfl) hP hS hl.1 (fun z σ H locs hI hP hS => ?_)
  refine lv_pop hx hb tdl_505 rfl ?_
  refine lv_goto (tgt := 1360) hx hb tdl_506 (by decide) ?_
  exact K n σ H locs hI hP hS
set_option maxHeartbeats 4000000 in
set_option maxRecDepth 100000 in
theorem lw_c9 {p : Program} {l : Launch} {e : Env} {s : State} {m : MethodId} {below : List Frame} {meth : Method} {c : Code} {b L : Nat} {xs : Nat → Int32} {H : Heap} {locs : List Loc} {adr : Nat → Nat} {D : va_G} {dA : Nat → ClassId} {ls : Array Slot} {σ : tm_S} {n : Nat} {iv : Int32} (C0 : lw_At p s m meth c b L xs) (F : lw_F s adr D dA) (hl : lv_has ls 4 [(3, .int iv), (2, .ref (adr 11)), (1, .ref (adr 0)), (0, .ref b)]) (v1 : vp_in (iv + 1) L) (v2 : vp_in (iv + 2) L) (v3 : vp_in (iv + 3) L) (v4 : vp_in (iv + 4) L) (v5 : vp_in (iv + 5) L) (hI : th_I4 n σ) (hP : va_P D tt_cl (tm_w adr dA σ) H) (hS : va_S (fun q : Nat => s.heap.size ≤ q) s.heap H locs) (K : lw_G p l e s m below meth c b adr D dA ls) :
    W p l e room_1 s m #[Value.ref b] below meth c H locs 100 80000 (lw_Z below #[Value.ref b] s) (F0 m 509 ls []) := by
  obtain ⟨hx, hb, hr, hml, hown, hts, hX, hbl, hlocks, hgv⟩ := id C0
  refine lv_aload_n hx hb tdl_509 rfl (lv_at hl 2 rfl) ?_
  refine lw_arg 1 C0 hS hl v1 tdl_510 tdl_511 tdl_512 (by decide) tdl_513 tdl_514 ?_
  refine lw_arg 2 C0 hS hl v2 tdl_515 tdl_516 tdl_517 (by decide) tdl_518 tdl_519 ?_
  refine lw_arg 3 C0 hS hl v3 tdl_520 tdl_521 tdl_522 (by decide) tdl_523 tdl_524 ?_
  refine lw_call (q := 0) (j := 34) (B := [.int (xs (iv + 1).toNatClampNeg), .int (xs (iv + 2).toNatClampNeg), .int (xs (iv + 3).toNatClampNeg)]) (st := [])  C0 F tdl_525 (Nat.le_of_ble_eq_true rfl) rfl lw_isX rfl (Nat.le_of_ble_eq_true rfl) (List.mem_of_getElem? (i := 467) (by decide +kernel)) (lw_Q4 (tl4_x_lead hI)) rfl rfl (Nat.le_of_ble_eq_true rfl) hP hS hl.1 (fun z σ H locs hI hP hS => ?_)
  refine lv_pop hx hb tdl_528 rfl ?_
  refine lv_aload_n hx hb tdl_529 rfl (lv_at hl 1 rfl) ?_
  refine lw_arg 1 C0 hS hl v1 tdl_530 tdl_531 tdl_532 (by decide) tdl_533 tdl_534 ?_
  refine lw_arg 2 C0 hS hl v2 tdl_535 tdl_536 tdl_537 (by decide) tdl_538 tdl_539 ?_
  refine lw_arg 3 C0 hS hl v3 tdl_540 tdl_541 tdl_542 (by decide) tdl_543 tdl_544 ?_
  refine lw_call (q := 11) (j := 181) (B := [.int (xs (iv + 1).toNatClampNeg), .int (xs (iv + 2).toNatClampNeg), .int (xs (iv + 3).toNatClampNeg)]) (st := [])  C0 F tdl_545 (Nat.le_of_ble_eq_true rfl) rfl lw_isM rfl (Nat.le_of_ble_eq_true rfl) (List.mem_of_getElem? (i := 1321) (by decide +kernel)) (lw_Q4 (tl4_m_lead hI)) rfl rfl (Nat.le_of_ble_eq_true rfl) hP hS hl.1 (fun z σ H locs hI hP hS => ?_)
  refine lv_pop hx hb tdl_548 rfl ?_
  refine lv_goto (tgt := 1360) hx hb tdl_549 (by decide) ?_
  exact K n σ H locs hI hP hS
set_option maxHeartbeats 4000000 in
set_option maxRecDepth 100000 in
theorem lw_c10 {p : Program} {l : Launch} {e : Env} {s : State} {m : MethodId} {below : List Frame} {meth : Method} {c : Code} {b L : Nat} {xs : Nat → Int32} {H : Heap} {locs : List Loc} {adr : Nat → Nat} {D : va_G} {dA : Nat → ClassId} {ls : Array Slot} {σ : tm_S} {n : Nat} {iv : Int32} (C0 : lw_At p s m meth c b L xs) (F : lw_F s adr D dA) (hl : lv_has ls 4 [(3, .int iv), (2, .ref (adr 11)), (1, .ref (adr 0)), (0, .ref b)]) (v1 : vp_in (iv + 1) L) (v2 : vp_in (iv + 2) L) (v3 : vp_in (iv + 3) L) (v4 : vp_in (iv + 4) L) (v5 : vp_in (iv + 5) L) (hI : th_I4 n σ) (hP : va_P D tt_cl (tm_w adr dA σ) H) (hS : va_S (fun q : Nat => s.heap.size ≤ q) s.heap H locs) (K : lw_G p l e s m below meth c b adr D dA ls) :
    W p l e room_1 s m #[Value.ref b] below meth c H locs 100 80000 (lw_Z below #[Value.ref b] s) (F0 m 552 ls []) := by
  obtain ⟨hx, hb, hr, hml, hown, hts, hX, hbl, hlocks, hgv⟩ := id C0
  refine lv_aload_n hx hb tdl_552 rfl (lv_at hl 2 rfl) ?_
  refine lw_arg 1 C0 hS hl v1 tdl_553 tdl_554 tdl_555 (by decide) tdl_556 tdl_557 ?_
  refine lw_arg 2 C0 hS hl v2 tdl_558 tdl_559 tdl_560 (by decide) tdl_561 tdl_562 ?_
  refine lw_call (q := 0) (j := 47) (B := [.int (xs (iv + 1).toNatClampNeg), .int (xs (iv + 2).toNatClampNeg)]) (st := [])  C0 F tdl_563 (Nat.le_of_ble_eq_true rfl) rfl lw_isX rfl (Nat.le_of_ble_eq_true rfl) (List.mem_of_getElem? (i := 527) (by decide +kernel)) (lw_Q4 (tl4_x_road hI)) rfl rfl (Nat.le_of_ble_eq_true rfl) hP hS hl.1 (fun z σ H locs hI hP hS => ?_)
  refine lv_pop hx hb tdl_566 rfl ?_
  refine lv_aload_n hx hb tdl_567 rfl (lv_at hl 1 rfl) ?_
  refine lw_arg 1 C0 hS hl v1 tdl_568 tdl_569 tdl_570 (by decide) tdl_571 tdl_572 ?_
  refine lw_arg 2 C0 hS hl v2 tdl_573 tdl_574 tdl_575 (by decide) tdl_576 tdl_577 ?_
  refine lw_call (q := 11) (j := 184) (B := [.int (xs (iv + 1).toNatClampNeg), .int (xs (iv + 2).toNatClampNeg)]) (st := [])  C0 F tdl_578 (Nat.le_of_ble_eq_true rfl) rfl lw_isM rfl (Nat.le_of_ble_eq_true rfl) (List.mem_of_getElem? (i := 1333) (by decide +kernel)) (lw_Q4 (tl4_m_road hI)) rfl rfl (Nat.le_of_ble_eq_true rfl) hP hS hl.1 (fun z σ H locs hI hP hS => ?_)
  refine lv_pop hx hb tdl_581 rfl ?_
  refine lv_goto (tgt := 1360) hx hb tdl_582 (by decide) ?_
  exact K n σ H locs hI hP hS
set_option maxHeartbeats 4000000 in
set_option maxRecDepth 100000 in
theorem lw_c11 {p : Program} {l : Launch} {e : Env} {s : State} {m : MethodId} {below : List Frame} {meth : Method} {c : Code} {b L : Nat} {xs : Nat → Int32} {H : Heap} {locs : List Loc} {adr : Nat → Nat} {D : va_G} {dA : Nat → ClassId} {ls : Array Slot} {σ : tm_S} {n : Nat} {iv : Int32} (C0 : lw_At p s m meth c b L xs) (F : lw_F s adr D dA) (hl : lv_has ls 4 [(3, .int iv), (2, .ref (adr 11)), (1, .ref (adr 0)), (0, .ref b)]) (v1 : vp_in (iv + 1) L) (v2 : vp_in (iv + 2) L) (v3 : vp_in (iv + 3) L) (v4 : vp_in (iv + 4) L) (v5 : vp_in (iv + 5) L) (hI : th_I4 n σ) (hP : va_P D tt_cl (tm_w adr dA σ) H) (hS : va_S (fun q : Nat => s.heap.size ≤ q) s.heap H locs) (K : lw_G p l e s m below meth c b adr D dA ls) :
    W p l e room_1 s m #[Value.ref b] below meth c H locs 100 80000 (lw_Z below #[Value.ref b] s) (F0 m 585 ls []) := by
  obtain ⟨hx, hb, hr, hml, hown, hts, hX, hbl, hlocks, hgv⟩ := id C0
  refine lv_aload_n hx hb tdl_585 rfl (lv_at hl 2 rfl) ?_
  refine lw_arg 1 C0 hS hl v1 tdl_586 tdl_587 tdl_588 (by decide) tdl_589 tdl_590 ?_
  refine lw_arg 2 C0 hS hl v2 tdl_591 tdl_592 tdl_593 (by decide) tdl_594 tdl_595 ?_
  refine lv_i2l hx hb tdl_596 rfl ?_
  refine lv_bipush (v := 32) hx hb tdl_597 (by decide) ?_
  refine lv_lshl hx hb tdl_599 rfl ?_
  refine lw_arg 3 C0 hS hl v3 tdl_600 tdl_601 tdl_602 (by decide) tdl_603 tdl_604 ?_
  refine lv_i2l hx hb tdl_605 rfl ?_
  refine lv_ldc2 (v := 4294967295) hx hb hown (hts _ (List.mem_of_getElem? (i := 1574) (by decide +kernel))) tdl_606 ?_
  refine lv_land hx hb tdl_609 ?_
  refine lv_lor hx hb tdl_610 ?_
  refine lw_call (q := 0) (j := 52) (B := [.int (xs (iv + 1).toNatClampNeg), .long ((((xs (iv + 2).toNatClampNeg).toInt64) <<< ((32 : Int32).toInt64 &&& 63)) ||| (((xs (iv + 3).toNatClampNeg).toInt64) &&& (4294967295)))]) (st := [])  C0 F tdl_611 (Nat.le_of_ble_eq_true rfl) rfl lw_isX rfl (Nat.le_of_ble_eq_true rfl) (List.mem_of_getElem? (i := 552) (by decide +kernel)) (lw_Q4 (tl4_x_row hI)) rfl rfl (Nat.le_of_ble_eq_true rfl) hP hS hl.1 (fun z σ H locs hI hP hS => ?_)
  refine lv_pop hx hb tdl_614 rfl ?_
  refine lv_aload_n hx hb tdl_615 rfl (lv_at hl 1 rfl) ?_
  refine lw_arg 1 C0 hS hl v1 tdl_616 tdl_617 tdl_618 (by decide) tdl_619 tdl_620 ?_
  refine lw_arg 2 C0 hS hl v2 tdl_621 tdl_622 tdl_623 (by decide) tdl_624 tdl_625 ?_
  refine lv_i2l hx hb tdl_626 rfl ?_
  refine lv_bipush (v := 32) hx hb tdl_627 (by decide) ?_
  refine lv_lshl hx hb tdl_629 rfl ?_
  refine lw_arg 3 C0 hS hl v3 tdl_630 tdl_631 tdl_632 (by decide) tdl_633 tdl_634 ?_
  refine lv_i2l hx hb tdl_635 rfl ?_
  refine lv_ldc2 (v := 4294967295) hx hb hown (hts _ (List.mem_of_getElem? (i := 1574) (by decide +kernel))) tdl_636 ?_
  refine lv_land hx hb tdl_639 ?_
  refine lv_lor hx hb tdl_640 ?_
  refine lw_call (q := 11) (j := 185) (B := [.int (xs (iv + 1).toNatClampNeg), .long ((((xs (iv + 2).toNatClampNeg).toInt64) <<< ((32 : Int32).toInt64 &&& 63)) ||| (((xs (iv + 3).toNatClampNeg).toInt64) &&& (4294967295)))]) (st := [])  C0 F tdl_641 (Nat.le_of_ble_eq_true rfl) rfl lw_isM rfl (Nat.le_of_ble_eq_true rfl) (List.mem_of_getElem? (i := 1337) (by decide +kernel)) (lw_Q4 (tl4_m_row hI)) rfl rfl (Nat.le_of_ble_eq_true rfl) hP hS hl.1 (fun z σ H locs hI hP hS => ?_)
  refine lv_pop hx hb tdl_644 rfl ?_
  refine lv_goto (tgt := 1360) hx hb tdl_645 (by decide) ?_
  exact K n σ H locs hI hP hS
set_option maxHeartbeats 4000000 in
set_option maxRecDepth 100000 in
theorem lw_c12 {p : Program} {l : Launch} {e : Env} {s : State} {m : MethodId} {below : List Frame} {meth : Method} {c : Code} {b L : Nat} {xs : Nat → Int32} {H : Heap} {locs : List Loc} {adr : Nat → Nat} {D : va_G} {dA : Nat → ClassId} {ls : Array Slot} {σ : tm_S} {n : Nat} {iv : Int32} (C0 : lw_At p s m meth c b L xs) (F : lw_F s adr D dA) (hl : lv_has ls 4 [(3, .int iv), (2, .ref (adr 11)), (1, .ref (adr 0)), (0, .ref b)]) (v1 : vp_in (iv + 1) L) (v2 : vp_in (iv + 2) L) (v3 : vp_in (iv + 3) L) (v4 : vp_in (iv + 4) L) (v5 : vp_in (iv + 5) L) (hI : th_I4 n σ) (hP : va_P D tt_cl (tm_w adr dA σ) H) (hS : va_S (fun q : Nat => s.heap.size ≤ q) s.heap H locs) (K : lw_G p l e s m below meth c b adr D dA ls) :
    W p l e room_1 s m #[Value.ref b] below meth c H locs 100 80000 (lw_Z below #[Value.ref b] s) (F0 m 648 ls []) := by
  obtain ⟨hx, hb, hr, hml, hown, hts, hX, hbl, hlocks, hgv⟩ := id C0
  refine lv_aload_n hx hb tdl_648 rfl (lv_at hl 2 rfl) ?_
  refine lw_arg 1 C0 hS hl v1 tdl_649 tdl_650 tdl_651 (by decide) tdl_652 tdl_653 ?_
  refine lw_arg 2 C0 hS hl v2 tdl_654 tdl_655 tdl_656 (by decide) tdl_657 tdl_658 ?_
  refine lw_arg 3 C0 hS hl v3 tdl_659 tdl_660 tdl_661 (by decide) tdl_662 tdl_663 ?_
  refine lw_arg 4 C0 hS hl v4 tdl_664 tdl_665 tdl_666 (by decide) tdl_667 tdl_668 ?_
  refine lw_call (q := 0) (j := 57) (B := [.int (xs (iv + 1).toNatClampNeg), .int (xs (iv + 2).toNatClampNeg), .int (xs (iv + 3).toNatClampNeg), .int (xs (iv + 4).toNatClampNeg)]) (st := [])  C0 F tdl_669 (Nat.le_of_ble_eq_true rfl) rfl lw_isX rfl (Nat.le_of_ble_eq_true rfl) (List.mem_of_getElem? (i := 568) (by decide +kernel)) (lw_Q4 (tl4_x_form hI)) rfl rfl (Nat.le_of_ble_eq_true rfl) hP hS hl.1 (fun z σ H locs hI hP hS => ?_)
  refine lv_pop hx hb tdl_672 rfl ?_
  refine lv_aload_n hx hb tdl_673 rfl (lv_at hl 1 rfl) ?_
  refine lw_arg 1 C0 hS hl v1 tdl_674 tdl_675 tdl_676 (by decide) tdl_677 tdl_678 ?_
  refine lw_arg 2 C0 hS hl v2 tdl_679 tdl_680 tdl_681 (by decide) tdl_682 tdl_683 ?_
  refine lw_arg 3 C0 hS hl v3 tdl_684 tdl_685 tdl_686 (by decide) tdl_687 tdl_688 ?_
  refine lw_arg 4 C0 hS hl v4 tdl_689 tdl_690 tdl_691 (by decide) tdl_692 tdl_693 ?_
  refine lw_call (q := 11) (j := 187) (B := [.int (xs (iv + 1).toNatClampNeg), .int (xs (iv + 2).toNatClampNeg), .int (xs (iv + 3).toNatClampNeg), .int (xs (iv + 4).toNatClampNeg)]) (st := [])  C0 F tdl_694 (Nat.le_of_ble_eq_true rfl) rfl lw_isM rfl (Nat.le_of_ble_eq_true rfl) (List.mem_of_getElem? (i := 1346) (by decide +kernel)) (lw_Q4 (tl4_m_form hI)) rfl rfl (Nat.le_of_ble_eq_true rfl) hP hS hl.1 (fun z σ H locs hI hP hS => ?_)
  refine lv_pop hx hb tdl_697 rfl ?_
  refine lv_goto (tgt := 1360) hx hb tdl_698 (by decide) ?_
  exact K n σ H locs hI hP hS
set_option maxHeartbeats 4000000 in
set_option maxRecDepth 100000 in
theorem lw_c13 {p : Program} {l : Launch} {e : Env} {s : State} {m : MethodId} {below : List Frame} {meth : Method} {c : Code} {b L : Nat} {xs : Nat → Int32} {H : Heap} {locs : List Loc} {adr : Nat → Nat} {D : va_G} {dA : Nat → ClassId} {ls : Array Slot} {σ : tm_S} {n : Nat} {iv : Int32} (C0 : lw_At p s m meth c b L xs) (F : lw_F s adr D dA) (hl : lv_has ls 4 [(3, .int iv), (2, .ref (adr 11)), (1, .ref (adr 0)), (0, .ref b)]) (v1 : vp_in (iv + 1) L) (v2 : vp_in (iv + 2) L) (v3 : vp_in (iv + 3) L) (v4 : vp_in (iv + 4) L) (v5 : vp_in (iv + 5) L) (hI : th_I4 n σ) (hP : va_P D tt_cl (tm_w adr dA σ) H) (hS : va_S (fun q : Nat => s.heap.size ≤ q) s.heap H locs) (K : lw_G p l e s m below meth c b adr D dA ls) :
    W p l e room_1 s m #[Value.ref b] below meth c H locs 100 80000 (lw_Z below #[Value.ref b] s) (F0 m 701 ls []) := by
  obtain ⟨hx, hb, hr, hml, hown, hts, hX, hbl, hlocks, hgv⟩ := id C0
  refine lv_aload_n hx hb tdl_701 rfl (lv_at hl 2 rfl) ?_
  refine lw_arg 1 C0 hS hl v1 tdl_702 tdl_703 tdl_704 (by decide) tdl_705 tdl_706 ?_
  refine lw_arg 2 C0 hS hl v2 tdl_707 tdl_708 tdl_709 (by decide) tdl_710 tdl_711 ?_
  refine lw_call (q := 0) (j := 61) (B := [.int (xs (iv + 1).toNatClampNeg), .int (xs (iv + 2).toNatClampNeg)]) (st := [])  C0 F tdl_712 (Nat.le_of_ble_eq_true rfl) rfl lw_isX rfl (Nat.le_of_ble_eq_true rfl) (List.mem_of_getElem? (i := 582) (by decide +kernel)) (lw_Q4 (tl4_x_about hI)) rfl rfl (Nat.le_of_ble_eq_true rfl) hP hS hl.1 (fun z σ H locs hI hP hS => ?_)
  refine lv_pop hx hb tdl_715 rfl ?_
  refine lv_aload_n hx hb tdl_716 rfl (lv_at hl 1 rfl) ?_
  refine lw_arg 1 C0 hS hl v1 tdl_717 tdl_718 tdl_719 (by decide) tdl_720 tdl_721 ?_
  refine lw_arg 2 C0 hS hl v2 tdl_722 tdl_723 tdl_724 (by decide) tdl_725 tdl_726 ?_
  refine lw_call (q := 11) (j := 192) (B := [.int (xs (iv + 1).toNatClampNeg), .int (xs (iv + 2).toNatClampNeg)]) (st := [])  C0 F tdl_727 (Nat.le_of_ble_eq_true rfl) rfl lw_isM rfl (Nat.le_of_ble_eq_true rfl) (List.mem_of_getElem? (i := 1366) (by decide +kernel)) (lw_Q4 (tl4_m_about hI)) rfl rfl (Nat.le_of_ble_eq_true rfl) hP hS hl.1 (fun z σ H locs hI hP hS => ?_)
  refine lv_pop hx hb tdl_730 rfl ?_
  refine lv_goto (tgt := 1360) hx hb tdl_731 (by decide) ?_
  exact K n σ H locs hI hP hS
set_option maxHeartbeats 4000000 in
set_option maxRecDepth 100000 in
theorem lw_c14 {p : Program} {l : Launch} {e : Env} {s : State} {m : MethodId} {below : List Frame} {meth : Method} {c : Code} {b L : Nat} {xs : Nat → Int32} {H : Heap} {locs : List Loc} {adr : Nat → Nat} {D : va_G} {dA : Nat → ClassId} {ls : Array Slot} {σ : tm_S} {n : Nat} {iv : Int32} (C0 : lw_At p s m meth c b L xs) (F : lw_F s adr D dA) (hl : lv_has ls 4 [(3, .int iv), (2, .ref (adr 11)), (1, .ref (adr 0)), (0, .ref b)]) (v1 : vp_in (iv + 1) L) (v2 : vp_in (iv + 2) L) (v3 : vp_in (iv + 3) L) (v4 : vp_in (iv + 4) L) (v5 : vp_in (iv + 5) L) (hI : th_I4 n σ) (hP : va_P D tt_cl (tm_w adr dA σ) H) (hS : va_S (fun q : Nat => s.heap.size ≤ q) s.heap H locs) (K : lw_G p l e s m below meth c b adr D dA ls) :
    W p l e room_1 s m #[Value.ref b] below meth c H locs 100 80000 (lw_Z below #[Value.ref b] s) (F0 m 734 ls []) := by
  obtain ⟨hx, hb, hr, hml, hown, hts, hX, hbl, hlocks, hgv⟩ := id C0
  refine lv_aload_n hx hb tdl_734 rfl (lv_at hl 2 rfl) ?_
  refine lw_arg 1 C0 hS hl v1 tdl_735 tdl_736 tdl_737 (by decide) tdl_738 tdl_739 ?_
  refine lw_arg 2 C0 hS hl v2 tdl_740 tdl_741 tdl_742 (by decide) tdl_743 tdl_744 ?_
  refine lw_call (q := 0) (j := 66) (B := [.int (xs (iv + 1).toNatClampNeg), .int (xs (iv + 2).toNatClampNeg)]) (st := [])  C0 F tdl_745 (Nat.le_of_ble_eq_true rfl) rfl lw_isX rfl (Nat.le_of_ble_eq_true rfl) (List.mem_of_getElem? (i := 598) (by decide +kernel)) (lw_Q4 (tl4_x_partners hI)) rfl rfl (Nat.le_of_ble_eq_true rfl) hP hS hl.1 (fun z σ H locs hI hP hS => ?_)
  refine lv_pop hx hb tdl_748 rfl ?_
  refine lv_aload_n hx hb tdl_749 rfl (lv_at hl 1 rfl) ?_
  refine lw_arg 1 C0 hS hl v1 tdl_750 tdl_751 tdl_752 (by decide) tdl_753 tdl_754 ?_
  refine lw_arg 2 C0 hS hl v2 tdl_755 tdl_756 tdl_757 (by decide) tdl_758 tdl_759 ?_
  refine lw_call (q := 11) (j := 195) (B := [.int (xs (iv + 1).toNatClampNeg), .int (xs (iv + 2).toNatClampNeg)]) (st := [])  C0 F tdl_760 (Nat.le_of_ble_eq_true rfl) rfl lw_isM rfl (Nat.le_of_ble_eq_true rfl) (List.mem_of_getElem? (i := 1378) (by decide +kernel)) (lw_Q4 (tl4_m_partners hI)) rfl rfl (Nat.le_of_ble_eq_true rfl) hP hS hl.1 (fun z σ H locs hI hP hS => ?_)
  refine lv_pop hx hb tdl_763 rfl ?_
  refine lv_goto (tgt := 1360) hx hb tdl_764 (by decide) ?_
  exact K n σ H locs hI hP hS
set_option maxHeartbeats 4000000 in
set_option maxRecDepth 100000 in
theorem lw_c15 {p : Program} {l : Launch} {e : Env} {s : State} {m : MethodId} {below : List Frame} {meth : Method} {c : Code} {b L : Nat} {xs : Nat → Int32} {H : Heap} {locs : List Loc} {adr : Nat → Nat} {D : va_G} {dA : Nat → ClassId} {ls : Array Slot} {σ : tm_S} {n : Nat} {iv : Int32} (C0 : lw_At p s m meth c b L xs) (F : lw_F s adr D dA) (hl : lv_has ls 4 [(3, .int iv), (2, .ref (adr 11)), (1, .ref (adr 0)), (0, .ref b)]) (v1 : vp_in (iv + 1) L) (v2 : vp_in (iv + 2) L) (v3 : vp_in (iv + 3) L) (v4 : vp_in (iv + 4) L) (v5 : vp_in (iv + 5) L) (hI : th_I4 n σ) (hP : va_P D tt_cl (tm_w adr dA σ) H) (hS : va_S (fun q : Nat => s.heap.size ≤ q) s.heap H locs) (K : lw_G p l e s m below meth c b adr D dA ls) :
    W p l e room_1 s m #[Value.ref b] below meth c H locs 100 80000 (lw_Z below #[Value.ref b] s) (F0 m 767 ls []) := by
  obtain ⟨hx, hb, hr, hml, hown, hts, hX, hbl, hlocks, hgv⟩ := id C0
  refine lv_aload_n hx hb tdl_767 rfl (lv_at hl 2 rfl) ?_
  refine lw_arg 1 C0 hS hl v1 tdl_768 tdl_769 tdl_770 (by decide) tdl_771 tdl_772 ?_
  refine lw_arg 2 C0 hS hl v2 tdl_773 tdl_774 tdl_775 (by decide) tdl_776 tdl_777 ?_
  refine lw_call (q := 0) (j := 67) (B := [.int (xs (iv + 1).toNatClampNeg), .int (xs (iv + 2).toNatClampNeg)]) (st := [])  C0 F tdl_778 (Nat.le_of_ble_eq_true rfl) rfl lw_isX rfl (Nat.le_of_ble_eq_true rfl) (List.mem_of_getElem? (i := 602) (by decide +kernel)) (lw_Q4 (tl4_x_split hI)) rfl rfl (Nat.le_of_ble_eq_true rfl) hP hS hl.1 (fun z σ H locs hI hP hS => ?_)
  refine lv_pop hx hb tdl_781 rfl ?_
  refine lv_aload_n hx hb tdl_782 rfl (lv_at hl 1 rfl) ?_
  refine lw_arg 1 C0 hS hl v1 tdl_783 tdl_784 tdl_785 (by decide) tdl_786 tdl_787 ?_
  refine lw_arg 2 C0 hS hl v2 tdl_788 tdl_789 tdl_790 (by decide) tdl_791 tdl_792 ?_
  refine lw_call (q := 11) (j := 196) (B := [.int (xs (iv + 1).toNatClampNeg), .int (xs (iv + 2).toNatClampNeg)]) (st := [])  C0 F tdl_793 (Nat.le_of_ble_eq_true rfl) rfl lw_isM rfl (Nat.le_of_ble_eq_true rfl) (List.mem_of_getElem? (i := 1382) (by decide +kernel)) (lw_Q4 (tl4_m_split hI)) rfl rfl (Nat.le_of_ble_eq_true rfl) hP hS hl.1 (fun z σ H locs hI hP hS => ?_)
  refine lv_pop hx hb tdl_796 rfl ?_
  refine lv_goto (tgt := 1360) hx hb tdl_797 (by decide) ?_
  exact K n σ H locs hI hP hS
set_option maxHeartbeats 4000000 in
set_option maxRecDepth 100000 in
theorem lw_c16 {p : Program} {l : Launch} {e : Env} {s : State} {m : MethodId} {below : List Frame} {meth : Method} {c : Code} {b L : Nat} {xs : Nat → Int32} {H : Heap} {locs : List Loc} {adr : Nat → Nat} {D : va_G} {dA : Nat → ClassId} {ls : Array Slot} {σ : tm_S} {n : Nat} {iv : Int32} (C0 : lw_At p s m meth c b L xs) (F : lw_F s adr D dA) (hl : lv_has ls 4 [(3, .int iv), (2, .ref (adr 11)), (1, .ref (adr 0)), (0, .ref b)]) (v1 : vp_in (iv + 1) L) (v2 : vp_in (iv + 2) L) (v3 : vp_in (iv + 3) L) (v4 : vp_in (iv + 4) L) (v5 : vp_in (iv + 5) L) (hI : th_I4 n σ) (hP : va_P D tt_cl (tm_w adr dA σ) H) (hS : va_S (fun q : Nat => s.heap.size ≤ q) s.heap H locs) (K : lw_G p l e s m below meth c b adr D dA ls) :
    W p l e room_1 s m #[Value.ref b] below meth c H locs 100 80000 (lw_Z below #[Value.ref b] s) (F0 m 800 ls []) := by
  obtain ⟨hx, hb, hr, hml, hown, hts, hX, hbl, hlocks, hgv⟩ := id C0
  refine lv_aload_n hx hb tdl_800 rfl (lv_at hl 2 rfl) ?_
  refine lw_call (q := 0) (j := 68) (B := []) (st := [])  C0 F tdl_801 (Nat.le_of_ble_eq_true rfl) rfl lw_isX rfl (Nat.le_of_ble_eq_true rfl) (List.mem_of_getElem? (i := 606) (by decide +kernel)) (lw_Q4 (tl4_x_full hI)) rfl rfl (Nat.le_of_ble_eq_true rfl) hP hS hl.1 (fun z σ H locs hI hP hS => ?_)
  refine lv_pop hx hb tdl_804 rfl ?_
  refine lv_aload_n hx hb tdl_805 rfl (lv_at hl 1 rfl) ?_
  refine lw_call (q := 11) (j := 197) (B := []) (st := [])  C0 F tdl_806 (Nat.le_of_ble_eq_true rfl) rfl lw_isM rfl (Nat.le_of_ble_eq_true rfl) (List.mem_of_getElem? (i := 1386) (by decide +kernel)) (lw_Q4 (tl4_m_full hI)) rfl rfl (Nat.le_of_ble_eq_true rfl) hP hS hl.1 (fun z σ H locs hI hP hS => ?_)
  refine lv_pop hx hb tdl_809 rfl ?_
  refine lv_goto (tgt := 1360) hx hb tdl_810 (by decide) ?_
  exact K n σ H locs hI hP hS
set_option maxHeartbeats 4000000 in
set_option maxRecDepth 100000 in
theorem lw_c17 {p : Program} {l : Launch} {e : Env} {s : State} {m : MethodId} {below : List Frame} {meth : Method} {c : Code} {b L : Nat} {xs : Nat → Int32} {H : Heap} {locs : List Loc} {adr : Nat → Nat} {D : va_G} {dA : Nat → ClassId} {ls : Array Slot} {σ : tm_S} {n : Nat} {iv : Int32} (C0 : lw_At p s m meth c b L xs) (F : lw_F s adr D dA) (hl : lv_has ls 4 [(3, .int iv), (2, .ref (adr 11)), (1, .ref (adr 0)), (0, .ref b)]) (v1 : vp_in (iv + 1) L) (v2 : vp_in (iv + 2) L) (v3 : vp_in (iv + 3) L) (v4 : vp_in (iv + 4) L) (v5 : vp_in (iv + 5) L) (hI : th_I4 n σ) (hP : va_P D tt_cl (tm_w adr dA σ) H) (hS : va_S (fun q : Nat => s.heap.size ≤ q) s.heap H locs) (K : lw_G p l e s m below meth c b adr D dA ls) :
    W p l e room_1 s m #[Value.ref b] below meth c H locs 100 80000 (lw_Z below #[Value.ref b] s) (F0 m 813 ls []) := by
  obtain ⟨hx, hb, hr, hml, hown, hts, hX, hbl, hlocks, hgv⟩ := id C0
  refine lv_aload_n hx hb tdl_813 rfl (lv_at hl 2 rfl) ?_
  refine lw_arg 1 C0 hS hl v1 tdl_814 tdl_815 tdl_816 (by decide) tdl_817 tdl_818 ?_
  refine lw_arg 2 C0 hS hl v2 tdl_819 tdl_820 tdl_821 (by decide) tdl_822 tdl_823 ?_
  refine lw_call (q := 0) (j := 73) (B := [.int (xs (iv + 1).toNatClampNeg), .int (xs (iv + 2).toNatClampNeg)]) (st := [])  C0 F tdl_824 (Nat.le_of_ble_eq_true rfl) rfl lw_isX rfl (Nat.le_of_ble_eq_true rfl) (List.mem_of_getElem? (i := 631) (by decide +kernel)) (lw_Q4 (tl4_x_pick hI)) rfl rfl (Nat.le_of_ble_eq_true rfl) hP hS hl.1 (fun z σ H locs hI hP hS => ?_)
  refine lv_pop hx hb tdl_827 rfl ?_
  refine lv_aload_n hx hb tdl_828 rfl (lv_at hl 1 rfl) ?_
  refine lw_arg 1 C0 hS hl v1 tdl_829 tdl_830 tdl_831 (by decide) tdl_832 tdl_833 ?_
  refine lw_arg 2 C0 hS hl v2 tdl_834 tdl_835 tdl_836 (by decide) tdl_837 tdl_838 ?_
  refine lw_call (q := 11) (j := 199) (B := [.int (xs (iv + 1).toNatClampNeg), .int (xs (iv + 2).toNatClampNeg)]) (st := [])  C0 F tdl_839 (Nat.le_of_ble_eq_true rfl) rfl lw_isM rfl (Nat.le_of_ble_eq_true rfl) (List.mem_of_getElem? (i := 1394) (by decide +kernel)) (lw_Q4 (tl4_m_pick hI)) rfl rfl (Nat.le_of_ble_eq_true rfl) hP hS hl.1 (fun z σ H locs hI hP hS => ?_)
  refine lv_pop hx hb tdl_842 rfl ?_
  refine lv_goto (tgt := 1360) hx hb tdl_843 (by decide) ?_
  exact K n σ H locs hI hP hS
set_option maxHeartbeats 4000000 in
set_option maxRecDepth 100000 in
theorem lw_c18 {p : Program} {l : Launch} {e : Env} {s : State} {m : MethodId} {below : List Frame} {meth : Method} {c : Code} {b L : Nat} {xs : Nat → Int32} {H : Heap} {locs : List Loc} {adr : Nat → Nat} {D : va_G} {dA : Nat → ClassId} {ls : Array Slot} {σ : tm_S} {n : Nat} {iv : Int32} (C0 : lw_At p s m meth c b L xs) (F : lw_F s adr D dA) (hl : lv_has ls 4 [(3, .int iv), (2, .ref (adr 11)), (1, .ref (adr 0)), (0, .ref b)]) (v1 : vp_in (iv + 1) L) (v2 : vp_in (iv + 2) L) (v3 : vp_in (iv + 3) L) (v4 : vp_in (iv + 4) L) (v5 : vp_in (iv + 5) L) (hI : th_I4 n σ) (hP : va_P D tt_cl (tm_w adr dA σ) H) (hS : va_S (fun q : Nat => s.heap.size ≤ q) s.heap H locs) (K : lw_G p l e s m below meth c b adr D dA ls) :
    W p l e room_1 s m #[Value.ref b] below meth c H locs 100 80000 (lw_Z below #[Value.ref b] s) (F0 m 846 ls []) := by
  obtain ⟨hx, hb, hr, hml, hown, hts, hX, hbl, hlocks, hgv⟩ := id C0
  refine lv_aload_n hx hb tdl_846 rfl (lv_at hl 2 rfl) ?_
  refine lw_arg 1 C0 hS hl v1 tdl_847 tdl_848 tdl_849 (by decide) tdl_850 tdl_851 ?_
  refine lw_call (q := 0) (j := 75) (B := [.int (xs (iv + 1).toNatClampNeg)]) (st := [])  C0 F tdl_852 (Nat.le_of_ble_eq_true rfl) rfl lw_isX rfl (Nat.le_of_ble_eq_true rfl) (List.mem_of_getElem? (i := 639) (by decide +kernel)) (lw_Q4 (tl4_x_rank hI)) rfl rfl (Nat.le_of_ble_eq_true rfl) hP hS hl.1 (fun z σ H locs hI hP hS => ?_)
  refine lv_pop hx hb tdl_855 rfl ?_
  refine lv_aload_n hx hb tdl_856 rfl (lv_at hl 1 rfl) ?_
  refine lw_arg 1 C0 hS hl v1 tdl_857 tdl_858 tdl_859 (by decide) tdl_860 tdl_861 ?_
  refine lw_call (q := 11) (j := 200) (B := [.int (xs (iv + 1).toNatClampNeg)]) (st := [])  C0 F tdl_862 (Nat.le_of_ble_eq_true rfl) rfl lw_isM rfl (Nat.le_of_ble_eq_true rfl) (List.mem_of_getElem? (i := 1398) (by decide +kernel)) (lw_Q4 (tl4_m_rank hI)) rfl rfl (Nat.le_of_ble_eq_true rfl) hP hS hl.1 (fun z σ H locs hI hP hS => ?_)
  refine lv_pop hx hb tdl_865 rfl ?_
  refine lv_goto (tgt := 1360) hx hb tdl_866 (by decide) ?_
  exact K n σ H locs hI hP hS
set_option maxHeartbeats 4000000 in
set_option maxRecDepth 100000 in
theorem lw_c19 {p : Program} {l : Launch} {e : Env} {s : State} {m : MethodId} {below : List Frame} {meth : Method} {c : Code} {b L : Nat} {xs : Nat → Int32} {H : Heap} {locs : List Loc} {adr : Nat → Nat} {D : va_G} {dA : Nat → ClassId} {ls : Array Slot} {σ : tm_S} {n : Nat} {iv : Int32} (C0 : lw_At p s m meth c b L xs) (F : lw_F s adr D dA) (hl : lv_has ls 4 [(3, .int iv), (2, .ref (adr 11)), (1, .ref (adr 0)), (0, .ref b)]) (v1 : vp_in (iv + 1) L) (v2 : vp_in (iv + 2) L) (v3 : vp_in (iv + 3) L) (v4 : vp_in (iv + 4) L) (v5 : vp_in (iv + 5) L) (hI : th_I4 n σ) (hP : va_P D tt_cl (tm_w adr dA σ) H) (hS : va_S (fun q : Nat => s.heap.size ≤ q) s.heap H locs) (K : lw_G p l e s m below meth c b adr D dA ls) :
    W p l e room_1 s m #[Value.ref b] below meth c H locs 100 80000 (lw_Z below #[Value.ref b] s) (F0 m 869 ls []) := by
  obtain ⟨hx, hb, hr, hml, hown, hts, hX, hbl, hlocks, hgv⟩ := id C0
  refine lv_aload_n hx hb tdl_869 rfl (lv_at hl 2 rfl) ?_
  refine lw_arg 1 C0 hS hl v1 tdl_870 tdl_871 tdl_872 (by decide) tdl_873 tdl_874 ?_
  refine lw_arg 2 C0 hS hl v2 tdl_875 tdl_876 tdl_877 (by decide) tdl_878 tdl_879 ?_
  refine lw_call (q := 0) (j := 77) (B := [.int (xs (iv + 1).toNatClampNeg), .int (xs (iv + 2).toNatClampNeg)]) (st := [])  C0 F tdl_880 (Nat.le_of_ble_eq_true rfl) rfl lw_isX rfl (Nat.le_of_ble_eq_true rfl) (List.mem_of_getElem? (i := 647) (by decide +kernel)) (lw_Q4 (tl4_x_fills hI)) rfl rfl (Nat.le_of_ble_eq_true rfl) hP hS hl.1 (fun z σ H locs hI hP hS => ?_)
  refine lv_pop hx hb tdl_883 rfl ?_
  refine lv_aload_n hx hb tdl_884 rfl (lv_at hl 1 rfl) ?_
  refine lw_arg 1 C0 hS hl v1 tdl_885 tdl_886 tdl_887 (by decide) tdl_888 tdl_889 ?_
  refine lw_arg 2 C0 hS hl v2 tdl_890 tdl_891 tdl_892 (by decide) tdl_893 tdl_894 ?_
  refine lw_call (q := 11) (j := 201) (B := [.int (xs (iv + 1).toNatClampNeg), .int (xs (iv + 2).toNatClampNeg)]) (st := [])  C0 F tdl_895 (Nat.le_of_ble_eq_true rfl) rfl lw_isM rfl (Nat.le_of_ble_eq_true rfl) (List.mem_of_getElem? (i := 1402) (by decide +kernel)) (lw_Q4 (tl4_m_fills hI)) rfl rfl (Nat.le_of_ble_eq_true rfl) hP hS hl.1 (fun z σ H locs hI hP hS => ?_)
  refine lv_pop hx hb tdl_898 rfl ?_
  refine lv_goto (tgt := 1360) hx hb tdl_899 (by decide) ?_
  exact K n σ H locs hI hP hS
set_option maxHeartbeats 4000000 in
set_option maxRecDepth 100000 in
theorem lw_c20 {p : Program} {l : Launch} {e : Env} {s : State} {m : MethodId} {below : List Frame} {meth : Method} {c : Code} {b L : Nat} {xs : Nat → Int32} {H : Heap} {locs : List Loc} {adr : Nat → Nat} {D : va_G} {dA : Nat → ClassId} {ls : Array Slot} {σ : tm_S} {n : Nat} {iv : Int32} (C0 : lw_At p s m meth c b L xs) (F : lw_F s adr D dA) (hl : lv_has ls 4 [(3, .int iv), (2, .ref (adr 11)), (1, .ref (adr 0)), (0, .ref b)]) (v1 : vp_in (iv + 1) L) (v2 : vp_in (iv + 2) L) (v3 : vp_in (iv + 3) L) (v4 : vp_in (iv + 4) L) (v5 : vp_in (iv + 5) L) (hI : th_I4 n σ) (hP : va_P D tt_cl (tm_w adr dA σ) H) (hS : va_S (fun q : Nat => s.heap.size ≤ q) s.heap H locs) (K : lw_G p l e s m below meth c b adr D dA ls) :
    W p l e room_1 s m #[Value.ref b] below meth c H locs 100 80000 (lw_Z below #[Value.ref b] s) (F0 m 902 ls []) := by
  obtain ⟨hx, hb, hr, hml, hown, hts, hX, hbl, hlocks, hgv⟩ := id C0
  refine lv_aload_n hx hb tdl_902 rfl (lv_at hl 2 rfl) ?_
  refine lw_arg 1 C0 hS hl v1 tdl_903 tdl_904 tdl_905 (by decide) tdl_906 tdl_907 ?_
  refine lw_arg 2 C0 hS hl v2 tdl_908 tdl_909 tdl_910 (by decide) tdl_911 tdl_912 ?_
  refine lw_arg 3 C0 hS hl v3 tdl_913 tdl_914 tdl_915 (by decide) tdl_916 tdl_917 ?_
  refine lw_call (q := 0) (j := 82) (B := [.int (xs (iv + 1).toNatClampNeg), .int (xs (iv + 2).toNatClampNeg), .int (xs (iv + 3).toNatClampNeg)]) (st := [])  C0 F tdl_918 (Nat.le_of_ble_eq_true rfl) rfl lw_isX rfl (Nat.le_of_ble_eq_true rfl) (List.mem_of_getElem? (i := 671) (by decide +kernel)) (lw_Q4 (tl4_x_fill hI)) rfl rfl (Nat.le_of_ble_eq_true rfl) hP hS hl.1 (fun z σ H locs hI hP hS => ?_)
  refine lv_pop hx hb tdl_921 rfl ?_
  refine lv_aload_n hx hb tdl_922 rfl (lv_at hl 1 rfl) ?_
  refine lw_arg 1 C0 hS hl v1 tdl_923 tdl_924 tdl_925 (by decide) tdl_926 tdl_927 ?_
  refine lw_arg 2 C0 hS hl v2 tdl_928 tdl_929 tdl_930 (by decide) tdl_931 tdl_932 ?_
  refine lw_arg 3 C0 hS hl v3 tdl_933 tdl_934 tdl_935 (by decide) tdl_936 tdl_937 ?_
  refine lw_call (q := 11) (j := 207) (B := [.int (xs (iv + 1).toNatClampNeg), .int (xs (iv + 2).toNatClampNeg), .int (xs (iv + 3).toNatClampNeg)]) (st := [])  C0 F tdl_938 (Nat.le_of_ble_eq_true rfl) rfl lw_isM rfl (Nat.le_of_ble_eq_true rfl) (List.mem_of_getElem? (i := 1426) (by decide +kernel)) (lw_Q4 (tl4_m_fill hI)) rfl rfl (Nat.le_of_ble_eq_true rfl) hP hS hl.1 (fun z σ H locs hI hP hS => ?_)
  refine lv_pop hx hb tdl_941 rfl ?_
  refine lv_goto (tgt := 1360) hx hb tdl_942 (by decide) ?_
  exact K n σ H locs hI hP hS
set_option maxHeartbeats 4000000 in
set_option maxRecDepth 100000 in
theorem lw_c21 {p : Program} {l : Launch} {e : Env} {s : State} {m : MethodId} {below : List Frame} {meth : Method} {c : Code} {b L : Nat} {xs : Nat → Int32} {H : Heap} {locs : List Loc} {adr : Nat → Nat} {D : va_G} {dA : Nat → ClassId} {ls : Array Slot} {σ : tm_S} {n : Nat} {iv : Int32} (C0 : lw_At p s m meth c b L xs) (F : lw_F s adr D dA) (hl : lv_has ls 4 [(3, .int iv), (2, .ref (adr 11)), (1, .ref (adr 0)), (0, .ref b)]) (v1 : vp_in (iv + 1) L) (v2 : vp_in (iv + 2) L) (v3 : vp_in (iv + 3) L) (v4 : vp_in (iv + 4) L) (v5 : vp_in (iv + 5) L) (hI : th_I4 n σ) (hP : va_P D tt_cl (tm_w adr dA σ) H) (hS : va_S (fun q : Nat => s.heap.size ≤ q) s.heap H locs) (K : lw_G p l e s m below meth c b adr D dA ls) :
    W p l e room_1 s m #[Value.ref b] below meth c H locs 100 80000 (lw_Z below #[Value.ref b] s) (F0 m 945 ls []) := by
  obtain ⟨hx, hb, hr, hml, hown, hts, hX, hbl, hlocks, hgv⟩ := id C0
  refine lv_aload_n hx hb tdl_945 rfl (lv_at hl 2 rfl) ?_
  refine lw_arg 1 C0 hS hl v1 tdl_946 tdl_947 tdl_948 (by decide) tdl_949 tdl_950 ?_
  refine lw_arg 2 C0 hS hl v2 tdl_951 tdl_952 tdl_953 (by decide) tdl_954 tdl_955 ?_
  refine lw_call (q := 0) (j := 86) (B := [.int (xs (iv + 1).toNatClampNeg), .int (xs (iv + 2).toNatClampNeg)]) (st := []) (Q' := fun z σ' => tp_pure (xs (iv + 1).toNatClampNeg) (xs (iv + 2).toNatClampNeg) z ∧ th_I4 n σ') C0 F tdl_956 (Nat.le_of_ble_eq_true rfl) rfl lw_isX rfl (Nat.le_of_ble_eq_true rfl) (List.mem_of_getElem? (i := 687) (by decide +kernel)) (tf4_x_pure hI) rfl rfl (Nat.le_of_ble_eq_true rfl) hP hS hl.1 (fun z1 σ1 H locs hQ1 hP hS => ?_)
  refine lv_aload_n hx hb tdl_959 rfl (lv_at hl 1 rfl) ?_
  refine lw_arg 1 C0 hS hl v1 tdl_960 tdl_961 tdl_962 (by decide) tdl_963 tdl_964 ?_
  refine lw_arg 2 C0 hS hl v2 tdl_965 tdl_966 tdl_967 (by decide) tdl_968 tdl_969 ?_
  refine lw_call (q := 11) (j := 208) (B := [.int (xs (iv + 1).toNatClampNeg), .int (xs (iv + 2).toNatClampNeg)]) (st := [.int z1]) (Q' := fun z σ' => tp_pure (xs (iv + 1).toNatClampNeg) (xs (iv + 2).toNatClampNeg) z ∧ th_I4 n σ') C0 F tdl_970 (Nat.le_of_ble_eq_true rfl) rfl lw_isM rfl (Nat.le_of_ble_eq_true rfl) (List.mem_of_getElem? (i := 1430) (by decide +kernel)) (tf4_m_pure hQ1.2) rfl rfl (Nat.le_of_ble_eq_true rfl) hP hS hl.1 (fun z2 σ2 H locs hQ2 hP hS => ?_)
  refine lv_icmp_eq (tgt := 1360) hx hb tdl_973 (by decide) (fun _ => ?_) (fun h => absurd (tp_pure_u hQ1.1 hQ2.1) h)
  exact K n σ2 H locs hQ2.2 hP hS
set_option maxHeartbeats 4000000 in
set_option maxRecDepth 100000 in
theorem lw_c22 {p : Program} {l : Launch} {e : Env} {s : State} {m : MethodId} {below : List Frame} {meth : Method} {c : Code} {b L : Nat} {xs : Nat → Int32} {H : Heap} {locs : List Loc} {adr : Nat → Nat} {D : va_G} {dA : Nat → ClassId} {ls : Array Slot} {σ : tm_S} {n : Nat} {iv : Int32} (C0 : lw_At p s m meth c b L xs) (F : lw_F s adr D dA) (hl : lv_has ls 4 [(3, .int iv), (2, .ref (adr 11)), (1, .ref (adr 0)), (0, .ref b)]) (v1 : vp_in (iv + 1) L) (v2 : vp_in (iv + 2) L) (v3 : vp_in (iv + 3) L) (v4 : vp_in (iv + 4) L) (v5 : vp_in (iv + 5) L) (hI : th_I4 n σ) (hP : va_P D tt_cl (tm_w adr dA σ) H) (hS : va_S (fun q : Nat => s.heap.size ≤ q) s.heap H locs) (K : lw_G p l e s m below meth c b adr D dA ls) :
    W p l e room_1 s m #[Value.ref b] below meth c H locs 100 80000 (lw_Z below #[Value.ref b] s) (F0 m 978 ls []) := by
  obtain ⟨hx, hb, hr, hml, hown, hts, hX, hbl, hlocks, hgv⟩ := id C0
  refine lv_aload_n hx hb tdl_978 rfl (lv_at hl 2 rfl) ?_
  refine lw_arg 1 C0 hS hl v1 tdl_979 tdl_980 tdl_981 (by decide) tdl_982 tdl_983 ?_
  refine lw_arg 2 C0 hS hl v2 tdl_984 tdl_985 tdl_986 (by decide) tdl_987 tdl_988 ?_
  refine lw_call (q := 0) (j := 89) (B := [.int (xs (iv + 1).toNatClampNeg), .int (xs (iv + 2).toNatClampNeg)]) (st := [])  C0 F tdl_989 (Nat.le_of_ble_eq_true rfl) rfl lw_isX rfl (Nat.le_of_ble_eq_true rfl) (List.mem_of_getElem? (i := 699) (by decide +kernel)) (lw_Q4 (tl4_x_period hI)) rfl rfl (Nat.le_of_ble_eq_true rfl) hP hS hl.1 (fun z σ H locs hI hP hS => ?_)
  refine lv_pop hx hb tdl_992 rfl ?_
  refine lv_aload_n hx hb tdl_993 rfl (lv_at hl 1 rfl) ?_
  refine lw_arg 1 C0 hS hl v1 tdl_994 tdl_995 tdl_996 (by decide) tdl_997 tdl_998 ?_
  refine lw_arg 2 C0 hS hl v2 tdl_999 tdl_1000 tdl_1001 (by decide) tdl_1002 tdl_1003 ?_
  refine lw_call (q := 11) (j := 210) (B := [.int (xs (iv + 1).toNatClampNeg), .int (xs (iv + 2).toNatClampNeg)]) (st := [])  C0 F tdl_1004 (Nat.le_of_ble_eq_true rfl) rfl lw_isM rfl (Nat.le_of_ble_eq_true rfl) (List.mem_of_getElem? (i := 1438) (by decide +kernel)) (lw_Q4 (tl4_m_period hI)) rfl rfl (Nat.le_of_ble_eq_true rfl) hP hS hl.1 (fun z σ H locs hI hP hS => ?_)
  refine lv_pop hx hb tdl_1007 rfl ?_
  refine lv_goto (tgt := 1360) hx hb tdl_1008 (by decide) ?_
  exact K n σ H locs hI hP hS
set_option maxHeartbeats 4000000 in
set_option maxRecDepth 100000 in
theorem lw_c23 {p : Program} {l : Launch} {e : Env} {s : State} {m : MethodId} {below : List Frame} {meth : Method} {c : Code} {b L : Nat} {xs : Nat → Int32} {H : Heap} {locs : List Loc} {adr : Nat → Nat} {D : va_G} {dA : Nat → ClassId} {ls : Array Slot} {σ : tm_S} {n : Nat} {iv : Int32} (C0 : lw_At p s m meth c b L xs) (F : lw_F s adr D dA) (hl : lv_has ls 4 [(3, .int iv), (2, .ref (adr 11)), (1, .ref (adr 0)), (0, .ref b)]) (v1 : vp_in (iv + 1) L) (v2 : vp_in (iv + 2) L) (v3 : vp_in (iv + 3) L) (v4 : vp_in (iv + 4) L) (v5 : vp_in (iv + 5) L) (hI : th_I4 n σ) (hP : va_P D tt_cl (tm_w adr dA σ) H) (hS : va_S (fun q : Nat => s.heap.size ≤ q) s.heap H locs) (K : lw_G p l e s m below meth c b adr D dA ls) :
    W p l e room_1 s m #[Value.ref b] below meth c H locs 100 80000 (lw_Z below #[Value.ref b] s) (F0 m 1011 ls []) := by
  obtain ⟨hx, hb, hr, hml, hown, hts, hX, hbl, hlocks, hgv⟩ := id C0
  refine lv_aload_n hx hb tdl_1011 rfl (lv_at hl 2 rfl) ?_
  refine lw_arg 1 C0 hS hl v1 tdl_1012 tdl_1013 tdl_1014 (by decide) tdl_1015 tdl_1016 ?_
  refine lw_arg 2 C0 hS hl v2 tdl_1017 tdl_1018 tdl_1019 (by decide) tdl_1020 tdl_1021 ?_
  refine lw_arg 3 C0 hS hl v3 tdl_1022 tdl_1023 tdl_1024 (by decide) tdl_1025 tdl_1026 ?_
  refine lw_arg 4 C0 hS hl v4 tdl_1027 tdl_1028 tdl_1029 (by decide) tdl_1030 tdl_1031 ?_
  refine lw_arg 5 C0 hS hl v5 tdl_1032 tdl_1033 tdl_1034 (by decide) tdl_1035 tdl_1036 ?_
  refine lw_call (q := 0) (j := 90) (B := [.int (xs (iv + 1).toNatClampNeg), .int (xs (iv + 2).toNatClampNeg), .int (xs (iv + 3).toNatClampNeg), .int (xs (iv + 4).toNatClampNeg), .int (xs (iv + 5).toNatClampNeg)]) (st := [])  C0 F tdl_1037 (Nat.le_of_ble_eq_true rfl) rfl lw_isX rfl (Nat.le_of_ble_eq_true rfl) (List.mem_of_getElem? (i := 704) (by decide +kernel)) (lw_Q4 (tl4_x_feed hI)) rfl rfl (Nat.le_of_ble_eq_true rfl) hP hS hl.1 (fun z σ H locs hI hP hS => ?_)
  refine lv_pop hx hb tdl_1040 rfl ?_
  refine lv_aload_n hx hb tdl_1041 rfl (lv_at hl 1 rfl) ?_
  refine lw_arg 1 C0 hS hl v1 tdl_1042 tdl_1043 tdl_1044 (by decide) tdl_1045 tdl_1046 ?_
  refine lw_arg 2 C0 hS hl v2 tdl_1047 tdl_1048 tdl_1049 (by decide) tdl_1050 tdl_1051 ?_
  refine lw_arg 3 C0 hS hl v3 tdl_1052 tdl_1053 tdl_1054 (by decide) tdl_1055 tdl_1056 ?_
  refine lw_arg 4 C0 hS hl v4 tdl_1057 tdl_1058 tdl_1059 (by decide) tdl_1060 tdl_1061 ?_
  refine lw_arg 5 C0 hS hl v5 tdl_1062 tdl_1063 tdl_1064 (by decide) tdl_1065 tdl_1066 ?_
  refine lw_call (q := 11) (j := 223) (B := [.int (xs (iv + 1).toNatClampNeg), .int (xs (iv + 2).toNatClampNeg), .int (xs (iv + 3).toNatClampNeg), .int (xs (iv + 4).toNatClampNeg), .int (xs (iv + 5).toNatClampNeg)]) (st := [])  C0 F tdl_1067 (Nat.le_of_ble_eq_true rfl) rfl lw_isM rfl (Nat.le_of_ble_eq_true rfl) (List.mem_of_getElem? (i := 1490) (by decide +kernel)) (lw_Q4 (tl4_m_feed hI)) rfl rfl (Nat.le_of_ble_eq_true rfl) hP hS hl.1 (fun z σ H locs hI hP hS => ?_)
  refine lv_pop hx hb tdl_1070 rfl ?_
  refine lv_goto (tgt := 1360) hx hb tdl_1071 (by decide) ?_
  exact K n σ H locs hI hP hS
set_option maxHeartbeats 4000000 in
set_option maxRecDepth 100000 in
theorem lw_c24 {p : Program} {l : Launch} {e : Env} {s : State} {m : MethodId} {below : List Frame} {meth : Method} {c : Code} {b L : Nat} {xs : Nat → Int32} {H : Heap} {locs : List Loc} {adr : Nat → Nat} {D : va_G} {dA : Nat → ClassId} {ls : Array Slot} {σ : tm_S} {n : Nat} {iv : Int32} (C0 : lw_At p s m meth c b L xs) (F : lw_F s adr D dA) (hl : lv_has ls 4 [(3, .int iv), (2, .ref (adr 11)), (1, .ref (adr 0)), (0, .ref b)]) (v1 : vp_in (iv + 1) L) (v2 : vp_in (iv + 2) L) (v3 : vp_in (iv + 3) L) (v4 : vp_in (iv + 4) L) (v5 : vp_in (iv + 5) L) (hI : th_I4 n σ) (hP : va_P D tt_cl (tm_w adr dA σ) H) (hS : va_S (fun q : Nat => s.heap.size ≤ q) s.heap H locs) (K : lw_G p l e s m below meth c b adr D dA ls) :
    W p l e room_1 s m #[Value.ref b] below meth c H locs 100 80000 (lw_Z below #[Value.ref b] s) (F0 m 1074 ls []) := by
  obtain ⟨hx, hb, hr, hml, hown, hts, hX, hbl, hlocks, hgv⟩ := id C0
  refine lv_aload_n hx hb tdl_1074 rfl (lv_at hl 2 rfl) ?_
  refine lw_arg 1 C0 hS hl v1 tdl_1075 tdl_1076 tdl_1077 (by decide) tdl_1078 tdl_1079 ?_
  refine lw_call (q := 0) (j := 95) (B := [.int (xs (iv + 1).toNatClampNeg)]) (st := [])  C0 F tdl_1080 (Nat.le_of_ble_eq_true rfl) rfl lw_isX rfl (Nat.le_of_ble_eq_true rfl) (List.mem_of_getElem? (i := 724) (by decide +kernel)) (lw_Q4 (tl4_x_end hI)) rfl rfl (Nat.le_of_ble_eq_true rfl) hP hS hl.1 (fun z σ H locs hI hP hS => ?_)
  refine lv_pop hx hb tdl_1083 rfl ?_
  refine lv_aload_n hx hb tdl_1084 rfl (lv_at hl 1 rfl) ?_
  refine lw_arg 1 C0 hS hl v1 tdl_1085 tdl_1086 tdl_1087 (by decide) tdl_1088 tdl_1089 ?_
  refine lw_call (q := 11) (j := 225) (B := [.int (xs (iv + 1).toNatClampNeg)]) (st := [])  C0 F tdl_1090 (Nat.le_of_ble_eq_true rfl) rfl lw_isM rfl (Nat.le_of_ble_eq_true rfl) (List.mem_of_getElem? (i := 1498) (by decide +kernel)) (lw_Q4 (tl4_m_end hI)) rfl rfl (Nat.le_of_ble_eq_true rfl) hP hS hl.1 (fun z σ H locs hI hP hS => ?_)
  refine lv_pop hx hb tdl_1093 rfl ?_
  refine lv_goto (tgt := 1360) hx hb tdl_1094 (by decide) ?_
  exact K n σ H locs hI hP hS
set_option maxHeartbeats 4000000 in
set_option maxRecDepth 100000 in
theorem lw_c25 {p : Program} {l : Launch} {e : Env} {s : State} {m : MethodId} {below : List Frame} {meth : Method} {c : Code} {b L : Nat} {xs : Nat → Int32} {H : Heap} {locs : List Loc} {adr : Nat → Nat} {D : va_G} {dA : Nat → ClassId} {ls : Array Slot} {σ : tm_S} {n : Nat} {iv : Int32} (C0 : lw_At p s m meth c b L xs) (F : lw_F s adr D dA) (hl : lv_has ls 4 [(3, .int iv), (2, .ref (adr 11)), (1, .ref (adr 0)), (0, .ref b)]) (v1 : vp_in (iv + 1) L) (v2 : vp_in (iv + 2) L) (v3 : vp_in (iv + 3) L) (v4 : vp_in (iv + 4) L) (v5 : vp_in (iv + 5) L) (hI : th_I4 n σ) (hP : va_P D tt_cl (tm_w adr dA σ) H) (hS : va_S (fun q : Nat => s.heap.size ≤ q) s.heap H locs) (K : lw_G p l e s m below meth c b adr D dA ls) :
    W p l e room_1 s m #[Value.ref b] below meth c H locs 100 80000 (lw_Z below #[Value.ref b] s) (F0 m 1097 ls []) := by
  obtain ⟨hx, hb, hr, hml, hown, hts, hX, hbl, hlocks, hgv⟩ := id C0
  refine lv_aload_n hx hb tdl_1097 rfl (lv_at hl 2 rfl) ?_
  refine lw_call (q := 0) (j := 97) (B := []) (st := [])  C0 F tdl_1098 (Nat.le_of_ble_eq_true rfl) rfl lw_isX rfl (Nat.le_of_ble_eq_true rfl) (List.mem_of_getElem? (i := 732) (by decide +kernel)) (lw_Q4 (tl4_x_load hI)) rfl rfl (Nat.le_of_ble_eq_true rfl) hP hS hl.1 (fun z σ H locs hI hP hS => ?_)
  refine lv_pop hx hb tdl_1101 rfl ?_
  refine lv_aload_n hx hb tdl_1102 rfl (lv_at hl 1 rfl) ?_
  refine lw_call (q := 11) (j := 232) (B := []) (st := [])  C0 F tdl_1103 (Nat.le_of_ble_eq_true rfl) rfl lw_isM rfl (Nat.le_of_ble_eq_true rfl) (List.mem_of_getElem? (i := 1526) (by decide +kernel)) (lw_Q4 (tl4_m_load hI)) rfl rfl (Nat.le_of_ble_eq_true rfl) hP hS hl.1 (fun z σ H locs hI hP hS => ?_)
  refine lv_pop hx hb tdl_1106 rfl ?_
  refine lv_goto (tgt := 1360) hx hb tdl_1107 (by decide) ?_
  exact K n σ H locs hI hP hS
set_option maxHeartbeats 4000000 in
set_option maxRecDepth 100000 in
theorem lw_c26 {p : Program} {l : Launch} {e : Env} {s : State} {m : MethodId} {below : List Frame} {meth : Method} {c : Code} {b L : Nat} {xs : Nat → Int32} {H : Heap} {locs : List Loc} {adr : Nat → Nat} {D : va_G} {dA : Nat → ClassId} {ls : Array Slot} {σ : tm_S} {n : Nat} {iv : Int32} (C0 : lw_At p s m meth c b L xs) (F : lw_F s adr D dA) (hl : lv_has ls 4 [(3, .int iv), (2, .ref (adr 11)), (1, .ref (adr 0)), (0, .ref b)]) (v1 : vp_in (iv + 1) L) (v2 : vp_in (iv + 2) L) (v3 : vp_in (iv + 3) L) (v4 : vp_in (iv + 4) L) (v5 : vp_in (iv + 5) L) (hI : th_I4 n σ) (hP : va_P D tt_cl (tm_w adr dA σ) H) (hS : va_S (fun q : Nat => s.heap.size ≤ q) s.heap H locs) (K : lw_G p l e s m below meth c b adr D dA ls) :
    W p l e room_1 s m #[Value.ref b] below meth c H locs 100 80000 (lw_Z below #[Value.ref b] s) (F0 m 1110 ls []) := by
  obtain ⟨hx, hb, hr, hml, hown, hts, hX, hbl, hlocks, hgv⟩ := id C0
  refine lv_aload_n hx hb tdl_1110 rfl (lv_at hl 2 rfl) ?_
  refine lw_arg 1 C0 hS hl v1 tdl_1111 tdl_1112 tdl_1113 (by decide) tdl_1114 tdl_1115 ?_
  refine lw_call (q := 0) (j := 131) (B := [.int (xs (iv + 1).toNatClampNeg)]) (st := [])  C0 F tdl_1116 (Nat.le_of_ble_eq_true rfl) rfl lw_isX rfl (Nat.le_of_ble_eq_true rfl) (List.mem_of_getElem? (i := 946) (by decide +kernel)) (lw_Q4 (tl4_x_fault hI)) rfl rfl (Nat.le_of_ble_eq_true rfl) hP hS hl.1 (fun z σ H locs hI hP hS => ?_)
  refine lv_pop hx hb tdl_1119 rfl ?_
  refine lv_aload_n hx hb tdl_1120 rfl (lv_at hl 1 rfl) ?_
  refine lw_arg 1 C0 hS hl v1 tdl_1121 tdl_1122 tdl_1123 (by decide) tdl_1124 tdl_1125 ?_
  refine lw_call (q := 11) (j := 243) (B := [.int (xs (iv + 1).toNatClampNeg)]) (st := [])  C0 F tdl_1126 (Nat.le_of_ble_eq_true rfl) rfl lw_isM rfl (Nat.le_of_ble_eq_true rfl) (List.mem_of_getElem? (i := 1570) (by decide +kernel)) (lw_Q4 (tl4_m_fault hI)) rfl rfl (Nat.le_of_ble_eq_true rfl) hP hS hl.1 (fun z σ H locs hI hP hS => ?_)
  refine lv_pop hx hb tdl_1129 rfl ?_
  refine lv_goto (tgt := 1360) hx hb tdl_1130 (by decide) ?_
  exact K n σ H locs hI hP hS
set_option maxHeartbeats 4000000 in
set_option maxRecDepth 100000 in
theorem lw_c27 {p : Program} {l : Launch} {e : Env} {s : State} {m : MethodId} {below : List Frame} {meth : Method} {c : Code} {b L : Nat} {xs : Nat → Int32} {H : Heap} {locs : List Loc} {adr : Nat → Nat} {D : va_G} {dA : Nat → ClassId} {ls : Array Slot} {σ : tm_S} {n : Nat} {iv : Int32} (C0 : lw_At p s m meth c b L xs) (F : lw_F s adr D dA) (hl : lv_has ls 4 [(3, .int iv), (2, .ref (adr 11)), (1, .ref (adr 0)), (0, .ref b)]) (v1 : vp_in (iv + 1) L) (v2 : vp_in (iv + 2) L) (v3 : vp_in (iv + 3) L) (v4 : vp_in (iv + 4) L) (v5 : vp_in (iv + 5) L) (hI : th_I4 n σ) (hP : va_P D tt_cl (tm_w adr dA σ) H) (hS : va_S (fun q : Nat => s.heap.size ≤ q) s.heap H locs) (K : lw_G p l e s m below meth c b adr D dA ls) :
    W p l e room_1 s m #[Value.ref b] below meth c H locs 100 80000 (lw_Z below #[Value.ref b] s) (F0 m 1133 ls []) := by
  obtain ⟨hx, hb, hr, hml, hown, hts, hX, hbl, hlocks, hgv⟩ := id C0
  refine lv_aload_n hx hb tdl_1133 rfl (lv_at hl 2 rfl) ?_
  refine lw_arg 1 C0 hS hl v1 tdl_1134 tdl_1135 tdl_1136 (by decide) tdl_1137 tdl_1138 ?_
  refine lw_call (q := 0) (j := 134) (B := [.int (xs (iv + 1).toNatClampNeg)]) (st := [])  C0 F tdl_1139 (Nat.le_of_ble_eq_true rfl) rfl lw_isX rfl (Nat.le_of_ble_eq_true rfl) (List.mem_of_getElem? (i := 958) (by decide +kernel)) (lw_Q4 (tl4_x_score hI)) rfl rfl (Nat.le_of_ble_eq_true rfl) hP hS hl.1 (fun z σ H locs hI hP hS => ?_)
  refine lv_pop hx hb tdl_1142 rfl ?_
  refine lv_aload_n hx hb tdl_1143 rfl (lv_at hl 1 rfl) ?_
  refine lw_arg 1 C0 hS hl v1 tdl_1144 tdl_1145 tdl_1146 (by decide) tdl_1147 tdl_1148 ?_
  refine lw_call (q := 11) (j := 211) (B := [.int (xs (iv + 1).toNatClampNeg)]) (st := [])  C0 F tdl_1149 (Nat.le_of_ble_eq_true rfl) rfl lw_isM rfl (Nat.le_of_ble_eq_true rfl) (List.mem_of_getElem? (i := 1442) (by decide +kernel)) (lw_Q4 (tl4_m_score hI)) rfl rfl (Nat.le_of_ble_eq_true rfl) hP hS hl.1 (fun z σ H locs hI hP hS => ?_)
  refine lv_pop hx hb tdl_1152 rfl ?_
  refine lv_goto (tgt := 1360) hx hb tdl_1153 (by decide) ?_
  exact K n σ H locs hI hP hS
set_option maxHeartbeats 4000000 in
set_option maxRecDepth 100000 in
theorem lw_c28 {p : Program} {l : Launch} {e : Env} {s : State} {m : MethodId} {below : List Frame} {meth : Method} {c : Code} {b L : Nat} {xs : Nat → Int32} {H : Heap} {locs : List Loc} {adr : Nat → Nat} {D : va_G} {dA : Nat → ClassId} {ls : Array Slot} {σ : tm_S} {n : Nat} {iv : Int32} (C0 : lw_At p s m meth c b L xs) (F : lw_F s adr D dA) (hl : lv_has ls 4 [(3, .int iv), (2, .ref (adr 11)), (1, .ref (adr 0)), (0, .ref b)]) (v1 : vp_in (iv + 1) L) (v2 : vp_in (iv + 2) L) (v3 : vp_in (iv + 3) L) (v4 : vp_in (iv + 4) L) (v5 : vp_in (iv + 5) L) (hI : th_I4 n σ) (hP : va_P D tt_cl (tm_w adr dA σ) H) (hS : va_S (fun q : Nat => s.heap.size ≤ q) s.heap H locs) (K : lw_G p l e s m below meth c b adr D dA ls) :
    W p l e room_1 s m #[Value.ref b] below meth c H locs 100 80000 (lw_Z below #[Value.ref b] s) (F0 m 1156 ls []) := by
  obtain ⟨hx, hb, hr, hml, hown, hts, hX, hbl, hlocks, hgv⟩ := id C0
  refine lv_aload_n hx hb tdl_1156 rfl (lv_at hl 2 rfl) ?_
  refine lw_arg 1 C0 hS hl v1 tdl_1157 tdl_1158 tdl_1159 (by decide) tdl_1160 tdl_1161 ?_
  refine lw_arg 2 C0 hS hl v2 tdl_1162 tdl_1163 tdl_1164 (by decide) tdl_1165 tdl_1166 ?_
  refine lw_call (q := 0) (j := 140) (B := [.int (xs (iv + 1).toNatClampNeg), .int (xs (iv + 2).toNatClampNeg)]) (st := [])  C0 F tdl_1167 (Nat.le_of_ble_eq_true rfl) rfl lw_isX rfl (Nat.le_of_ble_eq_true rfl) (List.mem_of_getElem? (i := 987) (by decide +kernel)) (lw_Q4 (tl4_x_voice hI)) rfl rfl (Nat.le_of_ble_eq_true rfl) hP hS hl.1 (fun z σ H locs hI hP hS => ?_)
  refine lv_pop hx hb tdl_1170 rfl ?_
  refine lv_aload_n hx hb tdl_1171 rfl (lv_at hl 1 rfl) ?_
  refine lw_arg 1 C0 hS hl v1 tdl_1172 tdl_1173 tdl_1174 (by decide) tdl_1175 tdl_1176 ?_
  refine lw_arg 2 C0 hS hl v2 tdl_1177 tdl_1178 tdl_1179 (by decide) tdl_1180 tdl_1181 ?_
  refine lw_call (q := 11) (j := 215) (B := [.int (xs (iv + 1).toNatClampNeg), .int (xs (iv + 2).toNatClampNeg)]) (st := [])  C0 F tdl_1182 (Nat.le_of_ble_eq_true rfl) rfl lw_isM rfl (Nat.le_of_ble_eq_true rfl) (List.mem_of_getElem? (i := 1458) (by decide +kernel)) (lw_Q4 (tl4_m_voice hI)) rfl rfl (Nat.le_of_ble_eq_true rfl) hP hS hl.1 (fun z σ H locs hI hP hS => ?_)
  refine lv_pop hx hb tdl_1185 rfl ?_
  refine lv_goto (tgt := 1360) hx hb tdl_1186 (by decide) ?_
  exact K n σ H locs hI hP hS
set_option maxHeartbeats 4000000 in
set_option maxRecDepth 100000 in
theorem lw_c29 {p : Program} {l : Launch} {e : Env} {s : State} {m : MethodId} {below : List Frame} {meth : Method} {c : Code} {b L : Nat} {xs : Nat → Int32} {H : Heap} {locs : List Loc} {adr : Nat → Nat} {D : va_G} {dA : Nat → ClassId} {ls : Array Slot} {σ : tm_S} {n : Nat} {iv : Int32} (C0 : lw_At p s m meth c b L xs) (F : lw_F s adr D dA) (hl : lv_has ls 4 [(3, .int iv), (2, .ref (adr 11)), (1, .ref (adr 0)), (0, .ref b)]) (v1 : vp_in (iv + 1) L) (v2 : vp_in (iv + 2) L) (v3 : vp_in (iv + 3) L) (v4 : vp_in (iv + 4) L) (v5 : vp_in (iv + 5) L) (hI : th_I4 n σ) (hP : va_P D tt_cl (tm_w adr dA σ) H) (hS : va_S (fun q : Nat => s.heap.size ≤ q) s.heap H locs) (K : lw_G p l e s m below meth c b adr D dA ls) :
    W p l e room_1 s m #[Value.ref b] below meth c H locs 100 80000 (lw_Z below #[Value.ref b] s) (F0 m 1189 ls []) := by
  obtain ⟨hx, hb, hr, hml, hown, hts, hX, hbl, hlocks, hgv⟩ := id C0
  refine lv_aload_n hx hb tdl_1189 rfl (lv_at hl 2 rfl) ?_
  refine lw_arg 1 C0 hS hl v1 tdl_1190 tdl_1191 tdl_1192 (by decide) tdl_1193 tdl_1194 ?_
  refine lw_arg 2 C0 hS hl v2 tdl_1195 tdl_1196 tdl_1197 (by decide) tdl_1198 tdl_1199 ?_
  refine lw_call (q := 0) (j := 146) (B := [.int (xs (iv + 1).toNatClampNeg), .int (xs (iv + 2).toNatClampNeg)]) (st := [])  C0 F tdl_1200 (Nat.le_of_ble_eq_true rfl) rfl lw_isX rfl (Nat.le_of_ble_eq_true rfl) (List.mem_of_getElem? (i := 1012) (by decide +kernel)) (lw_Q4 (tl4_x_sings hI)) rfl rfl (Nat.le_of_ble_eq_true rfl) hP hS hl.1 (fun z σ H locs hI hP hS => ?_)
  refine lv_pop hx hb tdl_1203 rfl ?_
  refine lv_aload_n hx hb tdl_1204 rfl (lv_at hl 1 rfl) ?_
  refine lw_arg 1 C0 hS hl v1 tdl_1205 tdl_1206 tdl_1207 (by decide) tdl_1208 tdl_1209 ?_
  refine lw_arg 2 C0 hS hl v2 tdl_1210 tdl_1211 tdl_1212 (by decide) tdl_1213 tdl_1214 ?_
  refine lw_call (q := 11) (j := 218) (B := [.int (xs (iv + 1).toNatClampNeg), .int (xs (iv + 2).toNatClampNeg)]) (st := [])  C0 F tdl_1215 (Nat.le_of_ble_eq_true rfl) rfl lw_isM rfl (Nat.le_of_ble_eq_true rfl) (List.mem_of_getElem? (i := 1470) (by decide +kernel)) (lw_Q4 (tl4_m_sings hI)) rfl rfl (Nat.le_of_ble_eq_true rfl) hP hS hl.1 (fun z σ H locs hI hP hS => ?_)
  refine lv_pop hx hb tdl_1218 rfl ?_
  refine lv_goto (tgt := 1360) hx hb tdl_1219 (by decide) ?_
  exact K n σ H locs hI hP hS
set_option maxHeartbeats 4000000 in
set_option maxRecDepth 100000 in
theorem lw_c30 {p : Program} {l : Launch} {e : Env} {s : State} {m : MethodId} {below : List Frame} {meth : Method} {c : Code} {b L : Nat} {xs : Nat → Int32} {H : Heap} {locs : List Loc} {adr : Nat → Nat} {D : va_G} {dA : Nat → ClassId} {ls : Array Slot} {σ : tm_S} {n : Nat} {iv : Int32} (C0 : lw_At p s m meth c b L xs) (F : lw_F s adr D dA) (hl : lv_has ls 4 [(3, .int iv), (2, .ref (adr 11)), (1, .ref (adr 0)), (0, .ref b)]) (v1 : vp_in (iv + 1) L) (v2 : vp_in (iv + 2) L) (v3 : vp_in (iv + 3) L) (v4 : vp_in (iv + 4) L) (v5 : vp_in (iv + 5) L) (hI : th_I4 n σ) (hP : va_P D tt_cl (tm_w adr dA σ) H) (hS : va_S (fun q : Nat => s.heap.size ≤ q) s.heap H locs) (K : lw_G p l e s m below meth c b adr D dA ls) :
    W p l e room_1 s m #[Value.ref b] below meth c H locs 100 80000 (lw_Z below #[Value.ref b] s) (F0 m 1222 ls []) := by
  obtain ⟨hx, hb, hr, hml, hown, hts, hX, hbl, hlocks, hgv⟩ := id C0
  refine lv_aload_n hx hb tdl_1222 rfl (lv_at hl 2 rfl) ?_
  refine lw_arg 1 C0 hS hl v1 tdl_1223 tdl_1224 tdl_1225 (by decide) tdl_1226 tdl_1227 ?_
  refine lw_call (q := 0) (j := 147) (B := [.int (xs (iv + 1).toNatClampNeg)]) (st := [])  C0 F tdl_1228 (Nat.le_of_ble_eq_true rfl) rfl lw_isX rfl (Nat.le_of_ble_eq_true rfl) (List.mem_of_getElem? (i := 1017) (by decide +kernel)) (lw_Q4 (tl4_x_chord hI)) rfl rfl (Nat.le_of_ble_eq_true rfl) hP hS hl.1 (fun z σ H locs hI hP hS => ?_)
  refine lv_pop hx hb tdl_1231 rfl ?_
  refine lv_aload_n hx hb tdl_1232 rfl (lv_at hl 1 rfl) ?_
  refine lw_arg 1 C0 hS hl v1 tdl_1233 tdl_1234 tdl_1235 (by decide) tdl_1236 tdl_1237 ?_
  refine lw_call (q := 11) (j := 220) (B := [.int (xs (iv + 1).toNatClampNeg)]) (st := [])  C0 F tdl_1238 (Nat.le_of_ble_eq_true rfl) rfl lw_isM rfl (Nat.le_of_ble_eq_true rfl) (List.mem_of_getElem? (i := 1478) (by decide +kernel)) (lw_Q4 (tl4_m_chord hI)) rfl rfl (Nat.le_of_ble_eq_true rfl) hP hS hl.1 (fun z σ H locs hI hP hS => ?_)
  refine lv_pop hx hb tdl_1241 rfl ?_
  refine lv_goto (tgt := 1360) hx hb tdl_1242 (by decide) ?_
  exact K n σ H locs hI hP hS
set_option maxHeartbeats 4000000 in
set_option maxRecDepth 100000 in
theorem lw_c31 {p : Program} {l : Launch} {e : Env} {s : State} {m : MethodId} {below : List Frame} {meth : Method} {c : Code} {b L : Nat} {xs : Nat → Int32} {H : Heap} {locs : List Loc} {adr : Nat → Nat} {D : va_G} {dA : Nat → ClassId} {ls : Array Slot} {σ : tm_S} {n : Nat} {iv : Int32} (C0 : lw_At p s m meth c b L xs) (F : lw_F s adr D dA) (hl : lv_has ls 4 [(3, .int iv), (2, .ref (adr 11)), (1, .ref (adr 0)), (0, .ref b)]) (v1 : vp_in (iv + 1) L) (v2 : vp_in (iv + 2) L) (v3 : vp_in (iv + 3) L) (v4 : vp_in (iv + 4) L) (v5 : vp_in (iv + 5) L) (hI : th_I4 n σ) (hP : va_P D tt_cl (tm_w adr dA σ) H) (hS : va_S (fun q : Nat => s.heap.size ≤ q) s.heap H locs) (K : lw_G p l e s m below meth c b adr D dA ls) :
    W p l e room_1 s m #[Value.ref b] below meth c H locs 100 80000 (lw_Z below #[Value.ref b] s) (F0 m 1245 ls []) := by
  obtain ⟨hx, hb, hr, hml, hown, hts, hX, hbl, hlocks, hgv⟩ := id C0
  refine lv_aload_n hx hb tdl_1245 rfl (lv_at hl 2 rfl) ?_
  refine lw_arg 1 C0 hS hl v1 tdl_1246 tdl_1247 tdl_1248 (by decide) tdl_1249 tdl_1250 ?_
  refine lw_arg 2 C0 hS hl v2 tdl_1251 tdl_1252 tdl_1253 (by decide) tdl_1254 tdl_1255 ?_
  refine lw_call (q := 0) (j := 148) (B := [.int (xs (iv + 1).toNatClampNeg), .int (xs (iv + 2).toNatClampNeg)]) (st := [])  C0 F tdl_1256 (Nat.le_of_ble_eq_true rfl) rfl lw_isX rfl (Nat.le_of_ble_eq_true rfl) (List.mem_of_getElem? (i := 1021) (by decide +kernel)) (lw_Q4 (tl4_x_fit hI)) rfl rfl (Nat.le_of_ble_eq_true rfl) hP hS hl.1 (fun z σ H locs hI hP hS => ?_)
  refine lv_pop hx hb tdl_1259 rfl ?_
  refine lv_aload_n hx hb tdl_1260 rfl (lv_at hl 1 rfl) ?_
  refine lw_arg 1 C0 hS hl v1 tdl_1261 tdl_1262 tdl_1263 (by decide) tdl_1264 tdl_1265 ?_
  refine lw_arg 2 C0 hS hl v2 tdl_1266 tdl_1267 tdl_1268 (by decide) tdl_1269 tdl_1270 ?_
  refine lw_call (q := 11) (j := 221) (B := [.int (xs (iv + 1).toNatClampNeg), .int (xs (iv + 2).toNatClampNeg)]) (st := [])  C0 F tdl_1271 (Nat.le_of_ble_eq_true rfl) rfl lw_isM rfl (Nat.le_of_ble_eq_true rfl) (List.mem_of_getElem? (i := 1482) (by decide +kernel)) (lw_Q4 (tl4_m_fit hI)) rfl rfl (Nat.le_of_ble_eq_true rfl) hP hS hl.1 (fun z σ H locs hI hP hS => ?_)
  refine lv_pop hx hb tdl_1274 rfl ?_
  refine lv_goto (tgt := 1360) hx hb tdl_1275 (by decide) ?_
  exact K n σ H locs hI hP hS
set_option maxHeartbeats 4000000 in
set_option maxRecDepth 100000 in
theorem lw_c32 {p : Program} {l : Launch} {e : Env} {s : State} {m : MethodId} {below : List Frame} {meth : Method} {c : Code} {b L : Nat} {xs : Nat → Int32} {H : Heap} {locs : List Loc} {adr : Nat → Nat} {D : va_G} {dA : Nat → ClassId} {ls : Array Slot} {σ : tm_S} {n : Nat} {iv : Int32} (C0 : lw_At p s m meth c b L xs) (F : lw_F s adr D dA) (hl : lv_has ls 4 [(3, .int iv), (2, .ref (adr 11)), (1, .ref (adr 0)), (0, .ref b)]) (v1 : vp_in (iv + 1) L) (v2 : vp_in (iv + 2) L) (v3 : vp_in (iv + 3) L) (v4 : vp_in (iv + 4) L) (v5 : vp_in (iv + 5) L) (hI : th_I4 n σ) (hP : va_P D tt_cl (tm_w adr dA σ) H) (hS : va_S (fun q : Nat => s.heap.size ≤ q) s.heap H locs) (K : lw_G p l e s m below meth c b adr D dA ls) :
    W p l e room_1 s m #[Value.ref b] below meth c H locs 100 80000 (lw_Z below #[Value.ref b] s) (F0 m 1278 ls []) := by
  obtain ⟨hx, hb, hr, hml, hown, hts, hX, hbl, hlocks, hgv⟩ := id C0
  refine lv_aload_n hx hb tdl_1278 rfl (lv_at hl 2 rfl) ?_
  refine lw_arg 1 C0 hS hl v1 tdl_1279 tdl_1280 tdl_1281 (by decide) tdl_1282 tdl_1283 ?_
  refine lw_arg 2 C0 hS hl v2 tdl_1284 tdl_1285 tdl_1286 (by decide) tdl_1287 tdl_1288 ?_
  refine lw_call (q := 0) (j := 150) (B := [.int (xs (iv + 1).toNatClampNeg), .int (xs (iv + 2).toNatClampNeg)]) (st := [])  C0 F tdl_1289 (Nat.le_of_ble_eq_true rfl) rfl lw_isX rfl (Nat.le_of_ble_eq_true rfl) (List.mem_of_getElem? (i := 1029) (by decide +kernel)) (lw_Q4 (tl4_x_keep hI)) rfl rfl (Nat.le_of_ble_eq_true rfl) hP hS hl.1 (fun z σ H locs hI hP hS => ?_)
  refine lv_pop hx hb tdl_1292 rfl ?_
  refine lv_aload_n hx hb tdl_1293 rfl (lv_at hl 1 rfl) ?_
  refine lw_arg 1 C0 hS hl v1 tdl_1294 tdl_1295 tdl_1296 (by decide) tdl_1297 tdl_1298 ?_
  refine lw_arg 2 C0 hS hl v2 tdl_1299 tdl_1300 tdl_1301 (by decide) tdl_1302 tdl_1303 ?_
  refine lw_call (q := 11) (j := 222) (B := [.int (xs (iv + 1).toNatClampNeg), .int (xs (iv + 2).toNatClampNeg)]) (st := [])  C0 F tdl_1304 (Nat.le_of_ble_eq_true rfl) rfl lw_isM rfl (Nat.le_of_ble_eq_true rfl) (List.mem_of_getElem? (i := 1486) (by decide +kernel)) (lw_Q4 (tl4_m_keep hI)) rfl rfl (Nat.le_of_ble_eq_true rfl) hP hS hl.1 (fun z σ H locs hI hP hS => ?_)
  refine lv_pop hx hb tdl_1307 rfl ?_
  refine lv_goto (tgt := 1360) hx hb tdl_1308 (by decide) ?_
  exact K n σ H locs hI hP hS
set_option maxHeartbeats 4000000 in
set_option maxRecDepth 100000 in
theorem lw_c33 {p : Program} {l : Launch} {e : Env} {s : State} {m : MethodId} {below : List Frame} {meth : Method} {c : Code} {b L : Nat} {xs : Nat → Int32} {H : Heap} {locs : List Loc} {adr : Nat → Nat} {D : va_G} {dA : Nat → ClassId} {ls : Array Slot} {σ : tm_S} {n : Nat} {iv : Int32} (C0 : lw_At p s m meth c b L xs) (F : lw_F s adr D dA) (hl : lv_has ls 4 [(3, .int iv), (2, .ref (adr 11)), (1, .ref (adr 0)), (0, .ref b)]) (v1 : vp_in (iv + 1) L) (v2 : vp_in (iv + 2) L) (v3 : vp_in (iv + 3) L) (v4 : vp_in (iv + 4) L) (v5 : vp_in (iv + 5) L) (hI : th_I4 n σ) (hP : va_P D tt_cl (tm_w adr dA σ) H) (hS : va_S (fun q : Nat => s.heap.size ≤ q) s.heap H locs) (K : lw_G p l e s m below meth c b adr D dA ls) :
    W p l e room_1 s m #[Value.ref b] below meth c H locs 100 80000 (lw_Z below #[Value.ref b] s) (F0 m 1311 ls []) := by
  obtain ⟨hx, hb, hr, hml, hown, hts, hX, hbl, hlocks, hgv⟩ := id C0
  refine lv_aload_n hx hb tdl_1311 rfl (lv_at hl 2 rfl) ?_
  refine lw_call (q := 0) (j := 151) (B := []) (st := [])  C0 F tdl_1312 (Nat.le_of_ble_eq_true rfl) rfl lw_isX rfl (Nat.le_of_ble_eq_true rfl) (List.mem_of_getElem? (i := 1034) (by decide +kernel)) (lw_Q4 (tl4_x_write hI)) rfl rfl (Nat.le_of_ble_eq_true rfl) hP hS hl.1 (fun z σ H locs hI hP hS => ?_)
  refine lv_pop hx hb tdl_1315 rfl ?_
  refine lv_aload_n hx hb tdl_1316 rfl (lv_at hl 1 rfl) ?_
  refine lw_call (q := 11) (j := 228) (B := []) (st := [])  C0 F tdl_1317 (Nat.le_of_ble_eq_true rfl) rfl lw_isM rfl (Nat.le_of_ble_eq_true rfl) (List.mem_of_getElem? (i := 1510) (by decide +kernel)) (lw_Q4 (tl4_m_write hI)) rfl rfl (Nat.le_of_ble_eq_true rfl) hP hS hl.1 (fun z σ H locs hI hP hS => ?_)
  refine lv_pop hx hb tdl_1320 rfl ?_
  refine lv_goto (tgt := 1360) hx hb tdl_1321 (by decide) ?_
  exact K n σ H locs hI hP hS
set_option maxHeartbeats 4000000 in
set_option maxRecDepth 100000 in
theorem lw_c34 {p : Program} {l : Launch} {e : Env} {s : State} {m : MethodId} {below : List Frame} {meth : Method} {c : Code} {b L : Nat} {xs : Nat → Int32} {H : Heap} {locs : List Loc} {adr : Nat → Nat} {D : va_G} {dA : Nat → ClassId} {ls : Array Slot} {σ : tm_S} {n : Nat} {iv : Int32} (C0 : lw_At p s m meth c b L xs) (F : lw_F s adr D dA) (hl : lv_has ls 4 [(3, .int iv), (2, .ref (adr 11)), (1, .ref (adr 0)), (0, .ref b)]) (v1 : vp_in (iv + 1) L) (v2 : vp_in (iv + 2) L) (v3 : vp_in (iv + 3) L) (v4 : vp_in (iv + 4) L) (v5 : vp_in (iv + 5) L) (hI : th_I4 n σ) (hP : va_P D tt_cl (tm_w adr dA σ) H) (hS : va_S (fun q : Nat => s.heap.size ≤ q) s.heap H locs) (K : lw_G p l e s m below meth c b adr D dA ls) :
    W p l e room_1 s m #[Value.ref b] below meth c H locs 100 80000 (lw_Z below #[Value.ref b] s) (F0 m 1324 ls []) := by
  obtain ⟨hx, hb, hr, hml, hown, hts, hX, hbl, hlocks, hgv⟩ := id C0
  refine lv_aload_n hx hb tdl_1324 rfl (lv_at hl 2 rfl) ?_
  refine lw_arg 1 C0 hS hl v1 tdl_1325 tdl_1326 tdl_1327 (by decide) tdl_1328 tdl_1329 ?_
  refine lw_call (q := 0) (j := 157) (B := [.int (xs (iv + 1).toNatClampNeg)]) (st := [])  C0 F tdl_1330 (Nat.le_of_ble_eq_true rfl) rfl lw_isX rfl (Nat.le_of_ble_eq_true rfl) (List.mem_of_getElem? (i := 1067) (by decide +kernel)) (lw_Q4 (tl4_x_out hI)) rfl rfl (Nat.le_of_ble_eq_true rfl) hP hS hl.1 (fun z σ H locs hI hP hS => ?_)
  refine lv_pop hx hb tdl_1333 rfl ?_
  refine lv_aload_n hx hb tdl_1334 rfl (lv_at hl 1 rfl) ?_
  refine lw_arg 1 C0 hS hl v1 tdl_1335 tdl_1336 tdl_1337 (by decide) tdl_1338 tdl_1339 ?_
  refine lw_call (q := 11) (j := 227) (B := [.int (xs (iv + 1).toNatClampNeg)]) (st := [])  C0 F tdl_1340 (Nat.le_of_ble_eq_true rfl) rfl lw_isM rfl (Nat.le_of_ble_eq_true rfl) (List.mem_of_getElem? (i := 1506) (by decide +kernel)) (lw_Q4 (tl4_m_out hI)) rfl rfl (Nat.le_of_ble_eq_true rfl) hP hS hl.1 (fun z σ H locs hI hP hS => ?_)
  refine lv_pop hx hb tdl_1343 rfl ?_
  refine lv_goto (tgt := 1360) hx hb tdl_1344 (by decide) ?_
  exact K n σ H locs hI hP hS
set_option maxHeartbeats 4000000 in
set_option maxRecDepth 100000 in
theorem lw_c35 {p : Program} {l : Launch} {e : Env} {s : State} {m : MethodId} {below : List Frame} {meth : Method} {c : Code} {b L : Nat} {xs : Nat → Int32} {H : Heap} {locs : List Loc} {adr : Nat → Nat} {D : va_G} {dA : Nat → ClassId} {ls : Array Slot} {σ : tm_S} {n : Nat} {iv : Int32} (C0 : lw_At p s m meth c b L xs) (F : lw_F s adr D dA) (hl : lv_has ls 4 [(3, .int iv), (2, .ref (adr 11)), (1, .ref (adr 0)), (0, .ref b)]) (v1 : vp_in (iv + 1) L) (v2 : vp_in (iv + 2) L) (v3 : vp_in (iv + 3) L) (v4 : vp_in (iv + 4) L) (v5 : vp_in (iv + 5) L) (hI : th_I4 n σ) (hP : va_P D tt_cl (tm_w adr dA σ) H) (hS : va_S (fun q : Nat => s.heap.size ≤ q) s.heap H locs) (K : lw_G p l e s m below meth c b adr D dA ls) :
    W p l e room_1 s m #[Value.ref b] below meth c H locs 100 80000 (lw_Z below #[Value.ref b] s) (F0 m 1347 ls []) := by
  obtain ⟨hx, hb, hr, hml, hown, hts, hX, hbl, hlocks, hgv⟩ := id C0
  refine lv_aload_n hx hb tdl_1347 rfl (lv_at hl 2 rfl) ?_
  refine lw_call (q := 0) (j := 158) (B := []) (st := [])  C0 F tdl_1348 (Nat.le_of_ble_eq_true rfl) rfl lw_isX rfl (Nat.le_of_ble_eq_true rfl) (List.mem_of_getElem? (i := 1072) (by decide +kernel)) (lw_Q4 (tl4_x_take hI)) rfl rfl (Nat.le_of_ble_eq_true rfl) hP hS hl.1 (fun z σ H locs hI hP hS => ?_)
  refine lv_pop hx hb tdl_1351 rfl ?_
  refine lv_aload_n hx hb tdl_1352 rfl (lv_at hl 1 rfl) ?_
  refine lw_call (q := 11) (j := 226) (B := []) (st := [])  C0 F tdl_1353 (Nat.le_of_ble_eq_true rfl) rfl lw_isM rfl (Nat.le_of_ble_eq_true rfl) (List.mem_of_getElem? (i := 1502) (by decide +kernel)) (lw_Q4 (tl4_m_take hI)) rfl rfl (Nat.le_of_ble_eq_true rfl) hP hS hl.1 (fun z σ H locs hI hP hS => ?_)
  refine lv_pop hx hb tdl_1356 rfl ?_
  refine lv_goto (tgt := 1360) hx hb tdl_1357 (by decide) ?_
  exact K n σ H locs hI hP hS
