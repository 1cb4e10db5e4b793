/-! ===== the cases of the law ===== -/
/-- from the end of a case on -/
def lw_G (p : Program) (l : Launch) (e : Env) (s : State) (m : MethodId) (below : List Frame) (meth : Method) (c : Code) (b : Nat) (adr : Nat → Nat) (D : va_G) (dA : Nat → ClassId) (ls : Array Slot) : Prop :=
  ∀ (σ : tm_S) (H : Heap) (locs : List Loc), va_P D tt_cl (tm_w adr dA σ) H → va_S (fun q : Nat => s.heap.size ≤ q) s.heap H locs → W p l e room_1 s m #[Value.ref b] below meth c H locs 100 80000 (lw_Z below #[Value.ref b] s) (F0 m 1360 ls [])
set_option maxHeartbeats 4000000 in
set_option maxRecDepth 100000 in
theorem lw_c0 {p : Program} {l : Launch} {e : Env} {s : State} {m : MethodId} {below : List Frame} {meth : Method} {c : Code} {b L : Nat} {xs : Nat → Int32} {H : Heap} {locs : List Loc} {adr : Nat → Nat} {D : va_G} {dA : Nat → ClassId} {ls : Array Slot} {σ : tm_S} {iv : Int32} (C0 : lw_At p s m meth c b L xs) (F : lw_F s adr D dA) (hl : lv_has ls 4 [(3, .int iv), (2, .ref (adr 11)), (1, .ref (adr 0)), (0, .ref b)]) (v1 : vp_in (iv + 1) L) (v2 : vp_in (iv + 2) L) (v3 : vp_in (iv + 3) L) (v4 : vp_in (iv + 4) L) (v5 : vp_in (iv + 5) L) (hI : lw_F1 σ) (hP : va_P D tt_cl (tm_w adr dA σ) H) (hS : va_S (fun q : Nat => s.heap.size ≤ q) s.heap H locs) (K : lw_G p l e s m below meth c b adr D dA ls) :
    W p l e room_1 s m #[Value.ref b] below meth c H locs 100 80000 (lw_Z below #[Value.ref b] s) (F0 m 192 ls []) := by
  obtain ⟨hx, hb, hr, hml, hown, hts, hX, hbl, hlocks, hgv⟩ := id C0
  obtain ⟨hI1, hI2, hI3, hI4, hT, hs, hc, hm⟩ := hI
  refine lv_aload_n hx hb tdl_192 rfl (lv_at hl 2 rfl) ?_
  refine lw_arg 1 C0 hS hl v1 tdl_193 tdl_194 tdl_195 (by decide) tdl_196 tdl_197 ?_
  refine lw_call (q := 0) (j := 1) (B := [.int (xs (iv + 1).toNatClampNeg)]) (st := []) (Q' := fun z σ' => z = th_oct (xs (iv + 1).toNatClampNeg) ∧ True) C0 F tdl_198 (Nat.le_of_ble_eq_true rfl) rfl lw_isX rfl (Nat.le_of_ble_eq_true rfl) (List.mem_of_getElem? (i := 331) (by decide +kernel)) ((th_xoct (d := 89) (th_cur hT)).mono (fun r σ' hq => ⟨_, hq.1, rfl, trivial⟩)) rfl rfl (Nat.le_of_ble_eq_true rfl) hP hS hl.1 (fun z1 σ1 H locs hQ1 hP hS => ?_)
  refine lv_aload_n hx hb tdl_201 rfl (lv_at hl 1 rfl) ?_
  refine lw_arg 1 C0 hS hl v1 tdl_202 tdl_203 tdl_204 (by decide) tdl_205 tdl_206 ?_
  refine lw_call (q := 11) (j := 160) (B := [.int (xs (iv + 1).toNatClampNeg)]) (st := [.int z1]) (Q' := fun z σ' => z = th_oct (xs (iv + 1).toNatClampNeg) ∧ True) C0 F tdl_207 (Nat.le_of_ble_eq_true rfl) rfl lw_isM rfl (Nat.le_of_ble_eq_true rfl) (List.mem_of_getElem? (i := 1237) (by decide +kernel)) (th_moct.mono (fun r σ' hq => ⟨_, hq.1, rfl, trivial⟩)) rfl rfl (Nat.le_of_ble_eq_true rfl) hP hS hl.1 (fun z2 σ2 H locs hQ2 hP hS => ?_)
  refine lv_icmp_eq (tgt := 1360) hx hb tdl_210 (by decide) (fun _ => ?_) (fun h => absurd (hQ1.1.trans hQ2.1.symm) h)
  exact K σ2 H locs hP hS
set_option maxHeartbeats 4000000 in
set_option maxRecDepth 100000 in
theorem lw_c1 {p : Program} {l : Launch} {e : Env} {s : State} {m : MethodId} {below : List Frame} {meth : Method} {c : Code} {b L : Nat} {xs : Nat → Int32} {H : Heap} {locs : List Loc} {adr : Nat → Nat} {D : va_G} {dA : Nat → ClassId} {ls : Array Slot} {σ : tm_S} {iv : Int32} (C0 : lw_At p s m meth c b L xs) (F : lw_F s adr D dA) (hl : lv_has ls 4 [(3, .int iv), (2, .ref (adr 11)), (1, .ref (adr 0)), (0, .ref b)]) (v1 : vp_in (iv + 1) L) (v2 : vp_in (iv + 2) L) (v3 : vp_in (iv + 3) L) (v4 : vp_in (iv + 4) L) (v5 : vp_in (iv + 5) L) (hI : lw_F1 σ) (hP : va_P D tt_cl (tm_w adr dA σ) H) (hS : va_S (fun q : Nat => s.heap.size ≤ q) s.heap H locs) (K : lw_G p l e s m below meth c b adr D dA ls) :
    W p l e room_1 s m #[Value.ref b] below meth c H locs 100 80000 (lw_Z below #[Value.ref b] s) (F0 m 215 ls []) := by
  obtain ⟨hx, hb, hr, hml, hown, hts, hX, hbl, hlocks, hgv⟩ := id C0
  obtain ⟨hI1, hI2, hI3, hI4, hT, hs, hc, hm⟩ := hI
  refine lv_aload_n hx hb tdl_215 rfl (lv_at hl 2 rfl) ?_
  refine lw_arg 1 C0 hS hl v1 tdl_216 tdl_217 tdl_218 (by decide) tdl_219 tdl_220 ?_
  refine lw_arg 2 C0 hS hl v2 tdl_221 tdl_222 tdl_223 (by decide) tdl_224 tdl_225 ?_
  refine lw_arg 3 C0 hS hl v3 tdl_226 tdl_227 tdl_228 (by decide) tdl_229 tdl_230 ?_
  refine lw_call (q := 0) (j := 5) (B := [.int (xs (iv + 1).toNatClampNeg), .int (xs (iv + 2).toNatClampNeg), .int (xs (iv + 3).toNatClampNeg)]) (st := []) (Q' := fun z σ' => tp_img 12 (xs (iv + 1).toNatClampNeg) (xs (iv + 2).toNatClampNeg) (xs (iv + 3).toNatClampNeg) z ∧ th_IV 12 σ') C0 F tdl_231 (Nat.le_of_ble_eq_true rfl) rfl lw_isX rfl (Nat.le_of_ble_eq_true rfl) (List.mem_of_getElem? (i := 347) (by decide +kernel)) (tf_x_image hI1) rfl rfl (Nat.le_of_ble_eq_true rfl) hP hS hl.1 (fun z1 σ1 H locs hQ1 hP hS => ?_)
  refine lv_aload_n hx hb tdl_234 rfl (lv_at hl 1 rfl) ?_
  refine lw_arg 1 C0 hS hl v1 tdl_235 tdl_236 tdl_237 (by decide) tdl_238 tdl_239 ?_
  refine lw_arg 2 C0 hS hl v2 tdl_240 tdl_241 tdl_242 (by decide) tdl_243 tdl_244 ?_
  refine lw_arg 3 C0 hS hl v3 tdl_245 tdl_246 tdl_247 (by decide) tdl_248 tdl_249 ?_
  refine lw_call (q := 11) (j := 161) (B := [.int (xs (iv + 1).toNatClampNeg), .int (xs (iv + 2).toNatClampNeg), .int (xs (iv + 3).toNatClampNeg)]) (st := [.int z1]) (Q' := fun z σ' => tp_img 12 (xs (iv + 1).toNatClampNeg) (xs (iv + 2).toNatClampNeg) (xs (iv + 3).toNatClampNeg) z ∧ th_IV 12 σ') C0 F tdl_250 (Nat.le_of_ble_eq_true rfl) rfl lw_isM rfl (Nat.le_of_ble_eq_true rfl) (List.mem_of_getElem? (i := 1241) (by decide +kernel)) (tf_m_image hQ1.2) rfl rfl (Nat.le_of_ble_eq_true rfl) hP hS hl.1 (fun z2 σ2 H locs hQ2 hP hS => ?_)
  refine lv_icmp_eq (tgt := 1360) hx hb tdl_253 (by decide) (fun _ => ?_) (fun h => absurd (tp_img_u hQ1.1 hQ2.1) h)
  exact K σ2 H locs hP hS
set_option maxHeartbeats 4000000 in
set_option maxRecDepth 100000 in
theorem lw_c2 {p : Program} {l : Launch} {e : Env} {s : State} {m : MethodId} {below : List Frame} {meth : Method} {c : Code} {b L : Nat} {xs : Nat → Int32} {H : Heap} {locs : List Loc} {adr : Nat → Nat} {D : va_G} {dA : Nat → ClassId} {ls : Array Slot} {σ : tm_S} {iv : Int32} (C0 : lw_At p s m meth c b L xs) (F : lw_F s adr D dA) (hl : lv_has ls 4 [(3, .int iv), (2, .ref (adr 11)), (1, .ref (adr 0)), (0, .ref b)]) (v1 : vp_in (iv + 1) L) (v2 : vp_in (iv + 2) L) (v3 : vp_in (iv + 3) L) (v4 : vp_in (iv + 4) L) (v5 : vp_in (iv + 5) L) (hI : lw_F1 σ) (hP : va_P D tt_cl (tm_w adr dA σ) H) (hS : va_S (fun q : Nat => s.heap.size ≤ q) s.heap H locs) (K : lw_G p l e s m below meth c b adr D dA ls) :
    W p l e room_1 s m #[Value.ref b] below meth c H locs 100 80000 (lw_Z below #[Value.ref b] s) (F0 m 258 ls []) := by
  obtain ⟨hx, hb, hr, hml, hown, hts, hX, hbl, hlocks, hgv⟩ := id C0
  obtain ⟨hI1, hI2, hI3, hI4, hT, hs, hc, hm⟩ := hI
  refine lv_aload_n hx hb tdl_258 rfl (lv_at hl 2 rfl) ?_
  refine lw_arg 1 C0 hS hl v1 tdl_259 tdl_260 tdl_261 (by decide) tdl_262 tdl_263 ?_
  refine lw_arg 2 C0 hS hl v2 tdl_264 tdl_265 tdl_266 (by decide) tdl_267 tdl_268 ?_
  refine lw_call (q := 0) (j := 12) (B := [.int (xs (iv + 1).toNatClampNeg), .int (xs (iv + 2).toNatClampNeg)]) (st := []) (Q' := fun z σ' => tp_name 12 (xs (iv + 1).toNatClampNeg) (xs (iv + 2).toNatClampNeg) z ∧ th_I2 12 σ') C0 F tdl_269 (Nat.le_of_ble_eq_true rfl) rfl lw_isX rfl (Nat.le_of_ble_eq_true rfl) (List.mem_of_getElem? (i := 374) (by decide +kernel)) (tf2_x_name hI2) rfl rfl (Nat.le_of_ble_eq_true rfl) hP hS hl.1 (fun z1 σ1 H locs hQ1 hP hS => ?_)
  refine lv_aload_n hx hb tdl_272 rfl (lv_at hl 1 rfl) ?_
  refine lw_arg 1 C0 hS hl v1 tdl_273 tdl_274 tdl_275 (by decide) tdl_276 tdl_277 ?_
  refine lw_arg 2 C0 hS hl v2 tdl_278 tdl_279 tdl_280 (by decide) tdl_281 tdl_282 ?_
  refine lw_call (q := 11) (j := 167) (B := [.int (xs (iv + 1).toNatClampNeg), .int (xs (iv + 2).toNatClampNeg)]) (st := [.int z1]) (Q' := fun z σ' => tp_name 12 (xs (iv + 1).toNatClampNeg) (xs (iv + 2).toNatClampNeg) z ∧ th_I2 12 σ') C0 F tdl_283 (Nat.le_of_ble_eq_true rfl) rfl lw_isM rfl (Nat.le_of_ble_eq_true rfl) (List.mem_of_getElem? (i := 1265) (by decide +kernel)) (tf2_m_name hQ1.2) rfl rfl (Nat.le_of_ble_eq_true rfl) hP hS hl.1 (fun z2 σ2 H locs hQ2 hP hS => ?_)
  refine lv_icmp_eq (tgt := 1360) hx hb tdl_286 (by decide) (fun _ => ?_) (fun h => absurd (tp_name_u hQ1.1 hQ2.1) h)
  exact K σ2 H locs hP hS
set_option maxHeartbeats 4000000 in
set_option maxRecDepth 100000 in
theorem lw_c3 {p : Program} {l : Launch} {e : Env} {s : State} {m : MethodId} {below : List Frame} {meth : Method} {c : Code} {b L : Nat} {xs : Nat → Int32} {H : Heap} {locs : List Loc} {adr : Nat → Nat} {D : va_G} {dA : Nat → ClassId} {ls : Array Slot} {σ : tm_S} {iv : Int32} (C0 : lw_At p s m meth c b L xs) (F : lw_F s adr D dA) (hl : lv_has ls 4 [(3, .int iv), (2, .ref (adr 11)), (1, .ref (adr 0)), (0, .ref b)]) (v1 : vp_in (iv + 1) L) (v2 : vp_in (iv + 2) L) (v3 : vp_in (iv + 3) L) (v4 : vp_in (iv + 4) L) (v5 : vp_in (iv + 5) L) (hI : lw_F1 σ) (hP : va_P D tt_cl (tm_w adr dA σ) H) (hS : va_S (fun q : Nat => s.heap.size ≤ q) s.heap H locs) (K : lw_G p l e s m below meth c b adr D dA ls) :
    W p l e room_1 s m #[Value.ref b] below meth c H locs 100 80000 (lw_Z below #[Value.ref b] s) (F0 m 291 ls []) := by
  obtain ⟨hx, hb, hr, hml, hown, hts, hX, hbl, hlocks, hgv⟩ := id C0
  obtain ⟨hI1, hI2, hI3, hI4, hT, hs, hc, hm⟩ := hI
  refine lv_aload_n hx hb tdl_291 rfl (lv_at hl 2 rfl) ?_
  refine lw_arg 1 C0 hS hl v1 tdl_292 tdl_293 tdl_294 (by decide) tdl_295 tdl_296 ?_
  refine lw_arg 2 C0 hS hl v2 tdl_297 tdl_298 tdl_299 (by decide) tdl_300 tdl_301 ?_
  refine lw_arg 3 C0 hS hl v3 tdl_302 tdl_303 tdl_304 (by decide) tdl_305 tdl_306 ?_
  refine lw_call (q := 0) (j := 18) (B := [.int (xs (iv + 1).toNatClampNeg), .int (xs (iv + 2).toNatClampNeg), .int (xs (iv + 3).toNatClampNeg)]) (st := []) (Q' := fun z σ' => tp_own 12 (xs (iv + 1).toNatClampNeg) (xs (iv + 2).toNatClampNeg) (xs (iv + 3).toNatClampNeg) z ∧ th_IV 12 σ') C0 F tdl_307 (Nat.le_of_ble_eq_true rfl) rfl lw_isX rfl (Nat.le_of_ble_eq_true rfl) (List.mem_of_getElem? (i := 399) (by decide +kernel)) (tf_x_own hI1) rfl rfl (Nat.le_of_ble_eq_true rfl) hP hS hl.1 (fun z1 σ1 H locs hQ1 hP hS => ?_)
  refine lv_aload_n hx hb tdl_310 rfl (lv_at hl 1 rfl) ?_
  refine lw_arg 1 C0 hS hl v1 tdl_311 tdl_312 tdl_313 (by decide) tdl_314 tdl_315 ?_
  refine lw_arg 2 C0 hS hl v2 tdl_316 tdl_317 tdl_318 (by decide) tdl_319 tdl_320 ?_
  refine lw_arg 3 C0 hS hl v3 tdl_321 tdl_322 tdl_323 (by decide) tdl_324 tdl_325 ?_
  refine lw_call (q := 11) (j := 170) (B := [.int (xs (iv + 1).toNatClampNeg), .int (xs (iv + 2).toNatClampNeg), .int (xs (iv + 3).toNatClampNeg)]) (st := [.int z1]) (Q' := fun z σ' => tp_own 12 (xs (iv + 1).toNatClampNeg) (xs (iv + 2).toNatClampNeg) (xs (iv + 3).toNatClampNeg) z ∧ th_IV 12 σ') C0 F tdl_326 (Nat.le_of_ble_eq_true rfl) rfl lw_isM rfl (Nat.le_of_ble_eq_true rfl) (List.mem_of_getElem? (i := 1277) (by decide +kernel)) (tf_m_own hQ1.2) rfl rfl (Nat.le_of_ble_eq_true rfl) hP hS hl.1 (fun z2 σ2 H locs hQ2 hP hS => ?_)
  refine lv_icmp_eq (tgt := 1360) hx hb tdl_329 (by decide) (fun _ => ?_) (fun h => absurd (tp_own_u hQ1.1 hQ2.1) h)
  exact K σ2 H locs hP hS
set_option maxHeartbeats 4000000 in
set_option maxRecDepth 100000 in
theorem lw_c4 {p : Program} {l : Launch} {e : Env} {s : State} {m : MethodId} {below : List Frame} {meth : Method} {c : Code} {b L : Nat} {xs : Nat → Int32} {H : Heap} {locs : List Loc} {adr : Nat → Nat} {D : va_G} {dA : Nat → ClassId} {ls : Array Slot} {σ : tm_S} {iv : Int32} (C0 : lw_At p s m meth c b L xs) (F : lw_F s adr D dA) (hl : lv_has ls 4 [(3, .int iv), (2, .ref (adr 11)), (1, .ref (adr 0)), (0, .ref b)]) (v1 : vp_in (iv + 1) L) (v2 : vp_in (iv + 2) L) (v3 : vp_in (iv + 3) L) (v4 : vp_in (iv + 4) L) (v5 : vp_in (iv + 5) L) (hI : lw_F1 σ) (hP : va_P D tt_cl (tm_w adr dA σ) H) (hS : va_S (fun q : Nat => s.heap.size ≤ q) s.heap H locs) (K : lw_G p l e s m below meth c b adr D dA ls) :
    W p l e room_1 s m #[Value.ref b] below meth c H locs 100 80000 (lw_Z below #[Value.ref b] s) (F0 m 334 ls []) := by
  obtain ⟨hx, hb, hr, hml, hown, hts, hX, hbl, hlocks, hgv⟩ := id C0
  obtain ⟨hI1, hI2, hI3, hI4, hT, hs, hc, hm⟩ := hI
  refine lv_aload_n hx hb tdl_334 rfl (lv_at hl 2 rfl) ?_
  refine lw_arg 1 C0 hS hl v1 tdl_335 tdl_336 tdl_337 (by decide) tdl_338 tdl_339 ?_
  refine lw_arg 2 C0 hS hl v2 tdl_340 tdl_341 tdl_342 (by decide) tdl_343 tdl_344 ?_
  refine lw_call (q := 0) (j := 22) (B := [.int (xs (iv + 1).toNatClampNeg), .int (xs (iv + 2).toNatClampNeg)]) (st := []) (Q' := fun z σ' => tp_cls 12 (xs (iv + 1).toNatClampNeg) (xs (iv + 2).toNatClampNeg) z ∧ th_I2 12 σ') C0 F tdl_345 (Nat.le_of_ble_eq_true rfl) rfl lw_isX rfl (Nat.le_of_ble_eq_true rfl) (List.mem_of_getElem? (i := 416) (by decide +kernel)) (tf2_x_classes hI2) rfl rfl (Nat.le_of_ble_eq_true rfl) hP hS hl.1 (fun z1 σ1 H locs hQ1 hP hS => ?_)
  refine lv_aload_n hx hb tdl_348 rfl (lv_at hl 1 rfl) ?_
  refine lw_arg 1 C0 hS hl v1 tdl_349 tdl_350 tdl_351 (by decide) tdl_352 tdl_353 ?_
  refine lw_arg 2 C0 hS hl v2 tdl_354 tdl_355 tdl_356 (by decide) tdl_357 tdl_358 ?_
  refine lw_call (q := 11) (j := 172) (B := [.int (xs (iv + 1).toNatClampNeg), .int (xs (iv + 2).toNatClampNeg)]) (st := [.int z1]) (Q' := fun z σ' => tp_cls 12 (xs (iv + 1).toNatClampNeg) (xs (iv + 2).toNatClampNeg) z ∧ th_I2 12 σ') C0 F tdl_359 (Nat.le_of_ble_eq_true rfl) rfl lw_isM rfl (Nat.le_of_ble_eq_true rfl) (List.mem_of_getElem? (i := 1285) (by decide +kernel)) (tf2_m_classes hQ1.2) rfl rfl (Nat.le_of_ble_eq_true rfl) hP hS hl.1 (fun z2 σ2 H locs hQ2 hP hS => ?_)
  refine lv_icmp_eq (tgt := 1360) hx hb tdl_362 (by decide) (fun _ => ?_) (fun h => absurd (tp_cls_u hQ1.1 hQ2.1) h)
  exact K σ2 H locs hP hS
set_option maxHeartbeats 4000000 in
set_option maxRecDepth 100000 in
theorem lw_c5 {p : Program} {l : Launch} {e : Env} {s : State} {m : MethodId} {below : List Frame} {meth : Method} {c : Code} {b L : Nat} {xs : Nat → Int32} {H : Heap} {locs : List Loc} {adr : Nat → Nat} {D : va_G} {dA : Nat → ClassId} {ls : Array Slot} {σ : tm_S} {iv : Int32} (C0 : lw_At p s m meth c b L xs) (F : lw_F s adr D dA) (hl : lv_has ls 4 [(3, .int iv), (2, .ref (adr 11)), (1, .ref (adr 0)), (0, .ref b)]) (v1 : vp_in (iv + 1) L) (v2 : vp_in (iv + 2) L) (v3 : vp_in (iv + 3) L) (v4 : vp_in (iv + 4) L) (v5 : vp_in (iv + 5) L) (hI : lw_F1 σ) (hP : va_P D tt_cl (tm_w adr dA σ) H) (hS : va_S (fun q : Nat => s.heap.size ≤ q) s.heap H locs) (K : lw_G p l e s m below meth c b adr D dA ls) :
    W p l e room_1 s m #[Value.ref b] below meth c H locs 100 80000 (lw_Z below #[Value.ref b] s) (F0 m 367 ls []) := by
  obtain ⟨hx, hb, hr, hml, hown, hts, hX, hbl, hlocks, hgv⟩ := id C0
  obtain ⟨hI1, hI2, hI3, hI4, hT, hs, hc, hm⟩ := hI
  refine lv_aload_n hx hb tdl_367 rfl (lv_at hl 2 rfl) ?_
  refine lw_arg 1 C0 hS hl v1 tdl_368 tdl_369 tdl_370 (by decide) tdl_371 tdl_372 ?_
  refine lw_arg 2 C0 hS hl v2 tdl_373 tdl_374 tdl_375 (by decide) tdl_376 tdl_377 ?_
  refine lw_arg 3 C0 hS hl v3 tdl_378 tdl_379 tdl_380 (by decide) tdl_381 tdl_382 ?_
  refine lw_call (q := 0) (j := 26) (B := [.int (xs (iv + 1).toNatClampNeg), .int (xs (iv + 2).toNatClampNeg), .int (xs (iv + 3).toNatClampNeg)]) (st := []) (Q' := fun z σ' => tp_nof 12 (xs (iv + 1).toNatClampNeg) (xs (iv + 2).toNatClampNeg) (xs (iv + 3).toNatClampNeg) z ∧ th_I2 12 σ') C0 F tdl_383 (Nat.le_of_ble_eq_true rfl) rfl lw_isX rfl (Nat.le_of_ble_eq_true rfl) (List.mem_of_getElem? (i := 434) (by decide +kernel)) (tf2_x_nameOf hI2) rfl rfl (Nat.le_of_ble_eq_true rfl) hP hS hl.1 (fun z1 σ1 H locs hQ1 hP hS => ?_)
  refine lv_aload_n hx hb tdl_386 rfl (lv_at hl 1 rfl) ?_
  refine lw_arg 1 C0 hS hl v1 tdl_387 tdl_388 tdl_389 (by decide) tdl_390 tdl_391 ?_
  refine lw_arg 2 C0 hS hl v2 tdl_392 tdl_393 tdl_394 (by decide) tdl_395 tdl_396 ?_
  refine lw_arg 3 C0 hS hl v3 tdl_397 tdl_398 tdl_399 (by decide) tdl_400 tdl_401 ?_
  refine lw_call (q := 11) (j := 175) (B := [.int (xs (iv + 1).toNatClampNeg), .int (xs (iv + 2).toNatClampNeg), .int (xs (iv + 3).toNatClampNeg)]) (st := [.int z1]) (Q' := fun z σ' => tp_nof 12 (xs (iv + 1).toNatClampNeg) (xs (iv + 2).toNatClampNeg) (xs (iv + 3).toNatClampNeg) z ∧ th_I2 12 σ') C0 F tdl_402 (Nat.le_of_ble_eq_true rfl) rfl lw_isM rfl (Nat.le_of_ble_eq_true rfl) (List.mem_of_getElem? (i := 1297) (by decide +kernel)) (tf2_m_nameOf hQ1.2) rfl rfl (Nat.le_of_ble_eq_true rfl) hP hS hl.1 (fun z2 σ2 H locs hQ2 hP hS => ?_)
  refine lv_icmp_eq (tgt := 1360) hx hb tdl_405 (by decide) (fun _ => ?_) (fun h => absurd (tp_nof_u hQ1.1 hQ2.1) h)
  exact K σ2 H locs hP hS
set_option maxHeartbeats 4000000 in
set_option maxRecDepth 100000 in
theorem lw_c6 {p : Program} {l : Launch} {e : Env} {s : State} {m : MethodId} {below : List Frame} {meth : Method} {c : Code} {b L : Nat} {xs : Nat → Int32} {H : Heap} {locs : List Loc} {adr : Nat → Nat} {D : va_G} {dA : Nat → ClassId} {ls : Array Slot} {σ : tm_S} {iv : Int32} (C0 : lw_At p s m meth c b L xs) (F : lw_F s adr D dA) (hl : lv_has ls 4 [(3, .int iv), (2, .ref (adr 11)), (1, .ref (adr 0)), (0, .ref b)]) (v1 : vp_in (iv + 1) L) (v2 : vp_in (iv + 2) L) (v3 : vp_in (iv + 3) L) (v4 : vp_in (iv + 4) L) (v5 : vp_in (iv + 5) L) (hI : lw_F1 σ) (hP : va_P D tt_cl (tm_w adr dA σ) H) (hS : va_S (fun q : Nat => s.heap.size ≤ q) s.heap H locs) (K : lw_G p l e s m below meth c b adr D dA ls) :
    W p l e room_1 s m #[Value.ref b] below meth c H locs 100 80000 (lw_Z below #[Value.ref b] s) (F0 m 410 ls []) := by
  obtain ⟨hx, hb, hr, hml, hown, hts, hX, hbl, hlocks, hgv⟩ := id C0
  obtain ⟨hI1, hI2, hI3, hI4, hT, hs, hc, hm⟩ := hI
  refine lv_aload_n hx hb tdl_410 rfl (lv_at hl 2 rfl) ?_
  refine lw_arg 1 C0 hS hl v1 tdl_411 tdl_412 tdl_413 (by decide) tdl_414 tdl_415 ?_
  refine lw_arg 2 C0 hS hl v2 tdl_416 tdl_417 tdl_418 (by decide) tdl_419 tdl_420 ?_
  refine lw_call (q := 0) (j := 28) (B := [.int (xs (iv + 1).toNatClampNeg), .int (xs (iv + 2).toNatClampNeg)]) (st := []) (Q' := fun z σ' => tp_int 12 (xs (iv + 1).toNatClampNeg) (xs (iv + 2).toNatClampNeg) z ∧ th_IV 12 σ') C0 F tdl_421 (Nat.le_of_ble_eq_true rfl) rfl lw_isX rfl (Nat.le_of_ble_eq_true rfl) (List.mem_of_getElem? (i := 442) (by decide +kernel)) (tf_x_interval hI1) rfl rfl (Nat.le_of_ble_eq_true rfl) hP hS hl.1 (fun z1 σ1 H locs hQ1 hP hS => ?_)
  refine lv_aload_n hx hb tdl_424 rfl (lv_at hl 1 rfl) ?_
  refine lw_arg 1 C0 hS hl v1 tdl_425 tdl_426 tdl_427 (by decide) tdl_428 tdl_429 ?_
  refine lw_arg 2 C0 hS hl v2 tdl_430 tdl_431 tdl_432 (by decide) tdl_433 tdl_434 ?_
  refine lw_call (q := 11) (j := 176) (B := [.int (xs (iv + 1).toNatClampNeg), .int (xs (iv + 2).toNatClampNeg)]) (st := [.int z1]) (Q' := fun z σ' => tp_int 12 (xs (iv + 1).toNatClampNeg) (xs (iv + 2).toNatClampNeg) z ∧ th_IV 12 σ') C0 F tdl_435 (Nat.le_of_ble_eq_true rfl) rfl lw_isM rfl (Nat.le_of_ble_eq_true rfl) (List.mem_of_getElem? (i := 1301) (by decide +kernel)) (tf_m_interval hQ1.2) rfl rfl (Nat.le_of_ble_eq_true rfl) hP hS hl.1 (fun z2 σ2 H locs hQ2 hP hS => ?_)
  refine lv_icmp_eq (tgt := 1360) hx hb tdl_438 (by decide) (fun _ => ?_) (fun h => absurd (tp_int_u hQ1.1 hQ2.1) h)
  exact K σ2 H locs hP hS
set_option maxHeartbeats 4000000 in
set_option maxRecDepth 100000 in
theorem lw_c7 {p : Program} {l : Launch} {e : Env} {s : State} {m : MethodId} {below : List Frame} {meth : Method} {c : Code} {b L : Nat} {xs : Nat → Int32} {H : Heap} {locs : List Loc} {adr : Nat → Nat} {D : va_G} {dA : Nat → ClassId} {ls : Array Slot} {σ : tm_S} {iv : Int32} (C0 : lw_At p s m meth c b L xs) (F : lw_F s adr D dA) (hl : lv_has ls 4 [(3, .int iv), (2, .ref (adr 11)), (1, .ref (adr 0)), (0, .ref b)]) (v1 : vp_in (iv + 1) L) (v2 : vp_in (iv + 2) L) (v3 : vp_in (iv + 3) L) (v4 : vp_in (iv + 4) L) (v5 : vp_in (iv + 5) L) (hI : lw_F1 σ) (hP : va_P D tt_cl (tm_w adr dA σ) H) (hS : va_S (fun q : Nat => s.heap.size ≤ q) s.heap H locs) (K : lw_G p l e s m below meth c b adr D dA ls) :
    W p l e room_1 s m #[Value.ref b] below meth c H locs 100 80000 (lw_Z below #[Value.ref b] s) (F0 m 443 ls []) := by
  obtain ⟨hx, hb, hr, hml, hown, hts, hX, hbl, hlocks, hgv⟩ := id C0
  obtain ⟨hI1, hI2, hI3, hI4, hT, hs, hc, hm⟩ := hI
  refine lv_aload_n hx hb tdl_443 rfl (lv_at hl 2 rfl) ?_
  refine lw_arg 1 C0 hS hl v1 tdl_444 tdl_445 tdl_446 (by decide) tdl_447 tdl_448 ?_
  refine lw_call (q := 0) (j := 30) (B := [.int (xs (iv + 1).toNatClampNeg)]) (st := []) (Q' := fun z σ' => tp_twin 12 (xs (iv + 1).toNatClampNeg) z ∧ th_I2 12 σ') C0 F tdl_449 (Nat.le_of_ble_eq_true rfl) rfl lw_isX rfl (Nat.le_of_ble_eq_true rfl) (List.mem_of_getElem? (i := 450) (by decide +kernel)) (tf2_x_twin hI2) rfl rfl (Nat.le_of_ble_eq_true rfl) hP hS hl.1 (fun z1 σ1 H locs hQ1 hP hS => ?_)
  refine lv_aload_n hx hb tdl_452 rfl (lv_at hl 1 rfl) ?_
  refine lw_arg 1 C0 hS hl v1 tdl_453 tdl_454 tdl_455 (by decide) tdl_456 tdl_457 ?_
  refine lw_call (q := 11) (j := 179) (B := [.int (xs (iv + 1).toNatClampNeg)]) (st := [.int z1]) (Q' := fun z σ' => tp_twin 12 (xs (iv + 1).toNatClampNeg) z ∧ th_I2 12 σ') C0 F tdl_458 (Nat.le_of_ble_eq_true rfl) rfl lw_isM rfl (Nat.le_of_ble_eq_true rfl) (List.mem_of_getElem? (i := 1313) (by decide +kernel)) (tf2_m_twin hQ1.2) rfl rfl (Nat.le_of_ble_eq_true rfl) hP hS hl.1 (fun z2 σ2 H locs hQ2 hP hS => ?_)
  refine lv_icmp_eq (tgt := 1360) hx hb tdl_461 (by decide) (fun _ => ?_) (fun h => absurd (tp_twin_u hQ1.1 hQ2.1) h)
  exact K σ2 H locs hP hS
set_option maxHeartbeats 4000000 in
set_option maxRecDepth 100000 in
theorem lw_c8 {p : Program} {l : Launch} {e : Env} {s : State} {m : MethodId} {below : List Frame} {meth : Method} {c : Code} {b L : Nat} {xs : Nat → Int32} {H : Heap} {locs : List Loc} {adr : Nat → Nat} {D : va_G} {dA : Nat → ClassId} {ls : Array Slot} {σ : tm_S} {iv : Int32} (C0 : lw_At p s m meth c b L xs) (F : lw_F s adr D dA) (hl : lv_has ls 4 [(3, .int iv), (2, .ref (adr 11)), (1, .ref (adr 0)), (0, .ref b)]) (v1 : vp_in (iv + 1) L) (v2 : vp_in (iv + 2) L) (v3 : vp_in (iv + 3) L) (v4 : vp_in (iv + 4) L) (v5 : vp_in (iv + 5) L) (hI : lw_F1 σ) (hP : va_P D tt_cl (tm_w adr dA σ) H) (hS : va_S (fun q : Nat => s.heap.size ≤ q) s.heap H locs) (K : lw_G p l e s m below meth c b adr D dA ls) :
    W p l e room_1 s m #[Value.ref b] below meth c H locs 100 80000 (lw_Z below #[Value.ref b] s) (F0 m 466 ls []) := by
  obtain ⟨hx, hb, hr, hml, hown, hts, hX, hbl, hlocks, hgv⟩ := id C0
  obtain ⟨hI1, hI2, hI3, hI4, hT, hs, hc, hm⟩ := hI
  refine lv_aload_n hx hb tdl_466 rfl (lv_at hl 2 rfl) ?_
  refine lw_arg 1 C0 hS hl v1 tdl_467 tdl_468 tdl_469 (by decide) tdl_470 tdl_471 ?_
  refine lw_arg 2 C0 hS hl v2 tdl_472 tdl_473 tdl_474 (by decide) tdl_475 tdl_476 ?_
  refine lw_arg 3 C0 hS hl v3 tdl_477 tdl_478 tdl_479 (by decide) tdl_480 tdl_481 ?_
  refine lw_call (q := 0) (j := 33) (B := [.int (xs (iv + 1).toNatClampNeg), .int (xs (iv + 2).toNatClampNeg), .int (xs (iv + 3).toNatClampNeg)]) (st := []) (Q' := fun z σ' => tp_wi 12 (xs (iv + 1).toNatClampNeg) (xs (iv + 2).toNatClampNeg) (xs (iv + 3).toNatClampNeg) z ∧ th_IV 12 σ') C0 F tdl_482 (Nat.le_of_ble_eq_true rfl) rfl lw_isX rfl (Nat.le_of_ble_eq_true rfl) (List.mem_of_getElem? (i := 463) (by decide +kernel)) (tf_x_within hI1) rfl rfl (Nat.le_of_ble_eq_true rfl) hP hS hl.1 (fun z1 σ1 H locs hQ1 hP hS => ?_)
  refine lv_aload_n hx hb tdl_485 rfl (lv_at hl 1 rfl) ?_
  refine lw_arg 1 C0 hS hl v1 tdl_486 tdl_487 tdl_488 (by decide) tdl_489 tdl_490 ?_
  refine lw_arg 2 C0 hS hl v2 tdl_491 tdl_492 tdl_493 (by decide) tdl_494 tdl_495 ?_
  refine lw_arg 3 C0 hS hl v3 tdl_496 tdl_497 tdl_498 (by decide) tdl_499 tdl_500 ?_
  refine lw_call (q := 11) (j := 180) (B := [.int (xs (iv + 1).toNatClampNeg), .int (xs (iv + 2).toNatClampNeg), .int (xs (iv + 3).toNatClampNeg)]) (st := [.int z1]) (Q' := fun z σ' => tp_wi 12 (xs (iv + 1).toNatClampNeg) (xs (iv + 2).toNatClampNeg) (xs (iv + 3).toNatClampNeg) z ∧ th_IV 12 σ') C0 F tdl_501 (Nat.le_of_ble_eq_true rfl) rfl lw_isM rfl (Nat.le_of_ble_eq_true rfl) (List.mem_of_getElem? (i := 1317) (by decide +kernel)) (tf_m_within hQ1.2) rfl rfl (Nat.le_of_ble_eq_true rfl) hP hS hl.1 (fun z2 σ2 H locs hQ2 hP hS => ?_)
  refine lv_icmp_eq (tgt := 1360) hx hb tdl_504 (by decide) (fun _ => ?_) (fun h => absurd (tp_wi_u hQ1.1 hQ2.1) h)
  exact K σ2 H locs hP hS
set_option maxHeartbeats 4000000 in
set_option maxRecDepth 100000 in
theorem lw_c9 {p : Program} {l : Launch} {e : Env} {s : State} {m : MethodId} {below : List Frame} {meth : Method} {c : Code} {b L : Nat} {xs : Nat → Int32} {H : Heap} {locs : List Loc} {adr : Nat → Nat} {D : va_G} {dA : Nat → ClassId} {ls : Array Slot} {σ : tm_S} {iv : Int32} (C0 : lw_At p s m meth c b L xs) (F : lw_F s adr D dA) (hl : lv_has ls 4 [(3, .int iv), (2, .ref (adr 11)), (1, .ref (adr 0)), (0, .ref b)]) (v1 : vp_in (iv + 1) L) (v2 : vp_in (iv + 2) L) (v3 : vp_in (iv + 3) L) (v4 : vp_in (iv + 4) L) (v5 : vp_in (iv + 5) L) (hI : lw_F1 σ) (hP : va_P D tt_cl (tm_w adr dA σ) H) (hS : va_S (fun q : Nat => s.heap.size ≤ q) s.heap H locs) (K : lw_G p l e s m below meth c b adr D dA ls) :
    W p l e room_1 s m #[Value.ref b] below meth c H locs 100 80000 (lw_Z below #[Value.ref b] s) (F0 m 509 ls []) := by
  obtain ⟨hx, hb, hr, hml, hown, hts, hX, hbl, hlocks, hgv⟩ := id C0
  obtain ⟨hI1, hI2, hI3, hI4, hT, hs, hc, hm⟩ := hI
  refine lv_aload_n hx hb tdl_509 rfl (lv_at hl 2 rfl) ?_
  refine lw_arg 1 C0 hS hl v1 tdl_510 tdl_511 tdl_512 (by decide) tdl_513 tdl_514 ?_
  refine lw_arg 2 C0 hS hl v2 tdl_515 tdl_516 tdl_517 (by decide) tdl_518 tdl_519 ?_
  refine lw_arg 3 C0 hS hl v3 tdl_520 tdl_521 tdl_522 (by decide) tdl_523 tdl_524 ?_
  refine lw_call (q := 0) (j := 34) (B := [.int (xs (iv + 1).toNatClampNeg), .int (xs (iv + 2).toNatClampNeg), .int (xs (iv + 3).toNatClampNeg)]) (st := []) (Q' := fun z σ' => tp_lead 12 (xs (iv + 1).toNatClampNeg) (xs (iv + 2).toNatClampNeg) (xs (iv + 3).toNatClampNeg) z ∧ th_IV 12 σ') C0 F tdl_525 (Nat.le_of_ble_eq_true rfl) rfl lw_isX rfl (Nat.le_of_ble_eq_true rfl) (List.mem_of_getElem? (i := 467) (by decide +kernel)) (tf_x_lead hI1) rfl rfl (Nat.le_of_ble_eq_true rfl) hP hS hl.1 (fun z1 σ1 H locs hQ1 hP hS => ?_)
  refine lv_aload_n hx hb tdl_528 rfl (lv_at hl 1 rfl) ?_
  refine lw_arg 1 C0 hS hl v1 tdl_529 tdl_530 tdl_531 (by decide) tdl_532 tdl_533 ?_
  refine lw_arg 2 C0 hS hl v2 tdl_534 tdl_535 tdl_536 (by decide) tdl_537 tdl_538 ?_
  refine lw_arg 3 C0 hS hl v3 tdl_539 tdl_540 tdl_541 (by decide) tdl_542 tdl_543 ?_
  refine lw_call (q := 11) (j := 181) (B := [.int (xs (iv + 1).toNatClampNeg), .int (xs (iv + 2).toNatClampNeg), .int (xs (iv + 3).toNatClampNeg)]) (st := [.int z1]) (Q' := fun z σ' => tp_lead 12 (xs (iv + 1).toNatClampNeg) (xs (iv + 2).toNatClampNeg) (xs (iv + 3).toNatClampNeg) z ∧ th_IV 12 σ') C0 F tdl_544 (Nat.le_of_ble_eq_true rfl) rfl lw_isM rfl (Nat.le_of_ble_eq_true rfl) (List.mem_of_getElem? (i := 1321) (by decide +kernel)) (tf_m_lead hQ1.2) rfl rfl (Nat.le_of_ble_eq_true rfl) hP hS hl.1 (fun z2 σ2 H locs hQ2 hP hS => ?_)
  refine lv_icmp_eq (tgt := 1360) hx hb tdl_547 (by decide) (fun _ => ?_) (fun h => absurd (tp_lead_u hQ1.1 hQ2.1) h)
  exact K σ2 H locs hP hS
set_option maxHeartbeats 4000000 in
set_option maxRecDepth 100000 in
theorem lw_c10 {p : Program} {l : Launch} {e : Env} {s : State} {m : MethodId} {below : List Frame} {meth : Method} {c : Code} {b L : Nat} {xs : Nat → Int32} {H : Heap} {locs : List Loc} {adr : Nat → Nat} {D : va_G} {dA : Nat → ClassId} {ls : Array Slot} {σ : tm_S} {iv : Int32} (C0 : lw_At p s m meth c b L xs) (F : lw_F s adr D dA) (hl : lv_has ls 4 [(3, .int iv), (2, .ref (adr 11)), (1, .ref (adr 0)), (0, .ref b)]) (v1 : vp_in (iv + 1) L) (v2 : vp_in (iv + 2) L) (v3 : vp_in (iv + 3) L) (v4 : vp_in (iv + 4) L) (v5 : vp_in (iv + 5) L) (hI : lw_F1 σ) (hP : va_P D tt_cl (tm_w adr dA σ) H) (hS : va_S (fun q : Nat => s.heap.size ≤ q) s.heap H locs) (K : lw_G p l e s m below meth c b adr D dA ls) :
    W p l e room_1 s m #[Value.ref b] below meth c H locs 100 80000 (lw_Z below #[Value.ref b] s) (F0 m 552 ls []) := by
  obtain ⟨hx, hb, hr, hml, hown, hts, hX, hbl, hlocks, hgv⟩ := id C0
  obtain ⟨hI1, hI2, hI3, hI4, hT, hs, hc, hm⟩ := hI
  refine lv_aload_n hx hb tdl_552 rfl (lv_at hl 2 rfl) ?_
  refine lw_arg 1 C0 hS hl v1 tdl_553 tdl_554 tdl_555 (by decide) tdl_556 tdl_557 ?_
  refine lw_arg 2 C0 hS hl v2 tdl_558 tdl_559 tdl_560 (by decide) tdl_561 tdl_562 ?_
  refine lw_call (q := 0) (j := 47) (B := [.int (xs (iv + 1).toNatClampNeg), .int (xs (iv + 2).toNatClampNeg)]) (st := []) (Q' := fun z σ' => tp_road 12 (xs (iv + 1).toNatClampNeg) (xs (iv + 2).toNatClampNeg) z ∧ th_IV 12 σ') C0 F tdl_563 (Nat.le_of_ble_eq_true rfl) rfl lw_isX rfl (Nat.le_of_ble_eq_true rfl) (List.mem_of_getElem? (i := 527) (by decide +kernel)) (tf_x_road hI1) rfl rfl (Nat.le_of_ble_eq_true rfl) hP hS hl.1 (fun z1 σ1 H locs hQ1 hP hS => ?_)
  refine lv_aload_n hx hb tdl_566 rfl (lv_at hl 1 rfl) ?_
  refine lw_arg 1 C0 hS hl v1 tdl_567 tdl_568 tdl_569 (by decide) tdl_570 tdl_571 ?_
  refine lw_arg 2 C0 hS hl v2 tdl_572 tdl_573 tdl_574 (by decide) tdl_575 tdl_576 ?_
  refine lw_call (q := 11) (j := 184) (B := [.int (xs (iv + 1).toNatClampNeg), .int (xs (iv + 2).toNatClampNeg)]) (st := [.int z1]) (Q' := fun z σ' => tp_road 12 (xs (iv + 1).toNatClampNeg) (xs (iv + 2).toNatClampNeg) z ∧ th_IV 12 σ') C0 F tdl_577 (Nat.le_of_ble_eq_true rfl) rfl lw_isM rfl (Nat.le_of_ble_eq_true rfl) (List.mem_of_getElem? (i := 1333) (by decide +kernel)) (tf_m_road hQ1.2) rfl rfl (Nat.le_of_ble_eq_true rfl) hP hS hl.1 (fun z2 σ2 H locs hQ2 hP hS => ?_)
  refine lv_icmp_eq (tgt := 1360) hx hb tdl_580 (by decide) (fun _ => ?_) (fun h => absurd (tp_road_u hQ1.1 hQ2.1) h)
  exact K σ2 H locs hP hS
set_option maxHeartbeats 4000000 in
set_option maxRecDepth 100000 in
theorem lw_c11 {p : Program} {l : Launch} {e : Env} {s : State} {m : MethodId} {below : List Frame} {meth : Method} {c : Code} {b L : Nat} {xs : Nat → Int32} {H : Heap} {locs : List Loc} {adr : Nat → Nat} {D : va_G} {dA : Nat → ClassId} {ls : Array Slot} {σ : tm_S} {iv : Int32} (C0 : lw_At p s m meth c b L xs) (F : lw_F s adr D dA) (hl : lv_has ls 4 [(3, .int iv), (2, .ref (adr 11)), (1, .ref (adr 0)), (0, .ref b)]) (v1 : vp_in (iv + 1) L) (v2 : vp_in (iv + 2) L) (v3 : vp_in (iv + 3) L) (v4 : vp_in (iv + 4) L) (v5 : vp_in (iv + 5) L) (hI : lw_F1 σ) (hP : va_P D tt_cl (tm_w adr dA σ) H) (hS : va_S (fun q : Nat => s.heap.size ≤ q) s.heap H locs) (K : lw_G p l e s m below meth c b adr D dA ls) :
    W p l e room_1 s m #[Value.ref b] below meth c H locs 100 80000 (lw_Z below #[Value.ref b] s) (F0 m 585 ls []) := by
  obtain ⟨hx, hb, hr, hml, hown, hts, hX, hbl, hlocks, hgv⟩ := id C0
  obtain ⟨hI1, hI2, hI3, hI4, hT, hs, hc, hm⟩ := hI
  refine lv_aload_n hx hb tdl_585 rfl (lv_at hl 2 rfl) ?_
  refine lw_arg 1 C0 hS hl v1 tdl_586 tdl_587 tdl_588 (by decide) tdl_589 tdl_590 ?_
  refine lw_arg 2 C0 hS hl v2 tdl_591 tdl_592 tdl_593 (by decide) tdl_594 tdl_595 ?_
  refine lv_i2l hx hb tdl_596 rfl ?_
  refine lv_bipush (v := 32) hx hb tdl_597 (by decide) ?_
  refine lv_lshl hx hb tdl_599 rfl ?_
  refine lw_arg 3 C0 hS hl v3 tdl_600 tdl_601 tdl_602 (by decide) tdl_603 tdl_604 ?_
  refine lv_i2l hx hb tdl_605 rfl ?_
  refine lv_ldc2 (v := 4294967295) hx hb hown (hts _ (List.mem_of_getElem? (i := 1574) (by decide +kernel))) tdl_606 ?_
  refine lv_land hx hb tdl_609 ?_
  refine lv_lor hx hb tdl_610 ?_
  refine lw_call (q := 0) (j := 52) (B := [.int (xs (iv + 1).toNatClampNeg), .long ((((xs (iv + 2).toNatClampNeg).toInt64) <<< ((32 : Int32).toInt64 &&& 63)) ||| (((xs (iv + 3).toNatClampNeg).toInt64) &&& (4294967295)))]) (st := []) (Q' := fun z σ' => tp_row 12 (xs (iv + 1).toNatClampNeg) ((((xs (iv + 2).toNatClampNeg).toInt64) <<< ((32 : Int32).toInt64 &&& 63)) ||| (((xs (iv + 3).toNatClampNeg).toInt64) &&& (4294967295))) z ∧ th_IV 12 σ') C0 F tdl_611 (Nat.le_of_ble_eq_true rfl) rfl lw_isX rfl (Nat.le_of_ble_eq_true rfl) (List.mem_of_getElem? (i := 552) (by decide +kernel)) (tf_x_row hI1) rfl rfl (Nat.le_of_ble_eq_true rfl) hP hS hl.1 (fun z1 σ1 H locs hQ1 hP hS => ?_)
  refine lv_aload_n hx hb tdl_614 rfl (lv_at hl 1 rfl) ?_
  refine lw_arg 1 C0 hS hl v1 tdl_615 tdl_616 tdl_617 (by decide) tdl_618 tdl_619 ?_
  refine lw_arg 2 C0 hS hl v2 tdl_620 tdl_621 tdl_622 (by decide) tdl_623 tdl_624 ?_
  refine lv_i2l hx hb tdl_625 rfl ?_
  refine lv_bipush (v := 32) hx hb tdl_626 (by decide) ?_
  refine lv_lshl hx hb tdl_628 rfl ?_
  refine lw_arg 3 C0 hS hl v3 tdl_629 tdl_630 tdl_631 (by decide) tdl_632 tdl_633 ?_
  refine lv_i2l hx hb tdl_634 rfl ?_
  refine lv_ldc2 (v := 4294967295) hx hb hown (hts _ (List.mem_of_getElem? (i := 1574) (by decide +kernel))) tdl_635 ?_
  refine lv_land hx hb tdl_638 ?_
  refine lv_lor hx hb tdl_639 ?_
  refine lw_call (q := 11) (j := 185) (B := [.int (xs (iv + 1).toNatClampNeg), .long ((((xs (iv + 2).toNatClampNeg).toInt64) <<< ((32 : Int32).toInt64 &&& 63)) ||| (((xs (iv + 3).toNatClampNeg).toInt64) &&& (4294967295)))]) (st := [.int z1]) (Q' := fun z σ' => tp_row 12 (xs (iv + 1).toNatClampNeg) ((((xs (iv + 2).toNatClampNeg).toInt64) <<< ((32 : Int32).toInt64 &&& 63)) ||| (((xs (iv + 3).toNatClampNeg).toInt64) &&& (4294967295))) z ∧ th_IV 12 σ') C0 F tdl_640 (Nat.le_of_ble_eq_true rfl) rfl lw_isM rfl (Nat.le_of_ble_eq_true rfl) (List.mem_of_getElem? (i := 1337) (by decide +kernel)) (tf_m_row hQ1.2) rfl rfl (Nat.le_of_ble_eq_true rfl) hP hS hl.1 (fun z2 σ2 H locs hQ2 hP hS => ?_)
  refine lv_icmp_eq (tgt := 1360) hx hb tdl_643 (by decide) (fun _ => ?_) (fun h => absurd (tp_row_u hQ1.1 hQ2.1) h)
  exact K σ2 H locs hP hS
set_option maxHeartbeats 4000000 in
set_option maxRecDepth 100000 in
theorem lw_c12 {p : Program} {l : Launch} {e : Env} {s : State} {m : MethodId} {below : List Frame} {meth : Method} {c : Code} {b L : Nat} {xs : Nat → Int32} {H : Heap} {locs : List Loc} {adr : Nat → Nat} {D : va_G} {dA : Nat → ClassId} {ls : Array Slot} {σ : tm_S} {iv : Int32} (C0 : lw_At p s m meth c b L xs) (F : lw_F s adr D dA) (hl : lv_has ls 4 [(3, .int iv), (2, .ref (adr 11)), (1, .ref (adr 0)), (0, .ref b)]) (v1 : vp_in (iv + 1) L) (v2 : vp_in (iv + 2) L) (v3 : vp_in (iv + 3) L) (v4 : vp_in (iv + 4) L) (v5 : vp_in (iv + 5) L) (hI : lw_F1 σ) (hP : va_P D tt_cl (tm_w adr dA σ) H) (hS : va_S (fun q : Nat => s.heap.size ≤ q) s.heap H locs) (K : lw_G p l e s m below meth c b adr D dA ls) :
    W p l e room_1 s m #[Value.ref b] below meth c H locs 100 80000 (lw_Z below #[Value.ref b] s) (F0 m 648 ls []) := by
  obtain ⟨hx, hb, hr, hml, hown, hts, hX, hbl, hlocks, hgv⟩ := id C0
  obtain ⟨hI1, hI2, hI3, hI4, hT, hs, hc, hm⟩ := hI
  refine lv_aload_n hx hb tdl_648 rfl (lv_at hl 2 rfl) ?_
  refine lw_arg 1 C0 hS hl v1 tdl_649 tdl_650 tdl_651 (by decide) tdl_652 tdl_653 ?_
  refine lw_arg 2 C0 hS hl v2 tdl_654 tdl_655 tdl_656 (by decide) tdl_657 tdl_658 ?_
  refine lw_arg 3 C0 hS hl v3 tdl_659 tdl_660 tdl_661 (by decide) tdl_662 tdl_663 ?_
  refine lw_arg 4 C0 hS hl v4 tdl_664 tdl_665 tdl_666 (by decide) tdl_667 tdl_668 ?_
  refine lw_call (q := 0) (j := 57) (B := [.int (xs (iv + 1).toNatClampNeg), .int (xs (iv + 2).toNatClampNeg), .int (xs (iv + 3).toNatClampNeg), .int (xs (iv + 4).toNatClampNeg)]) (st := []) (Q' := fun z σ' => z = (-1) ∧ tv_TY tF_T σ') C0 F tdl_669 (Nat.le_of_ble_eq_true rfl) rfl lw_isX rfl (Nat.le_of_ble_eq_true rfl) (List.mem_of_getElem? (i := 568) (by decide +kernel)) (WM.mono (tF_x_form hs) (fun r σ' hq => ⟨_, hq.1, rfl, hq.2 ▸ hT⟩)) rfl rfl (Nat.le_of_ble_eq_true rfl) hP hS hl.1 (fun z1 σ1 H locs hQ1 hP hS => ?_)
  refine lv_aload_n hx hb tdl_672 rfl (lv_at hl 1 rfl) ?_
  refine lw_arg 1 C0 hS hl v1 tdl_673 tdl_674 tdl_675 (by decide) tdl_676 tdl_677 ?_
  refine lw_arg 2 C0 hS hl v2 tdl_678 tdl_679 tdl_680 (by decide) tdl_681 tdl_682 ?_
  refine lw_arg 3 C0 hS hl v3 tdl_683 tdl_684 tdl_685 (by decide) tdl_686 tdl_687 ?_
  refine lw_arg 4 C0 hS hl v4 tdl_688 tdl_689 tdl_690 (by decide) tdl_691 tdl_692 ?_
  refine lw_call (q := 11) (j := 187) (B := [.int (xs (iv + 1).toNatClampNeg), .int (xs (iv + 2).toNatClampNeg), .int (xs (iv + 3).toNatClampNeg), .int (xs (iv + 4).toNatClampNeg)]) (st := [.int z1]) (Q' := fun z σ' => z = (-1) ∧ True) C0 F tdl_693 (Nat.le_of_ble_eq_true rfl) rfl lw_isM rfl (Nat.le_of_ble_eq_true rfl) (List.mem_of_getElem? (i := 1346) (by decide +kernel)) (WM.mono (tF_m_form hQ1.2) (fun r σ' hq => ⟨_, hq.1, rfl, trivial⟩)) rfl rfl (Nat.le_of_ble_eq_true rfl) hP hS hl.1 (fun z2 σ2 H locs hQ2 hP hS => ?_)
  refine lv_icmp_eq (tgt := 1360) hx hb tdl_696 (by decide) (fun _ => ?_) (fun h => absurd (hQ1.1.trans hQ2.1.symm) h)
  exact K σ2 H locs hP hS
set_option maxHeartbeats 4000000 in
set_option maxRecDepth 100000 in
theorem lw_c13 {p : Program} {l : Launch} {e : Env} {s : State} {m : MethodId} {below : List Frame} {meth : Method} {c : Code} {b L : Nat} {xs : Nat → Int32} {H : Heap} {locs : List Loc} {adr : Nat → Nat} {D : va_G} {dA : Nat → ClassId} {ls : Array Slot} {σ : tm_S} {iv : Int32} (C0 : lw_At p s m meth c b L xs) (F : lw_F s adr D dA) (hl : lv_has ls 4 [(3, .int iv), (2, .ref (adr 11)), (1, .ref (adr 0)), (0, .ref b)]) (v1 : vp_in (iv + 1) L) (v2 : vp_in (iv + 2) L) (v3 : vp_in (iv + 3) L) (v4 : vp_in (iv + 4) L) (v5 : vp_in (iv + 5) L) (hI : lw_F1 σ) (hP : va_P D tt_cl (tm_w adr dA σ) H) (hS : va_S (fun q : Nat => s.heap.size ≤ q) s.heap H locs) (K : lw_G p l e s m below meth c b adr D dA ls) :
    W p l e room_1 s m #[Value.ref b] below meth c H locs 100 80000 (lw_Z below #[Value.ref b] s) (F0 m 701 ls []) := by
  obtain ⟨hx, hb, hr, hml, hown, hts, hX, hbl, hlocks, hgv⟩ := id C0
  obtain ⟨hI1, hI2, hI3, hI4, hT, hs, hc, hm⟩ := hI
  refine lv_aload_n hx hb tdl_701 rfl (lv_at hl 2 rfl) ?_
  refine lw_arg 1 C0 hS hl v1 tdl_702 tdl_703 tdl_704 (by decide) tdl_705 tdl_706 ?_
  refine lw_arg 2 C0 hS hl v2 tdl_707 tdl_708 tdl_709 (by decide) tdl_710 tdl_711 ?_
  refine lw_call (q := 0) (j := 61) (B := [.int (xs (iv + 1).toNatClampNeg), .int (xs (iv + 2).toNatClampNeg)]) (st := []) (Q' := fun z σ' => z = (-1) ∧ tv_TY tF_T σ') C0 F tdl_712 (Nat.le_of_ble_eq_true rfl) rfl lw_isX rfl (Nat.le_of_ble_eq_true rfl) (List.mem_of_getElem? (i := 582) (by decide +kernel)) (WM.mono (tF_x_about hs) (fun r σ' hq => ⟨_, hq.1, rfl, hq.2 ▸ hT⟩)) rfl rfl (Nat.le_of_ble_eq_true rfl) hP hS hl.1 (fun z1 σ1 H locs hQ1 hP hS => ?_)
  refine lv_aload_n hx hb tdl_715 rfl (lv_at hl 1 rfl) ?_
  refine lw_arg 1 C0 hS hl v1 tdl_716 tdl_717 tdl_718 (by decide) tdl_719 tdl_720 ?_
  refine lw_arg 2 C0 hS hl v2 tdl_721 tdl_722 tdl_723 (by decide) tdl_724 tdl_725 ?_
  refine lw_call (q := 11) (j := 192) (B := [.int (xs (iv + 1).toNatClampNeg), .int (xs (iv + 2).toNatClampNeg)]) (st := [.int z1]) (Q' := fun z σ' => z = (-1) ∧ True) C0 F tdl_726 (Nat.le_of_ble_eq_true rfl) rfl lw_isM rfl (Nat.le_of_ble_eq_true rfl) (List.mem_of_getElem? (i := 1366) (by decide +kernel)) (WM.mono (tF_m_about hQ1.2) (fun r σ' hq => ⟨_, hq.1, rfl, trivial⟩)) rfl rfl (Nat.le_of_ble_eq_true rfl) hP hS hl.1 (fun z2 σ2 H locs hQ2 hP hS => ?_)
  refine lv_icmp_eq (tgt := 1360) hx hb tdl_729 (by decide) (fun _ => ?_) (fun h => absurd (hQ1.1.trans hQ2.1.symm) h)
  exact K σ2 H locs hP hS
set_option maxHeartbeats 4000000 in
set_option maxRecDepth 100000 in
theorem lw_c14 {p : Program} {l : Launch} {e : Env} {s : State} {m : MethodId} {below : List Frame} {meth : Method} {c : Code} {b L : Nat} {xs : Nat → Int32} {H : Heap} {locs : List Loc} {adr : Nat → Nat} {D : va_G} {dA : Nat → ClassId} {ls : Array Slot} {σ : tm_S} {iv : Int32} (C0 : lw_At p s m meth c b L xs) (F : lw_F s adr D dA) (hl : lv_has ls 4 [(3, .int iv), (2, .ref (adr 11)), (1, .ref (adr 0)), (0, .ref b)]) (v1 : vp_in (iv + 1) L) (v2 : vp_in (iv + 2) L) (v3 : vp_in (iv + 3) L) (v4 : vp_in (iv + 4) L) (v5 : vp_in (iv + 5) L) (hI : lw_F1 σ) (hP : va_P D tt_cl (tm_w adr dA σ) H) (hS : va_S (fun q : Nat => s.heap.size ≤ q) s.heap H locs) (K : lw_G p l e s m below meth c b adr D dA ls) :
    W p l e room_1 s m #[Value.ref b] below meth c H locs 100 80000 (lw_Z below #[Value.ref b] s) (F0 m 734 ls []) := by
  obtain ⟨hx, hb, hr, hml, hown, hts, hX, hbl, hlocks, hgv⟩ := id C0
  obtain ⟨hI1, hI2, hI3, hI4, hT, hs, hc, hm⟩ := hI
  refine lv_aload_n hx hb tdl_734 rfl (lv_at hl 2 rfl) ?_
  refine lw_arg 1 C0 hS hl v1 tdl_735 tdl_736 tdl_737 (by decide) tdl_738 tdl_739 ?_
  refine lw_arg 2 C0 hS hl v2 tdl_740 tdl_741 tdl_742 (by decide) tdl_743 tdl_744 ?_
  refine lw_call (q := 0) (j := 66) (B := [.int (xs (iv + 1).toNatClampNeg), .int (xs (iv + 2).toNatClampNeg)]) (st := []) (Q' := fun z σ' => z = (-1) ∧ tv_TY tF_T σ') C0 F tdl_745 (Nat.le_of_ble_eq_true rfl) rfl lw_isX rfl (Nat.le_of_ble_eq_true rfl) (List.mem_of_getElem? (i := 598) (by decide +kernel)) (WM.mono (tF_x_partners hs) (fun r σ' hq => ⟨_, hq.1, rfl, hq.2 ▸ hT⟩)) rfl rfl (Nat.le_of_ble_eq_true rfl) hP hS hl.1 (fun z1 σ1 H locs hQ1 hP hS => ?_)
  refine lv_aload_n hx hb tdl_748 rfl (lv_at hl 1 rfl) ?_
  refine lw_arg 1 C0 hS hl v1 tdl_749 tdl_750 tdl_751 (by decide) tdl_752 tdl_753 ?_
  refine lw_arg 2 C0 hS hl v2 tdl_754 tdl_755 tdl_756 (by decide) tdl_757 tdl_758 ?_
  refine lw_call (q := 11) (j := 195) (B := [.int (xs (iv + 1).toNatClampNeg), .int (xs (iv + 2).toNatClampNeg)]) (st := [.int z1]) (Q' := fun z σ' => z = (-1) ∧ True) C0 F tdl_759 (Nat.le_of_ble_eq_true rfl) rfl lw_isM rfl (Nat.le_of_ble_eq_true rfl) (List.mem_of_getElem? (i := 1378) (by decide +kernel)) (WM.mono (tF_m_partners hQ1.2) (fun r σ' hq => ⟨_, hq.1, rfl, trivial⟩)) rfl rfl (Nat.le_of_ble_eq_true rfl) hP hS hl.1 (fun z2 σ2 H locs hQ2 hP hS => ?_)
  refine lv_icmp_eq (tgt := 1360) hx hb tdl_762 (by decide) (fun _ => ?_) (fun h => absurd (hQ1.1.trans hQ2.1.symm) h)
  exact K σ2 H locs hP hS
set_option maxHeartbeats 4000000 in
set_option maxRecDepth 100000 in
theorem lw_c15 {p : Program} {l : Launch} {e : Env} {s : State} {m : MethodId} {below : List Frame} {meth : Method} {c : Code} {b L : Nat} {xs : Nat → Int32} {H : Heap} {locs : List Loc} {adr : Nat → Nat} {D : va_G} {dA : Nat → ClassId} {ls : Array Slot} {σ : tm_S} {iv : Int32} (C0 : lw_At p s m meth c b L xs) (F : lw_F s adr D dA) (hl : lv_has ls 4 [(3, .int iv), (2, .ref (adr 11)), (1, .ref (adr 0)), (0, .ref b)]) (v1 : vp_in (iv + 1) L) (v2 : vp_in (iv + 2) L) (v3 : vp_in (iv + 3) L) (v4 : vp_in (iv + 4) L) (v5 : vp_in (iv + 5) L) (hI : lw_F1 σ) (hP : va_P D tt_cl (tm_w adr dA σ) H) (hS : va_S (fun q : Nat => s.heap.size ≤ q) s.heap H locs) (K : lw_G p l e s m below meth c b adr D dA ls) :
    W p l e room_1 s m #[Value.ref b] below meth c H locs 100 80000 (lw_Z below #[Value.ref b] s) (F0 m 767 ls []) := by
  obtain ⟨hx, hb, hr, hml, hown, hts, hX, hbl, hlocks, hgv⟩ := id C0
  obtain ⟨hI1, hI2, hI3, hI4, hT, hs, hc, hm⟩ := hI
  refine lv_aload_n hx hb tdl_767 rfl (lv_at hl 2 rfl) ?_
  refine lw_arg 1 C0 hS hl v1 tdl_768 tdl_769 tdl_770 (by decide) tdl_771 tdl_772 ?_
  refine lw_arg 2 C0 hS hl v2 tdl_773 tdl_774 tdl_775 (by decide) tdl_776 tdl_777 ?_
  refine lw_call (q := 0) (j := 67) (B := [.int (xs (iv + 1).toNatClampNeg), .int (xs (iv + 2).toNatClampNeg)]) (st := []) (Q' := fun z σ' => z = (-1) ∧ tv_TY tF_T σ') C0 F tdl_778 (Nat.le_of_ble_eq_true rfl) rfl lw_isX rfl (Nat.le_of_ble_eq_true rfl) (List.mem_of_getElem? (i := 602) (by decide +kernel)) (WM.mono (tF_x_split hs) (fun r σ' hq => ⟨_, hq.1, rfl, hq.2 ▸ hT⟩)) rfl rfl (Nat.le_of_ble_eq_true rfl) hP hS hl.1 (fun z1 σ1 H locs hQ1 hP hS => ?_)
  refine lv_aload_n hx hb tdl_781 rfl (lv_at hl 1 rfl) ?_
  refine lw_arg 1 C0 hS hl v1 tdl_782 tdl_783 tdl_784 (by decide) tdl_785 tdl_786 ?_
  refine lw_arg 2 C0 hS hl v2 tdl_787 tdl_788 tdl_789 (by decide) tdl_790 tdl_791 ?_
  refine lw_call (q := 11) (j := 196) (B := [.int (xs (iv + 1).toNatClampNeg), .int (xs (iv + 2).toNatClampNeg)]) (st := [.int z1]) (Q' := fun z σ' => z = (-1) ∧ True) C0 F tdl_792 (Nat.le_of_ble_eq_true rfl) rfl lw_isM rfl (Nat.le_of_ble_eq_true rfl) (List.mem_of_getElem? (i := 1382) (by decide +kernel)) (WM.mono (tF_m_split hQ1.2) (fun r σ' hq => ⟨_, hq.1, rfl, trivial⟩)) rfl rfl (Nat.le_of_ble_eq_true rfl) hP hS hl.1 (fun z2 σ2 H locs hQ2 hP hS => ?_)
  refine lv_icmp_eq (tgt := 1360) hx hb tdl_795 (by decide) (fun _ => ?_) (fun h => absurd (hQ1.1.trans hQ2.1.symm) h)
  exact K σ2 H locs hP hS
set_option maxHeartbeats 4000000 in
set_option maxRecDepth 100000 in
theorem lw_c16 {p : Program} {l : Launch} {e : Env} {s : State} {m : MethodId} {below : List Frame} {meth : Method} {c : Code} {b L : Nat} {xs : Nat → Int32} {H : Heap} {locs : List Loc} {adr : Nat → Nat} {D : va_G} {dA : Nat → ClassId} {ls : Array Slot} {σ : tm_S} {iv : Int32} (C0 : lw_At p s m meth c b L xs) (F : lw_F s adr D dA) (hl : lv_has ls 4 [(3, .int iv), (2, .ref (adr 11)), (1, .ref (adr 0)), (0, .ref b)]) (v1 : vp_in (iv + 1) L) (v2 : vp_in (iv + 2) L) (v3 : vp_in (iv + 3) L) (v4 : vp_in (iv + 4) L) (v5 : vp_in (iv + 5) L) (hI : lw_F1 σ) (hP : va_P D tt_cl (tm_w adr dA σ) H) (hS : va_S (fun q : Nat => s.heap.size ≤ q) s.heap H locs) (K : lw_G p l e s m below meth c b adr D dA ls) :
    W p l e room_1 s m #[Value.ref b] below meth c H locs 100 80000 (lw_Z below #[Value.ref b] s) (F0 m 800 ls []) := by
  obtain ⟨hx, hb, hr, hml, hown, hts, hX, hbl, hlocks, hgv⟩ := id C0
  obtain ⟨hI1, hI2, hI3, hI4, hT, hs, hc, hm⟩ := hI
  refine lv_aload_n hx hb tdl_800 rfl (lv_at hl 2 rfl) ?_
  refine lw_call (q := 0) (j := 68) (B := []) (st := []) (Q' := fun z σ' => tp_full 12  z ∧ th_I3 12 σ') C0 F tdl_801 (Nat.le_of_ble_eq_true rfl) rfl lw_isX rfl (Nat.le_of_ble_eq_true rfl) (List.mem_of_getElem? (i := 606) (by decide +kernel)) (tf3_x_full hI3) rfl rfl (Nat.le_of_ble_eq_true rfl) hP hS hl.1 (fun z1 σ1 H locs hQ1 hP hS => ?_)
  refine lv_aload_n hx hb tdl_804 rfl (lv_at hl 1 rfl) ?_
  refine lw_call (q := 11) (j := 197) (B := []) (st := [.int z1]) (Q' := fun z σ' => tp_full 12  z ∧ th_I3 12 σ') C0 F tdl_805 (Nat.le_of_ble_eq_true rfl) rfl lw_isM rfl (Nat.le_of_ble_eq_true rfl) (List.mem_of_getElem? (i := 1386) (by decide +kernel)) (tf3_m_full hQ1.2) rfl rfl (Nat.le_of_ble_eq_true rfl) hP hS hl.1 (fun z2 σ2 H locs hQ2 hP hS => ?_)
  refine lv_icmp_eq (tgt := 1360) hx hb tdl_808 (by decide) (fun _ => ?_) (fun h => absurd (tp_full_u hQ1.1 hQ2.1) h)
  exact K σ2 H locs hP hS
set_option maxHeartbeats 4000000 in
set_option maxRecDepth 100000 in
theorem lw_c17 {p : Program} {l : Launch} {e : Env} {s : State} {m : MethodId} {below : List Frame} {meth : Method} {c : Code} {b L : Nat} {xs : Nat → Int32} {H : Heap} {locs : List Loc} {adr : Nat → Nat} {D : va_G} {dA : Nat → ClassId} {ls : Array Slot} {σ : tm_S} {iv : Int32} (C0 : lw_At p s m meth c b L xs) (F : lw_F s adr D dA) (hl : lv_has ls 4 [(3, .int iv), (2, .ref (adr 11)), (1, .ref (adr 0)), (0, .ref b)]) (v1 : vp_in (iv + 1) L) (v2 : vp_in (iv + 2) L) (v3 : vp_in (iv + 3) L) (v4 : vp_in (iv + 4) L) (v5 : vp_in (iv + 5) L) (hI : lw_F1 σ) (hP : va_P D tt_cl (tm_w adr dA σ) H) (hS : va_S (fun q : Nat => s.heap.size ≤ q) s.heap H locs) (K : lw_G p l e s m below meth c b adr D dA ls) :
    W p l e room_1 s m #[Value.ref b] below meth c H locs 100 80000 (lw_Z below #[Value.ref b] s) (F0 m 813 ls []) := by
  obtain ⟨hx, hb, hr, hml, hown, hts, hX, hbl, hlocks, hgv⟩ := id C0
  obtain ⟨hI1, hI2, hI3, hI4, hT, hs, hc, hm⟩ := hI
  refine lv_aload_n hx hb tdl_813 rfl (lv_at hl 2 rfl) ?_
  refine lw_arg 1 C0 hS hl v1 tdl_814 tdl_815 tdl_816 (by decide) tdl_817 tdl_818 ?_
  refine lw_arg 2 C0 hS hl v2 tdl_819 tdl_820 tdl_821 (by decide) tdl_822 tdl_823 ?_
  refine lw_call (q := 0) (j := 73) (B := [.int (xs (iv + 1).toNatClampNeg), .int (xs (iv + 2).toNatClampNeg)]) (st := []) (Q' := fun z σ' => tp_pick 12 (xs (iv + 1).toNatClampNeg) (xs (iv + 2).toNatClampNeg) z ∧ th_I3 12 σ') C0 F tdl_824 (Nat.le_of_ble_eq_true rfl) rfl lw_isX rfl (Nat.le_of_ble_eq_true rfl) (List.mem_of_getElem? (i := 631) (by decide +kernel)) (tf3_x_pick hI3) rfl rfl (Nat.le_of_ble_eq_true rfl) hP hS hl.1 (fun z1 σ1 H locs hQ1 hP hS => ?_)
  refine lv_aload_n hx hb tdl_827 rfl (lv_at hl 1 rfl) ?_
  refine lw_arg 1 C0 hS hl v1 tdl_828 tdl_829 tdl_830 (by decide) tdl_831 tdl_832 ?_
  refine lw_arg 2 C0 hS hl v2 tdl_833 tdl_834 tdl_835 (by decide) tdl_836 tdl_837 ?_
  refine lw_call (q := 11) (j := 199) (B := [.int (xs (iv + 1).toNatClampNeg), .int (xs (iv + 2).toNatClampNeg)]) (st := [.int z1]) (Q' := fun z σ' => tp_pick 12 (xs (iv + 1).toNatClampNeg) (xs (iv + 2).toNatClampNeg) z ∧ th_I3 12 σ') C0 F tdl_838 (Nat.le_of_ble_eq_true rfl) rfl lw_isM rfl (Nat.le_of_ble_eq_true rfl) (List.mem_of_getElem? (i := 1394) (by decide +kernel)) (tf3_m_pick hQ1.2) rfl rfl (Nat.le_of_ble_eq_true rfl) hP hS hl.1 (fun z2 σ2 H locs hQ2 hP hS => ?_)
  refine lv_icmp_eq (tgt := 1360) hx hb tdl_841 (by decide) (fun _ => ?_) (fun h => absurd (tp_pick_u hQ1.1 hQ2.1) h)
  exact K σ2 H locs hP hS
set_option maxHeartbeats 4000000 in
set_option maxRecDepth 100000 in
theorem lw_c18 {p : Program} {l : Launch} {e : Env} {s : State} {m : MethodId} {below : List Frame} {meth : Method} {c : Code} {b L : Nat} {xs : Nat → Int32} {H : Heap} {locs : List Loc} {adr : Nat → Nat} {D : va_G} {dA : Nat → ClassId} {ls : Array Slot} {σ : tm_S} {iv : Int32} (C0 : lw_At p s m meth c b L xs) (F : lw_F s adr D dA) (hl : lv_has ls 4 [(3, .int iv), (2, .ref (adr 11)), (1, .ref (adr 0)), (0, .ref b)]) (v1 : vp_in (iv + 1) L) (v2 : vp_in (iv + 2) L) (v3 : vp_in (iv + 3) L) (v4 : vp_in (iv + 4) L) (v5 : vp_in (iv + 5) L) (hI : lw_F1 σ) (hP : va_P D tt_cl (tm_w adr dA σ) H) (hS : va_S (fun q : Nat => s.heap.size ≤ q) s.heap H locs) (K : lw_G p l e s m below meth c b adr D dA ls) :
    W p l e room_1 s m #[Value.ref b] below meth c H locs 100 80000 (lw_Z below #[Value.ref b] s) (F0 m 846 ls []) := by
  obtain ⟨hx, hb, hr, hml, hown, hts, hX, hbl, hlocks, hgv⟩ := id C0
  obtain ⟨hI1, hI2, hI3, hI4, hT, hs, hc, hm⟩ := hI
  refine lv_aload_n hx hb tdl_846 rfl (lv_at hl 2 rfl) ?_
  refine lw_arg 1 C0 hS hl v1 tdl_847 tdl_848 tdl_849 (by decide) tdl_850 tdl_851 ?_
  refine lw_call (q := 0) (j := 75) (B := [.int (xs (iv + 1).toNatClampNeg)]) (st := []) (Q' := fun z σ' => z = (-1) ∧ tv_TY tF_T σ') C0 F tdl_852 (Nat.le_of_ble_eq_true rfl) rfl lw_isX rfl (Nat.le_of_ble_eq_true rfl) (List.mem_of_getElem? (i := 639) (by decide +kernel)) (WM.mono (tF_x_rank hs) (fun r σ' hq => ⟨_, hq.1, rfl, hq.2 ▸ hT⟩)) rfl rfl (Nat.le_of_ble_eq_true rfl) hP hS hl.1 (fun z1 σ1 H locs hQ1 hP hS => ?_)
  refine lv_aload_n hx hb tdl_855 rfl (lv_at hl 1 rfl) ?_
  refine lw_arg 1 C0 hS hl v1 tdl_856 tdl_857 tdl_858 (by decide) tdl_859 tdl_860 ?_
  refine lw_call (q := 11) (j := 200) (B := [.int (xs (iv + 1).toNatClampNeg)]) (st := [.int z1]) (Q' := fun z σ' => z = (-1) ∧ True) C0 F tdl_861 (Nat.le_of_ble_eq_true rfl) rfl lw_isM rfl (Nat.le_of_ble_eq_true rfl) (List.mem_of_getElem? (i := 1398) (by decide +kernel)) (WM.mono (tF_m_rank hQ1.2) (fun r σ' hq => ⟨_, hq.1, rfl, trivial⟩)) rfl rfl (Nat.le_of_ble_eq_true rfl) hP hS hl.1 (fun z2 σ2 H locs hQ2 hP hS => ?_)
  refine lv_icmp_eq (tgt := 1360) hx hb tdl_864 (by decide) (fun _ => ?_) (fun h => absurd (hQ1.1.trans hQ2.1.symm) h)
  exact K σ2 H locs hP hS
set_option maxHeartbeats 4000000 in
set_option maxRecDepth 100000 in
theorem lw_c19 {p : Program} {l : Launch} {e : Env} {s : State} {m : MethodId} {below : List Frame} {meth : Method} {c : Code} {b L : Nat} {xs : Nat → Int32} {H : Heap} {locs : List Loc} {adr : Nat → Nat} {D : va_G} {dA : Nat → ClassId} {ls : Array Slot} {σ : tm_S} {iv : Int32} (C0 : lw_At p s m meth c b L xs) (F : lw_F s adr D dA) (hl : lv_has ls 4 [(3, .int iv), (2, .ref (adr 11)), (1, .ref (adr 0)), (0, .ref b)]) (v1 : vp_in (iv + 1) L) (v2 : vp_in (iv + 2) L) (v3 : vp_in (iv + 3) L) (v4 : vp_in (iv + 4) L) (v5 : vp_in (iv + 5) L) (hI : lw_F1 σ) (hP : va_P D tt_cl (tm_w adr dA σ) H) (hS : va_S (fun q : Nat => s.heap.size ≤ q) s.heap H locs) (K : lw_G p l e s m below meth c b adr D dA ls) :
    W p l e room_1 s m #[Value.ref b] below meth c H locs 100 80000 (lw_Z below #[Value.ref b] s) (F0 m 869 ls []) := by
  obtain ⟨hx, hb, hr, hml, hown, hts, hX, hbl, hlocks, hgv⟩ := id C0
  obtain ⟨hI1, hI2, hI3, hI4, hT, hs, hc, hm⟩ := hI
  refine lv_aload_n hx hb tdl_869 rfl (lv_at hl 2 rfl) ?_
  refine lw_arg 1 C0 hS hl v1 tdl_870 tdl_871 tdl_872 (by decide) tdl_873 tdl_874 ?_
  refine lw_arg 2 C0 hS hl v2 tdl_875 tdl_876 tdl_877 (by decide) tdl_878 tdl_879 ?_
  refine lw_call (q := 0) (j := 77) (B := [.int (xs (iv + 1).toNatClampNeg), .int (xs (iv + 2).toNatClampNeg)]) (st := []) (Q' := fun z σ' => tp_fills (xs (iv + 1).toNatClampNeg) (xs (iv + 2).toNatClampNeg) z ∧ th_I4 12 σ') C0 F tdl_880 (Nat.le_of_ble_eq_true rfl) rfl lw_isX rfl (Nat.le_of_ble_eq_true rfl) (List.mem_of_getElem? (i := 647) (by decide +kernel)) (tf4_x_fills hI4) rfl rfl (Nat.le_of_ble_eq_true rfl) hP hS hl.1 (fun z1 σ1 H locs hQ1 hP hS => ?_)
  refine lv_aload_n hx hb tdl_883 rfl (lv_at hl 1 rfl) ?_
  refine lw_arg 1 C0 hS hl v1 tdl_884 tdl_885 tdl_886 (by decide) tdl_887 tdl_888 ?_
  refine lw_arg 2 C0 hS hl v2 tdl_889 tdl_890 tdl_891 (by decide) tdl_892 tdl_893 ?_
  refine lw_call (q := 11) (j := 201) (B := [.int (xs (iv + 1).toNatClampNeg), .int (xs (iv + 2).toNatClampNeg)]) (st := [.int z1]) (Q' := fun z σ' => tp_fills (xs (iv + 1).toNatClampNeg) (xs (iv + 2).toNatClampNeg) z ∧ th_I4 12 σ') C0 F tdl_894 (Nat.le_of_ble_eq_true rfl) rfl lw_isM rfl (Nat.le_of_ble_eq_true rfl) (List.mem_of_getElem? (i := 1402) (by decide +kernel)) (tf4_m_fills hQ1.2) rfl rfl (Nat.le_of_ble_eq_true rfl) hP hS hl.1 (fun z2 σ2 H locs hQ2 hP hS => ?_)
  refine lv_icmp_eq (tgt := 1360) hx hb tdl_897 (by decide) (fun _ => ?_) (fun h => absurd (tp_fills_u hQ1.1 hQ2.1) h)
  exact K σ2 H locs hP hS
set_option maxHeartbeats 4000000 in
set_option maxRecDepth 100000 in
theorem lw_c20 {p : Program} {l : Launch} {e : Env} {s : State} {m : MethodId} {below : List Frame} {meth : Method} {c : Code} {b L : Nat} {xs : Nat → Int32} {H : Heap} {locs : List Loc} {adr : Nat → Nat} {D : va_G} {dA : Nat → ClassId} {ls : Array Slot} {σ : tm_S} {iv : Int32} (C0 : lw_At p s m meth c b L xs) (F : lw_F s adr D dA) (hl : lv_has ls 4 [(3, .int iv), (2, .ref (adr 11)), (1, .ref (adr 0)), (0, .ref b)]) (v1 : vp_in (iv + 1) L) (v2 : vp_in (iv + 2) L) (v3 : vp_in (iv + 3) L) (v4 : vp_in (iv + 4) L) (v5 : vp_in (iv + 5) L) (hI : lw_F1 σ) (hP : va_P D tt_cl (tm_w adr dA σ) H) (hS : va_S (fun q : Nat => s.heap.size ≤ q) s.heap H locs) (K : lw_G p l e s m below meth c b adr D dA ls) :
    W p l e room_1 s m #[Value.ref b] below meth c H locs 100 80000 (lw_Z below #[Value.ref b] s) (F0 m 902 ls []) := by
  obtain ⟨hx, hb, hr, hml, hown, hts, hX, hbl, hlocks, hgv⟩ := id C0
  obtain ⟨hI1, hI2, hI3, hI4, hT, hs, hc, hm⟩ := hI
  refine lv_aload_n hx hb tdl_902 rfl (lv_at hl 2 rfl) ?_
  refine lw_arg 1 C0 hS hl v1 tdl_903 tdl_904 tdl_905 (by decide) tdl_906 tdl_907 ?_
  refine lw_arg 2 C0 hS hl v2 tdl_908 tdl_909 tdl_910 (by decide) tdl_911 tdl_912 ?_
  refine lw_arg 3 C0 hS hl v3 tdl_913 tdl_914 tdl_915 (by decide) tdl_916 tdl_917 ?_
  refine lw_call (q := 0) (j := 82) (B := [.int (xs (iv + 1).toNatClampNeg), .int (xs (iv + 2).toNatClampNeg), .int (xs (iv + 3).toNatClampNeg)]) (st := []) (Q' := fun z σ' => tp_fill (xs (iv + 1).toNatClampNeg) (xs (iv + 2).toNatClampNeg) (xs (iv + 3).toNatClampNeg) z ∧ th_I4 12 σ') C0 F tdl_918 (Nat.le_of_ble_eq_true rfl) rfl lw_isX rfl (Nat.le_of_ble_eq_true rfl) (List.mem_of_getElem? (i := 671) (by decide +kernel)) (tf4_x_fill hI4) rfl rfl (Nat.le_of_ble_eq_true rfl) hP hS hl.1 (fun z1 σ1 H locs hQ1 hP hS => ?_)
  refine lv_aload_n hx hb tdl_921 rfl (lv_at hl 1 rfl) ?_
  refine lw_arg 1 C0 hS hl v1 tdl_922 tdl_923 tdl_924 (by decide) tdl_925 tdl_926 ?_
  refine lw_arg 2 C0 hS hl v2 tdl_927 tdl_928 tdl_929 (by decide) tdl_930 tdl_931 ?_
  refine lw_arg 3 C0 hS hl v3 tdl_932 tdl_933 tdl_934 (by decide) tdl_935 tdl_936 ?_
  refine lw_call (q := 11) (j := 207) (B := [.int (xs (iv + 1).toNatClampNeg), .int (xs (iv + 2).toNatClampNeg), .int (xs (iv + 3).toNatClampNeg)]) (st := [.int z1]) (Q' := fun z σ' => tp_fill (xs (iv + 1).toNatClampNeg) (xs (iv + 2).toNatClampNeg) (xs (iv + 3).toNatClampNeg) z ∧ th_I4 12 σ') C0 F tdl_937 (Nat.le_of_ble_eq_true rfl) rfl lw_isM rfl (Nat.le_of_ble_eq_true rfl) (List.mem_of_getElem? (i := 1426) (by decide +kernel)) (tf4_m_fill hQ1.2) rfl rfl (Nat.le_of_ble_eq_true rfl) hP hS hl.1 (fun z2 σ2 H locs hQ2 hP hS => ?_)
  refine lv_icmp_eq (tgt := 1360) hx hb tdl_940 (by decide) (fun _ => ?_) (fun h => absurd (tp_fill_u hQ1.1 hQ2.1) h)
  exact K σ2 H locs hP hS
set_option maxHeartbeats 4000000 in
set_option maxRecDepth 100000 in
theorem lw_c21 {p : Program} {l : Launch} {e : Env} {s : State} {m : MethodId} {below : List Frame} {meth : Method} {c : Code} {b L : Nat} {xs : Nat → Int32} {H : Heap} {locs : List Loc} {adr : Nat → Nat} {D : va_G} {dA : Nat → ClassId} {ls : Array Slot} {σ : tm_S} {iv : Int32} (C0 : lw_At p s m meth c b L xs) (F : lw_F s adr D dA) (hl : lv_has ls 4 [(3, .int iv), (2, .ref (adr 11)), (1, .ref (adr 0)), (0, .ref b)]) (v1 : vp_in (iv + 1) L) (v2 : vp_in (iv + 2) L) (v3 : vp_in (iv + 3) L) (v4 : vp_in (iv + 4) L) (v5 : vp_in (iv + 5) L) (hI : lw_F1 σ) (hP : va_P D tt_cl (tm_w adr dA σ) H) (hS : va_S (fun q : Nat => s.heap.size ≤ q) s.heap H locs) (K : lw_G p l e s m below meth c b adr D dA ls) :
    W p l e room_1 s m #[Value.ref b] below meth c H locs 100 80000 (lw_Z below #[Value.ref b] s) (F0 m 945 ls []) := by
  obtain ⟨hx, hb, hr, hml, hown, hts, hX, hbl, hlocks, hgv⟩ := id C0
  obtain ⟨hI1, hI2, hI3, hI4, hT, hs, hc, hm⟩ := hI
  refine lv_aload_n hx hb tdl_945 rfl (lv_at hl 2 rfl) ?_
  refine lw_arg 1 C0 hS hl v1 tdl_946 tdl_947 tdl_948 (by decide) tdl_949 tdl_950 ?_
  refine lw_arg 2 C0 hS hl v2 tdl_951 tdl_952 tdl_953 (by decide) tdl_954 tdl_955 ?_
  refine lw_call (q := 0) (j := 86) (B := [.int (xs (iv + 1).toNatClampNeg), .int (xs (iv + 2).toNatClampNeg)]) (st := []) (Q' := fun z σ' => tp_pure (xs (iv + 1).toNatClampNeg) (xs (iv + 2).toNatClampNeg) z ∧ th_I4 12 σ') C0 F tdl_956 (Nat.le_of_ble_eq_true rfl) rfl lw_isX rfl (Nat.le_of_ble_eq_true rfl) (List.mem_of_getElem? (i := 687) (by decide +kernel)) (tf4_x_pure hI4) rfl rfl (Nat.le_of_ble_eq_true rfl) hP hS hl.1 (fun z1 σ1 H locs hQ1 hP hS => ?_)
  refine lv_aload_n hx hb tdl_959 rfl (lv_at hl 1 rfl) ?_
  refine lw_arg 1 C0 hS hl v1 tdl_960 tdl_961 tdl_962 (by decide) tdl_963 tdl_964 ?_
  refine lw_arg 2 C0 hS hl v2 tdl_965 tdl_966 tdl_967 (by decide) tdl_968 tdl_969 ?_
  refine lw_call (q := 11) (j := 208) (B := [.int (xs (iv + 1).toNatClampNeg), .int (xs (iv + 2).toNatClampNeg)]) (st := [.int z1]) (Q' := fun z σ' => tp_pure (xs (iv + 1).toNatClampNeg) (xs (iv + 2).toNatClampNeg) z ∧ th_I4 12 σ') C0 F tdl_970 (Nat.le_of_ble_eq_true rfl) rfl lw_isM rfl (Nat.le_of_ble_eq_true rfl) (List.mem_of_getElem? (i := 1430) (by decide +kernel)) (tf4_m_pure hQ1.2) rfl rfl (Nat.le_of_ble_eq_true rfl) hP hS hl.1 (fun z2 σ2 H locs hQ2 hP hS => ?_)
  refine lv_icmp_eq (tgt := 1360) hx hb tdl_973 (by decide) (fun _ => ?_) (fun h => absurd (tp_pure_u hQ1.1 hQ2.1) h)
  exact K σ2 H locs hP hS
set_option maxHeartbeats 4000000 in
set_option maxRecDepth 100000 in
theorem lw_c22 {p : Program} {l : Launch} {e : Env} {s : State} {m : MethodId} {below : List Frame} {meth : Method} {c : Code} {b L : Nat} {xs : Nat → Int32} {H : Heap} {locs : List Loc} {adr : Nat → Nat} {D : va_G} {dA : Nat → ClassId} {ls : Array Slot} {σ : tm_S} {iv : Int32} (C0 : lw_At p s m meth c b L xs) (F : lw_F s adr D dA) (hl : lv_has ls 4 [(3, .int iv), (2, .ref (adr 11)), (1, .ref (adr 0)), (0, .ref b)]) (v1 : vp_in (iv + 1) L) (v2 : vp_in (iv + 2) L) (v3 : vp_in (iv + 3) L) (v4 : vp_in (iv + 4) L) (v5 : vp_in (iv + 5) L) (hI : lw_F1 σ) (hP : va_P D tt_cl (tm_w adr dA σ) H) (hS : va_S (fun q : Nat => s.heap.size ≤ q) s.heap H locs) (K : lw_G p l e s m below meth c b adr D dA ls) :
    W p l e room_1 s m #[Value.ref b] below meth c H locs 100 80000 (lw_Z below #[Value.ref b] s) (F0 m 978 ls []) := by
  obtain ⟨hx, hb, hr, hml, hown, hts, hX, hbl, hlocks, hgv⟩ := id C0
  obtain ⟨hI1, hI2, hI3, hI4, hT, hs, hc, hm⟩ := hI
  refine lv_aload_n hx hb tdl_978 rfl (lv_at hl 2 rfl) ?_
  refine lw_arg 1 C0 hS hl v1 tdl_979 tdl_980 tdl_981 (by decide) tdl_982 tdl_983 ?_
  refine lw_arg 2 C0 hS hl v2 tdl_984 tdl_985 tdl_986 (by decide) tdl_987 tdl_988 ?_
  refine lw_call (q := 0) (j := 89) (B := [.int (xs (iv + 1).toNatClampNeg), .int (xs (iv + 2).toNatClampNeg)]) (st := []) (Q' := fun z σ' => tp_per (xs (iv + 1).toNatClampNeg) (xs (iv + 2).toNatClampNeg) z ∧ th_IV 12 σ') C0 F tdl_989 (Nat.le_of_ble_eq_true rfl) rfl lw_isX rfl (Nat.le_of_ble_eq_true rfl) (List.mem_of_getElem? (i := 699) (by decide +kernel)) (tf_x_period hI1) rfl rfl (Nat.le_of_ble_eq_true rfl) hP hS hl.1 (fun z1 σ1 H locs hQ1 hP hS => ?_)
  refine lv_aload_n hx hb tdl_992 rfl (lv_at hl 1 rfl) ?_
  refine lw_arg 1 C0 hS hl v1 tdl_993 tdl_994 tdl_995 (by decide) tdl_996 tdl_997 ?_
  refine lw_arg 2 C0 hS hl v2 tdl_998 tdl_999 tdl_1000 (by decide) tdl_1001 tdl_1002 ?_
  refine lw_call (q := 11) (j := 210) (B := [.int (xs (iv + 1).toNatClampNeg), .int (xs (iv + 2).toNatClampNeg)]) (st := [.int z1]) (Q' := fun z σ' => tp_per (xs (iv + 1).toNatClampNeg) (xs (iv + 2).toNatClampNeg) z ∧ th_IV 12 σ') C0 F tdl_1003 (Nat.le_of_ble_eq_true rfl) rfl lw_isM rfl (Nat.le_of_ble_eq_true rfl) (List.mem_of_getElem? (i := 1438) (by decide +kernel)) (tf_m_period hQ1.2) rfl rfl (Nat.le_of_ble_eq_true rfl) hP hS hl.1 (fun z2 σ2 H locs hQ2 hP hS => ?_)
  refine lv_icmp_eq (tgt := 1360) hx hb tdl_1006 (by decide) (fun _ => ?_) (fun h => absurd (tp_per_u hQ1.1 hQ2.1) h)
  exact K σ2 H locs hP hS
set_option maxHeartbeats 4000000 in
set_option maxRecDepth 100000 in
theorem lw_c23 {p : Program} {l : Launch} {e : Env} {s : State} {m : MethodId} {below : List Frame} {meth : Method} {c : Code} {b L : Nat} {xs : Nat → Int32} {H : Heap} {locs : List Loc} {adr : Nat → Nat} {D : va_G} {dA : Nat → ClassId} {ls : Array Slot} {σ : tm_S} {iv : Int32} (C0 : lw_At p s m meth c b L xs) (F : lw_F s adr D dA) (hl : lv_has ls 4 [(3, .int iv), (2, .ref (adr 11)), (1, .ref (adr 0)), (0, .ref b)]) (v1 : vp_in (iv + 1) L) (v2 : vp_in (iv + 2) L) (v3 : vp_in (iv + 3) L) (v4 : vp_in (iv + 4) L) (v5 : vp_in (iv + 5) L) (hI : lw_F1 σ) (hP : va_P D tt_cl (tm_w adr dA σ) H) (hS : va_S (fun q : Nat => s.heap.size ≤ q) s.heap H locs) (K : lw_G p l e s m below meth c b adr D dA ls) :
    W p l e room_1 s m #[Value.ref b] below meth c H locs 100 80000 (lw_Z below #[Value.ref b] s) (F0 m 1011 ls []) := by
  obtain ⟨hx, hb, hr, hml, hown, hts, hX, hbl, hlocks, hgv⟩ := id C0
  obtain ⟨hI1, hI2, hI3, hI4, hT, hs, hc, hm⟩ := hI
  refine lv_aload_n hx hb tdl_1011 rfl (lv_at hl 2 rfl) ?_
  refine lw_arg 1 C0 hS hl v1 tdl_1012 tdl_1013 tdl_1014 (by decide) tdl_1015 tdl_1016 ?_
  refine lw_arg 2 C0 hS hl v2 tdl_1017 tdl_1018 tdl_1019 (by decide) tdl_1020 tdl_1021 ?_
  refine lw_arg 3 C0 hS hl v3 tdl_1022 tdl_1023 tdl_1024 (by decide) tdl_1025 tdl_1026 ?_
  refine lw_arg 4 C0 hS hl v4 tdl_1027 tdl_1028 tdl_1029 (by decide) tdl_1030 tdl_1031 ?_
  refine lw_arg 5 C0 hS hl v5 tdl_1032 tdl_1033 tdl_1034 (by decide) tdl_1035 tdl_1036 ?_
  refine lw_call (q := 0) (j := 90) (B := [.int (xs (iv + 1).toNatClampNeg), .int (xs (iv + 2).toNatClampNeg), .int (xs (iv + 3).toNatClampNeg), .int (xs (iv + 4).toNatClampNeg), .int (xs (iv + 5).toNatClampNeg)]) (st := []) (Q' := fun z σ' => z = 20 ∧ σ'.1 11 32 = 0) C0 F tdl_1037 (Nat.le_of_ble_eq_true rfl) rfl lw_isX rfl (Nat.le_of_ble_eq_true rfl) (List.mem_of_getElem? (i := 704) (by decide +kernel)) (WM.mono (tF_x_feed hT) (fun r σ' hq => ⟨_, hq.1, rfl, hq.2⟩)) rfl rfl (Nat.le_of_ble_eq_true rfl) hP hS hl.1 (fun z1 σ1 H locs hQ1 hP hS => ?_)
  refine lv_aload_n hx hb tdl_1040 rfl (lv_at hl 1 rfl) ?_
  refine lw_arg 1 C0 hS hl v1 tdl_1041 tdl_1042 tdl_1043 (by decide) tdl_1044 tdl_1045 ?_
  refine lw_arg 2 C0 hS hl v2 tdl_1046 tdl_1047 tdl_1048 (by decide) tdl_1049 tdl_1050 ?_
  refine lw_arg 3 C0 hS hl v3 tdl_1051 tdl_1052 tdl_1053 (by decide) tdl_1054 tdl_1055 ?_
  refine lw_arg 4 C0 hS hl v4 tdl_1056 tdl_1057 tdl_1058 (by decide) tdl_1059 tdl_1060 ?_
  refine lw_arg 5 C0 hS hl v5 tdl_1061 tdl_1062 tdl_1063 (by decide) tdl_1064 tdl_1065 ?_
  refine lw_call (q := 11) (j := 223) (B := [.int (xs (iv + 1).toNatClampNeg), .int (xs (iv + 2).toNatClampNeg), .int (xs (iv + 3).toNatClampNeg), .int (xs (iv + 4).toNatClampNeg), .int (xs (iv + 5).toNatClampNeg)]) (st := [.int z1]) (Q' := fun z σ' => z = 20 ∧ True) C0 F tdl_1066 (Nat.le_of_ble_eq_true rfl) rfl lw_isM rfl (Nat.le_of_ble_eq_true rfl) (List.mem_of_getElem? (i := 1490) (by decide +kernel)) (WM.mono (tF_m_feed hQ1.2) (fun r σ' hq => ⟨_, hq.1, rfl, trivial⟩)) rfl rfl (Nat.le_of_ble_eq_true rfl) hP hS hl.1 (fun z2 σ2 H locs hQ2 hP hS => ?_)
  refine lv_icmp_eq (tgt := 1360) hx hb tdl_1069 (by decide) (fun _ => ?_) (fun h => absurd (hQ1.1.trans hQ2.1.symm) h)
  exact K σ2 H locs hP hS
set_option maxHeartbeats 4000000 in
set_option maxRecDepth 100000 in
theorem lw_c24 {p : Program} {l : Launch} {e : Env} {s : State} {m : MethodId} {below : List Frame} {meth : Method} {c : Code} {b L : Nat} {xs : Nat → Int32} {H : Heap} {locs : List Loc} {adr : Nat → Nat} {D : va_G} {dA : Nat → ClassId} {ls : Array Slot} {σ : tm_S} {iv : Int32} (C0 : lw_At p s m meth c b L xs) (F : lw_F s adr D dA) (hl : lv_has ls 4 [(3, .int iv), (2, .ref (adr 11)), (1, .ref (adr 0)), (0, .ref b)]) (v1 : vp_in (iv + 1) L) (v2 : vp_in (iv + 2) L) (v3 : vp_in (iv + 3) L) (v4 : vp_in (iv + 4) L) (v5 : vp_in (iv + 5) L) (hI : lw_F1 σ) (hP : va_P D tt_cl (tm_w adr dA σ) H) (hS : va_S (fun q : Nat => s.heap.size ≤ q) s.heap H locs) (K : lw_G p l e s m below meth c b adr D dA ls) :
    W p l e room_1 s m #[Value.ref b] below meth c H locs 100 80000 (lw_Z below #[Value.ref b] s) (F0 m 1074 ls []) := by
  obtain ⟨hx, hb, hr, hml, hown, hts, hX, hbl, hlocks, hgv⟩ := id C0
  obtain ⟨hI1, hI2, hI3, hI4, hT, hs, hc, hm⟩ := hI
  refine lv_aload_n hx hb tdl_1074 rfl (lv_at hl 2 rfl) ?_
  refine lw_arg 1 C0 hS hl v1 tdl_1075 tdl_1076 tdl_1077 (by decide) tdl_1078 tdl_1079 ?_
  refine lw_call (q := 0) (j := 95) (B := [.int (xs (iv + 1).toNatClampNeg)]) (st := []) (Q' := fun z σ' => z = tF_end (xs (iv + 1).toNatClampNeg) ∧ tv_TY tF_T σ') C0 F tdl_1080 (Nat.le_of_ble_eq_true rfl) rfl lw_isX rfl (Nat.le_of_ble_eq_true rfl) (List.mem_of_getElem? (i := 724) (by decide +kernel)) (WM.mono (tF_x_end hT) (fun r σ' hq => ⟨_, hq.1, rfl, hq.2⟩)) rfl rfl (Nat.le_of_ble_eq_true rfl) hP hS hl.1 (fun z1 σ1 H locs hQ1 hP hS => ?_)
  refine lv_aload_n hx hb tdl_1083 rfl (lv_at hl 1 rfl) ?_
  refine lw_arg 1 C0 hS hl v1 tdl_1084 tdl_1085 tdl_1086 (by decide) tdl_1087 tdl_1088 ?_
  refine lw_call (q := 11) (j := 225) (B := [.int (xs (iv + 1).toNatClampNeg)]) (st := [.int z1]) (Q' := fun z σ' => z = tF_end (xs (iv + 1).toNatClampNeg) ∧ True) C0 F tdl_1089 (Nat.le_of_ble_eq_true rfl) rfl lw_isM rfl (Nat.le_of_ble_eq_true rfl) (List.mem_of_getElem? (i := 1498) (by decide +kernel)) (WM.mono (tF_m_end hQ1.2) (fun r σ' hq => ⟨_, hq.1, rfl, trivial⟩)) rfl rfl (Nat.le_of_ble_eq_true rfl) hP hS hl.1 (fun z2 σ2 H locs hQ2 hP hS => ?_)
  refine lv_icmp_eq (tgt := 1360) hx hb tdl_1092 (by decide) (fun _ => ?_) (fun h => absurd (hQ1.1.trans hQ2.1.symm) h)
  exact K σ2 H locs hP hS
set_option maxHeartbeats 4000000 in
set_option maxRecDepth 100000 in
theorem lw_c25 {p : Program} {l : Launch} {e : Env} {s : State} {m : MethodId} {below : List Frame} {meth : Method} {c : Code} {b L : Nat} {xs : Nat → Int32} {H : Heap} {locs : List Loc} {adr : Nat → Nat} {D : va_G} {dA : Nat → ClassId} {ls : Array Slot} {σ : tm_S} {iv : Int32} (C0 : lw_At p s m meth c b L xs) (F : lw_F s adr D dA) (hl : lv_has ls 4 [(3, .int iv), (2, .ref (adr 11)), (1, .ref (adr 0)), (0, .ref b)]) (v1 : vp_in (iv + 1) L) (v2 : vp_in (iv + 2) L) (v3 : vp_in (iv + 3) L) (v4 : vp_in (iv + 4) L) (v5 : vp_in (iv + 5) L) (hI : lw_F1 σ) (hP : va_P D tt_cl (tm_w adr dA σ) H) (hS : va_S (fun q : Nat => s.heap.size ≤ q) s.heap H locs) (K : lw_G p l e s m below meth c b adr D dA ls) :
    W p l e room_1 s m #[Value.ref b] below meth c H locs 100 80000 (lw_Z below #[Value.ref b] s) (F0 m 1097 ls []) := by
  obtain ⟨hx, hb, hr, hml, hown, hts, hX, hbl, hlocks, hgv⟩ := id C0
  obtain ⟨hI1, hI2, hI3, hI4, hT, hs, hc, hm⟩ := hI
  refine lv_aload_n hx hb tdl_1097 rfl (lv_at hl 2 rfl) ?_
  refine lw_call (q := 0) (j := 97) (B := []) (st := []) (Q' := fun z σ' => z = 0 ∧ tv_TY tF_T σ') C0 F tdl_1098 (Nat.le_of_ble_eq_true rfl) rfl lw_isX rfl (Nat.le_of_ble_eq_true rfl) (List.mem_of_getElem? (i := 732) (by decide +kernel)) (WM.mono (tF_x_load hT hc hm) (fun r σ' hq => ⟨_, hq.1, rfl, hq.2⟩)) rfl rfl (Nat.le_of_ble_eq_true rfl) hP hS hl.1 (fun z1 σ1 H locs hQ1 hP hS => ?_)
  refine lv_aload_n hx hb tdl_1101 rfl (lv_at hl 1 rfl) ?_
  refine lw_call (q := 11) (j := 232) (B := []) (st := [.int z1]) (Q' := fun z σ' => z = 0 ∧ True) C0 F tdl_1102 (Nat.le_of_ble_eq_true rfl) rfl lw_isM rfl (Nat.le_of_ble_eq_true rfl) (List.mem_of_getElem? (i := 1526) (by decide +kernel)) (WM.mono (tF_m_load (tF_v hQ1.2 rfl)) (fun r σ' hq => ⟨_, hq.1, rfl, trivial⟩)) rfl rfl (Nat.le_of_ble_eq_true rfl) hP hS hl.1 (fun z2 σ2 H locs hQ2 hP hS => ?_)
  refine lv_icmp_eq (tgt := 1360) hx hb tdl_1105 (by decide) (fun _ => ?_) (fun h => absurd (hQ1.1.trans hQ2.1.symm) h)
  exact K σ2 H locs hP hS
set_option maxHeartbeats 4000000 in
set_option maxRecDepth 100000 in
theorem lw_c26 {p : Program} {l : Launch} {e : Env} {s : State} {m : MethodId} {below : List Frame} {meth : Method} {c : Code} {b L : Nat} {xs : Nat → Int32} {H : Heap} {locs : List Loc} {adr : Nat → Nat} {D : va_G} {dA : Nat → ClassId} {ls : Array Slot} {σ : tm_S} {iv : Int32} (C0 : lw_At p s m meth c b L xs) (F : lw_F s adr D dA) (hl : lv_has ls 4 [(3, .int iv), (2, .ref (adr 11)), (1, .ref (adr 0)), (0, .ref b)]) (v1 : vp_in (iv + 1) L) (v2 : vp_in (iv + 2) L) (v3 : vp_in (iv + 3) L) (v4 : vp_in (iv + 4) L) (v5 : vp_in (iv + 5) L) (hI : lw_F1 σ) (hP : va_P D tt_cl (tm_w adr dA σ) H) (hS : va_S (fun q : Nat => s.heap.size ≤ q) s.heap H locs) (K : lw_G p l e s m below meth c b adr D dA ls) :
    W p l e room_1 s m #[Value.ref b] below meth c H locs 100 80000 (lw_Z below #[Value.ref b] s) (F0 m 1110 ls []) := by
  obtain ⟨hx, hb, hr, hml, hown, hts, hX, hbl, hlocks, hgv⟩ := id C0
  obtain ⟨hI1, hI2, hI3, hI4, hT, hs, hc, hm⟩ := hI
  refine lv_aload_n hx hb tdl_1110 rfl (lv_at hl 2 rfl) ?_
  refine lw_arg 1 C0 hS hl v1 tdl_1111 tdl_1112 tdl_1113 (by decide) tdl_1114 tdl_1115 ?_
  refine lw_call (q := 0) (j := 131) (B := [.int (xs (iv + 1).toNatClampNeg)]) (st := []) (Q' := fun z σ' => z = tF_fault (xs (iv + 1).toNatClampNeg) ∧ tv_TY tF_T σ') C0 F tdl_1116 (Nat.le_of_ble_eq_true rfl) rfl lw_isX rfl (Nat.le_of_ble_eq_true rfl) (List.mem_of_getElem? (i := 946) (by decide +kernel)) (WM.mono (tF_x_fault hT) (fun r σ' hq => ⟨_, hq.1, rfl, hq.2⟩)) rfl rfl (Nat.le_of_ble_eq_true rfl) hP hS hl.1 (fun z1 σ1 H locs hQ1 hP hS => ?_)
  refine lv_aload_n hx hb tdl_1119 rfl (lv_at hl 1 rfl) ?_
  refine lw_arg 1 C0 hS hl v1 tdl_1120 tdl_1121 tdl_1122 (by decide) tdl_1123 tdl_1124 ?_
  refine lw_call (q := 11) (j := 243) (B := [.int (xs (iv + 1).toNatClampNeg)]) (st := [.int z1]) (Q' := fun z σ' => z = tF_fault (xs (iv + 1).toNatClampNeg) ∧ True) C0 F tdl_1125 (Nat.le_of_ble_eq_true rfl) rfl lw_isM rfl (Nat.le_of_ble_eq_true rfl) (List.mem_of_getElem? (i := 1570) (by decide +kernel)) (WM.mono (tF_m_fault hQ1.2) (fun r σ' hq => ⟨_, hq.1, rfl, trivial⟩)) rfl rfl (Nat.le_of_ble_eq_true rfl) hP hS hl.1 (fun z2 σ2 H locs hQ2 hP hS => ?_)
  refine lv_icmp_eq (tgt := 1360) hx hb tdl_1128 (by decide) (fun _ => ?_) (fun h => absurd (hQ1.1.trans hQ2.1.symm) h)
  exact K σ2 H locs hP hS
set_option maxHeartbeats 4000000 in
set_option maxRecDepth 100000 in
theorem lw_c27 {p : Program} {l : Launch} {e : Env} {s : State} {m : MethodId} {below : List Frame} {meth : Method} {c : Code} {b L : Nat} {xs : Nat → Int32} {H : Heap} {locs : List Loc} {adr : Nat → Nat} {D : va_G} {dA : Nat → ClassId} {ls : Array Slot} {σ : tm_S} {iv : Int32} (C0 : lw_At p s m meth c b L xs) (F : lw_F s adr D dA) (hl : lv_has ls 4 [(3, .int iv), (2, .ref (adr 11)), (1, .ref (adr 0)), (0, .ref b)]) (v1 : vp_in (iv + 1) L) (v2 : vp_in (iv + 2) L) (v3 : vp_in (iv + 3) L) (v4 : vp_in (iv + 4) L) (v5 : vp_in (iv + 5) L) (hI : lw_F1 σ) (hP : va_P D tt_cl (tm_w adr dA σ) H) (hS : va_S (fun q : Nat => s.heap.size ≤ q) s.heap H locs) (K : lw_G p l e s m below meth c b adr D dA ls) :
    W p l e room_1 s m #[Value.ref b] below meth c H locs 100 80000 (lw_Z below #[Value.ref b] s) (F0 m 1133 ls []) := by
  obtain ⟨hx, hb, hr, hml, hown, hts, hX, hbl, hlocks, hgv⟩ := id C0
  obtain ⟨hI1, hI2, hI3, hI4, hT, hs, hc, hm⟩ := hI
  refine lv_aload_n hx hb tdl_1133 rfl (lv_at hl 2 rfl) ?_
  refine lw_arg 1 C0 hS hl v1 tdl_1134 tdl_1135 tdl_1136 (by decide) tdl_1137 tdl_1138 ?_
  refine lw_call (q := 0) (j := 134) (B := [.int (xs (iv + 1).toNatClampNeg)]) (st := []) (Q' := fun z σ' => z = tF_score (xs (iv + 1).toNatClampNeg) ∧ tv_TY tF_T σ') C0 F tdl_1139 (Nat.le_of_ble_eq_true rfl) rfl lw_isX rfl (Nat.le_of_ble_eq_true rfl) (List.mem_of_getElem? (i := 958) (by decide +kernel)) (WM.mono (tF_x_score hT hc) (fun r σ' hq => ⟨_, hq.1, rfl, hq.2⟩)) rfl rfl (Nat.le_of_ble_eq_true rfl) hP hS hl.1 (fun z1 σ1 H locs hQ1 hP hS => ?_)
  refine lv_aload_n hx hb tdl_1142 rfl (lv_at hl 1 rfl) ?_
  refine lw_arg 1 C0 hS hl v1 tdl_1143 tdl_1144 tdl_1145 (by decide) tdl_1146 tdl_1147 ?_
  refine lw_call (q := 11) (j := 211) (B := [.int (xs (iv + 1).toNatClampNeg)]) (st := [.int z1]) (Q' := fun z σ' => z = tF_score (xs (iv + 1).toNatClampNeg) ∧ True) C0 F tdl_1148 (Nat.le_of_ble_eq_true rfl) rfl lw_isM rfl (Nat.le_of_ble_eq_true rfl) (List.mem_of_getElem? (i := 1442) (by decide +kernel)) (WM.mono (tF_m_score hQ1.2) (fun r σ' hq => ⟨_, hq.1, rfl, trivial⟩)) rfl rfl (Nat.le_of_ble_eq_true rfl) hP hS hl.1 (fun z2 σ2 H locs hQ2 hP hS => ?_)
  refine lv_icmp_eq (tgt := 1360) hx hb tdl_1151 (by decide) (fun _ => ?_) (fun h => absurd (hQ1.1.trans hQ2.1.symm) h)
  exact K σ2 H locs hP hS
set_option maxHeartbeats 4000000 in
set_option maxRecDepth 100000 in
theorem lw_c28 {p : Program} {l : Launch} {e : Env} {s : State} {m : MethodId} {below : List Frame} {meth : Method} {c : Code} {b L : Nat} {xs : Nat → Int32} {H : Heap} {locs : List Loc} {adr : Nat → Nat} {D : va_G} {dA : Nat → ClassId} {ls : Array Slot} {σ : tm_S} {iv : Int32} (C0 : lw_At p s m meth c b L xs) (F : lw_F s adr D dA) (hl : lv_has ls 4 [(3, .int iv), (2, .ref (adr 11)), (1, .ref (adr 0)), (0, .ref b)]) (v1 : vp_in (iv + 1) L) (v2 : vp_in (iv + 2) L) (v3 : vp_in (iv + 3) L) (v4 : vp_in (iv + 4) L) (v5 : vp_in (iv + 5) L) (hI : lw_F1 σ) (hP : va_P D tt_cl (tm_w adr dA σ) H) (hS : va_S (fun q : Nat => s.heap.size ≤ q) s.heap H locs) (K : lw_G p l e s m below meth c b adr D dA ls) :
    W p l e room_1 s m #[Value.ref b] below meth c H locs 100 80000 (lw_Z below #[Value.ref b] s) (F0 m 1156 ls []) := by
  obtain ⟨hx, hb, hr, hml, hown, hts, hX, hbl, hlocks, hgv⟩ := id C0
  obtain ⟨hI1, hI2, hI3, hI4, hT, hs, hc, hm⟩ := hI
  refine lv_aload_n hx hb tdl_1156 rfl (lv_at hl 2 rfl) ?_
  refine lw_arg 1 C0 hS hl v1 tdl_1157 tdl_1158 tdl_1159 (by decide) tdl_1160 tdl_1161 ?_
  refine lw_arg 2 C0 hS hl v2 tdl_1162 tdl_1163 tdl_1164 (by decide) tdl_1165 tdl_1166 ?_
  refine lw_call (q := 0) (j := 140) (B := [.int (xs (iv + 1).toNatClampNeg), .int (xs (iv + 2).toNatClampNeg)]) (st := []) (Q' := fun z σ' => z = (-1) ∧ tv_TY tF_T σ') C0 F tdl_1167 (Nat.le_of_ble_eq_true rfl) rfl lw_isX rfl (Nat.le_of_ble_eq_true rfl) (List.mem_of_getElem? (i := 987) (by decide +kernel)) (WM.mono (tF_x_voice hT) (fun r σ' hq => ⟨_, hq.1, rfl, hq.2⟩)) rfl rfl (Nat.le_of_ble_eq_true rfl) hP hS hl.1 (fun z1 σ1 H locs hQ1 hP hS => ?_)
  refine lv_aload_n hx hb tdl_1170 rfl (lv_at hl 1 rfl) ?_
  refine lw_arg 1 C0 hS hl v1 tdl_1171 tdl_1172 tdl_1173 (by decide) tdl_1174 tdl_1175 ?_
  refine lw_arg 2 C0 hS hl v2 tdl_1176 tdl_1177 tdl_1178 (by decide) tdl_1179 tdl_1180 ?_
  refine lw_call (q := 11) (j := 215) (B := [.int (xs (iv + 1).toNatClampNeg), .int (xs (iv + 2).toNatClampNeg)]) (st := [.int z1]) (Q' := fun z σ' => z = (-1) ∧ True) C0 F tdl_1181 (Nat.le_of_ble_eq_true rfl) rfl lw_isM rfl (Nat.le_of_ble_eq_true rfl) (List.mem_of_getElem? (i := 1458) (by decide +kernel)) (WM.mono (tF_m_voice hQ1.2) (fun r σ' hq => ⟨_, hq.1, rfl, trivial⟩)) rfl rfl (Nat.le_of_ble_eq_true rfl) hP hS hl.1 (fun z2 σ2 H locs hQ2 hP hS => ?_)
  refine lv_icmp_eq (tgt := 1360) hx hb tdl_1184 (by decide) (fun _ => ?_) (fun h => absurd (hQ1.1.trans hQ2.1.symm) h)
  exact K σ2 H locs hP hS
set_option maxHeartbeats 4000000 in
set_option maxRecDepth 100000 in
theorem lw_c29 {p : Program} {l : Launch} {e : Env} {s : State} {m : MethodId} {below : List Frame} {meth : Method} {c : Code} {b L : Nat} {xs : Nat → Int32} {H : Heap} {locs : List Loc} {adr : Nat → Nat} {D : va_G} {dA : Nat → ClassId} {ls : Array Slot} {σ : tm_S} {iv : Int32} (C0 : lw_At p s m meth c b L xs) (F : lw_F s adr D dA) (hl : lv_has ls 4 [(3, .int iv), (2, .ref (adr 11)), (1, .ref (adr 0)), (0, .ref b)]) (v1 : vp_in (iv + 1) L) (v2 : vp_in (iv + 2) L) (v3 : vp_in (iv + 3) L) (v4 : vp_in (iv + 4) L) (v5 : vp_in (iv + 5) L) (hI : lw_F1 σ) (hP : va_P D tt_cl (tm_w adr dA σ) H) (hS : va_S (fun q : Nat => s.heap.size ≤ q) s.heap H locs) (K : lw_G p l e s m below meth c b adr D dA ls) :
    W p l e room_1 s m #[Value.ref b] below meth c H locs 100 80000 (lw_Z below #[Value.ref b] s) (F0 m 1189 ls []) := by
  obtain ⟨hx, hb, hr, hml, hown, hts, hX, hbl, hlocks, hgv⟩ := id C0
  obtain ⟨hI1, hI2, hI3, hI4, hT, hs, hc, hm⟩ := hI
  refine lv_aload_n hx hb tdl_1189 rfl (lv_at hl 2 rfl) ?_
  refine lw_arg 1 C0 hS hl v1 tdl_1190 tdl_1191 tdl_1192 (by decide) tdl_1193 tdl_1194 ?_
  refine lw_arg 2 C0 hS hl v2 tdl_1195 tdl_1196 tdl_1197 (by decide) tdl_1198 tdl_1199 ?_
  refine lw_call (q := 0) (j := 146) (B := [.int (xs (iv + 1).toNatClampNeg), .int (xs (iv + 2).toNatClampNeg)]) (st := []) (Q' := fun z σ' => z = (-1) ∧ tv_TY tF_T σ') C0 F tdl_1200 (Nat.le_of_ble_eq_true rfl) rfl lw_isX rfl (Nat.le_of_ble_eq_true rfl) (List.mem_of_getElem? (i := 1012) (by decide +kernel)) (WM.mono (tF_x_sings hT) (fun r σ' hq => ⟨_, hq.1, rfl, hq.2⟩)) rfl rfl (Nat.le_of_ble_eq_true rfl) hP hS hl.1 (fun z1 σ1 H locs hQ1 hP hS => ?_)
  refine lv_aload_n hx hb tdl_1203 rfl (lv_at hl 1 rfl) ?_
  refine lw_arg 1 C0 hS hl v1 tdl_1204 tdl_1205 tdl_1206 (by decide) tdl_1207 tdl_1208 ?_
  refine lw_arg 2 C0 hS hl v2 tdl_1209 tdl_1210 tdl_1211 (by decide) tdl_1212 tdl_1213 ?_
  refine lw_call (q := 11) (j := 218) (B := [.int (xs (iv + 1).toNatClampNeg), .int (xs (iv + 2).toNatClampNeg)]) (st := [.int z1]) (Q' := fun z σ' => z = (-1) ∧ True) C0 F tdl_1214 (Nat.le_of_ble_eq_true rfl) rfl lw_isM rfl (Nat.le_of_ble_eq_true rfl) (List.mem_of_getElem? (i := 1470) (by decide +kernel)) (WM.mono (tF_m_sings hQ1.2) (fun r σ' hq => ⟨_, hq.1, rfl, trivial⟩)) rfl rfl (Nat.le_of_ble_eq_true rfl) hP hS hl.1 (fun z2 σ2 H locs hQ2 hP hS => ?_)
  refine lv_icmp_eq (tgt := 1360) hx hb tdl_1217 (by decide) (fun _ => ?_) (fun h => absurd (hQ1.1.trans hQ2.1.symm) h)
  exact K σ2 H locs hP hS
set_option maxHeartbeats 4000000 in
set_option maxRecDepth 100000 in
theorem lw_c30 {p : Program} {l : Launch} {e : Env} {s : State} {m : MethodId} {below : List Frame} {meth : Method} {c : Code} {b L : Nat} {xs : Nat → Int32} {H : Heap} {locs : List Loc} {adr : Nat → Nat} {D : va_G} {dA : Nat → ClassId} {ls : Array Slot} {σ : tm_S} {iv : Int32} (C0 : lw_At p s m meth c b L xs) (F : lw_F s adr D dA) (hl : lv_has ls 4 [(3, .int iv), (2, .ref (adr 11)), (1, .ref (adr 0)), (0, .ref b)]) (v1 : vp_in (iv + 1) L) (v2 : vp_in (iv + 2) L) (v3 : vp_in (iv + 3) L) (v4 : vp_in (iv + 4) L) (v5 : vp_in (iv + 5) L) (hI : lw_F1 σ) (hP : va_P D tt_cl (tm_w adr dA σ) H) (hS : va_S (fun q : Nat => s.heap.size ≤ q) s.heap H locs) (K : lw_G p l e s m below meth c b adr D dA ls) :
    W p l e room_1 s m #[Value.ref b] below meth c H locs 100 80000 (lw_Z below #[Value.ref b] s) (F0 m 1222 ls []) := by
  obtain ⟨hx, hb, hr, hml, hown, hts, hX, hbl, hlocks, hgv⟩ := id C0
  obtain ⟨hI1, hI2, hI3, hI4, hT, hs, hc, hm⟩ := hI
  refine lv_aload_n hx hb tdl_1222 rfl (lv_at hl 2 rfl) ?_
  refine lw_arg 1 C0 hS hl v1 tdl_1223 tdl_1224 tdl_1225 (by decide) tdl_1226 tdl_1227 ?_
  refine lw_call (q := 0) (j := 147) (B := [.int (xs (iv + 1).toNatClampNeg)]) (st := []) (Q' := fun z σ' => z = 0 ∧ tv_TY tF_T σ') C0 F tdl_1228 (Nat.le_of_ble_eq_true rfl) rfl lw_isX rfl (Nat.le_of_ble_eq_true rfl) (List.mem_of_getElem? (i := 1017) (by decide +kernel)) (WM.mono (tF_x_chord hT) (fun r σ' hq => ⟨_, hq.1, rfl, hq.2⟩)) rfl rfl (Nat.le_of_ble_eq_true rfl) hP hS hl.1 (fun z1 σ1 H locs hQ1 hP hS => ?_)
  refine lv_aload_n hx hb tdl_1231 rfl (lv_at hl 1 rfl) ?_
  refine lw_arg 1 C0 hS hl v1 tdl_1232 tdl_1233 tdl_1234 (by decide) tdl_1235 tdl_1236 ?_
  refine lw_call (q := 11) (j := 220) (B := [.int (xs (iv + 1).toNatClampNeg)]) (st := [.int z1]) (Q' := fun z σ' => z = 0 ∧ True) C0 F tdl_1237 (Nat.le_of_ble_eq_true rfl) rfl lw_isM rfl (Nat.le_of_ble_eq_true rfl) (List.mem_of_getElem? (i := 1478) (by decide +kernel)) (WM.mono (tF_m_chord hQ1.2) (fun r σ' hq => ⟨_, hq.1, rfl, trivial⟩)) rfl rfl (Nat.le_of_ble_eq_true rfl) hP hS hl.1 (fun z2 σ2 H locs hQ2 hP hS => ?_)
  refine lv_icmp_eq (tgt := 1360) hx hb tdl_1240 (by decide) (fun _ => ?_) (fun h => absurd (hQ1.1.trans hQ2.1.symm) h)
  exact K σ2 H locs hP hS
set_option maxHeartbeats 4000000 in
set_option maxRecDepth 100000 in
theorem lw_c31 {p : Program} {l : Launch} {e : Env} {s : State} {m : MethodId} {below : List Frame} {meth : Method} {c : Code} {b L : Nat} {xs : Nat → Int32} {H : Heap} {locs : List Loc} {adr : Nat → Nat} {D : va_G} {dA : Nat → ClassId} {ls : Array Slot} {σ : tm_S} {iv : Int32} (C0 : lw_At p s m meth c b L xs) (F : lw_F s adr D dA) (hl : lv_has ls 4 [(3, .int iv), (2, .ref (adr 11)), (1, .ref (adr 0)), (0, .ref b)]) (v1 : vp_in (iv + 1) L) (v2 : vp_in (iv + 2) L) (v3 : vp_in (iv + 3) L) (v4 : vp_in (iv + 4) L) (v5 : vp_in (iv + 5) L) (hI : lw_F1 σ) (hP : va_P D tt_cl (tm_w adr dA σ) H) (hS : va_S (fun q : Nat => s.heap.size ≤ q) s.heap H locs) (K : lw_G p l e s m below meth c b adr D dA ls) :
    W p l e room_1 s m #[Value.ref b] below meth c H locs 100 80000 (lw_Z below #[Value.ref b] s) (F0 m 1245 ls []) := by
  obtain ⟨hx, hb, hr, hml, hown, hts, hX, hbl, hlocks, hgv⟩ := id C0
  obtain ⟨hI1, hI2, hI3, hI4, hT, hs, hc, hm⟩ := hI
  refine lv_aload_n hx hb tdl_1245 rfl (lv_at hl 2 rfl) ?_
  refine lw_arg 1 C0 hS hl v1 tdl_1246 tdl_1247 tdl_1248 (by decide) tdl_1249 tdl_1250 ?_
  refine lw_arg 2 C0 hS hl v2 tdl_1251 tdl_1252 tdl_1253 (by decide) tdl_1254 tdl_1255 ?_
  refine lw_call (q := 0) (j := 148) (B := [.int (xs (iv + 1).toNatClampNeg), .int (xs (iv + 2).toNatClampNeg)]) (st := []) (Q' := fun z σ' => z = (-1) ∧ tv_TY tF_T σ') C0 F tdl_1256 (Nat.le_of_ble_eq_true rfl) rfl lw_isX rfl (Nat.le_of_ble_eq_true rfl) (List.mem_of_getElem? (i := 1021) (by decide +kernel)) (WM.mono (tF_x_fit hT) (fun r σ' hq => ⟨_, hq.1, rfl, hq.2⟩)) rfl rfl (Nat.le_of_ble_eq_true rfl) hP hS hl.1 (fun z1 σ1 H locs hQ1 hP hS => ?_)
  refine lv_aload_n hx hb tdl_1259 rfl (lv_at hl 1 rfl) ?_
  refine lw_arg 1 C0 hS hl v1 tdl_1260 tdl_1261 tdl_1262 (by decide) tdl_1263 tdl_1264 ?_
  refine lw_arg 2 C0 hS hl v2 tdl_1265 tdl_1266 tdl_1267 (by decide) tdl_1268 tdl_1269 ?_
  refine lw_call (q := 11) (j := 221) (B := [.int (xs (iv + 1).toNatClampNeg), .int (xs (iv + 2).toNatClampNeg)]) (st := [.int z1]) (Q' := fun z σ' => z = (-1) ∧ True) C0 F tdl_1270 (Nat.le_of_ble_eq_true rfl) rfl lw_isM rfl (Nat.le_of_ble_eq_true rfl) (List.mem_of_getElem? (i := 1482) (by decide +kernel)) (WM.mono (tF_m_fit hQ1.2) (fun r σ' hq => ⟨_, hq.1, rfl, trivial⟩)) rfl rfl (Nat.le_of_ble_eq_true rfl) hP hS hl.1 (fun z2 σ2 H locs hQ2 hP hS => ?_)
  refine lv_icmp_eq (tgt := 1360) hx hb tdl_1273 (by decide) (fun _ => ?_) (fun h => absurd (hQ1.1.trans hQ2.1.symm) h)
  exact K σ2 H locs hP hS
set_option maxHeartbeats 4000000 in
set_option maxRecDepth 100000 in
theorem lw_c32 {p : Program} {l : Launch} {e : Env} {s : State} {m : MethodId} {below : List Frame} {meth : Method} {c : Code} {b L : Nat} {xs : Nat → Int32} {H : Heap} {locs : List Loc} {adr : Nat → Nat} {D : va_G} {dA : Nat → ClassId} {ls : Array Slot} {σ : tm_S} {iv : Int32} (C0 : lw_At p s m meth c b L xs) (F : lw_F s adr D dA) (hl : lv_has ls 4 [(3, .int iv), (2, .ref (adr 11)), (1, .ref (adr 0)), (0, .ref b)]) (v1 : vp_in (iv + 1) L) (v2 : vp_in (iv + 2) L) (v3 : vp_in (iv + 3) L) (v4 : vp_in (iv + 4) L) (v5 : vp_in (iv + 5) L) (hI : lw_F1 σ) (hP : va_P D tt_cl (tm_w adr dA σ) H) (hS : va_S (fun q : Nat => s.heap.size ≤ q) s.heap H locs) (K : lw_G p l e s m below meth c b adr D dA ls) :
    W p l e room_1 s m #[Value.ref b] below meth c H locs 100 80000 (lw_Z below #[Value.ref b] s) (F0 m 1278 ls []) := by
  obtain ⟨hx, hb, hr, hml, hown, hts, hX, hbl, hlocks, hgv⟩ := id C0
  obtain ⟨hI1, hI2, hI3, hI4, hT, hs, hc, hm⟩ := hI
  refine lv_aload_n hx hb tdl_1278 rfl (lv_at hl 2 rfl) ?_
  refine lw_arg 1 C0 hS hl v1 tdl_1279 tdl_1280 tdl_1281 (by decide) tdl_1282 tdl_1283 ?_
  refine lw_arg 2 C0 hS hl v2 tdl_1284 tdl_1285 tdl_1286 (by decide) tdl_1287 tdl_1288 ?_
  refine lw_call (q := 0) (j := 150) (B := [.int (xs (iv + 1).toNatClampNeg), .int (xs (iv + 2).toNatClampNeg)]) (st := []) (Q' := fun z σ' => z = 0 ∧ tv_TY tF_T σ') C0 F tdl_1289 (Nat.le_of_ble_eq_true rfl) rfl lw_isX rfl (Nat.le_of_ble_eq_true rfl) (List.mem_of_getElem? (i := 1029) (by decide +kernel)) (WM.mono (tF_x_keep hT) (fun r σ' hq => ⟨_, hq.1, rfl, hq.2⟩)) rfl rfl (Nat.le_of_ble_eq_true rfl) hP hS hl.1 (fun z1 σ1 H locs hQ1 hP hS => ?_)
  refine lv_aload_n hx hb tdl_1292 rfl (lv_at hl 1 rfl) ?_
  refine lw_arg 1 C0 hS hl v1 tdl_1293 tdl_1294 tdl_1295 (by decide) tdl_1296 tdl_1297 ?_
  refine lw_arg 2 C0 hS hl v2 tdl_1298 tdl_1299 tdl_1300 (by decide) tdl_1301 tdl_1302 ?_
  refine lw_call (q := 11) (j := 222) (B := [.int (xs (iv + 1).toNatClampNeg), .int (xs (iv + 2).toNatClampNeg)]) (st := [.int z1]) (Q' := fun z σ' => z = 0 ∧ True) C0 F tdl_1303 (Nat.le_of_ble_eq_true rfl) rfl lw_isM rfl (Nat.le_of_ble_eq_true rfl) (List.mem_of_getElem? (i := 1486) (by decide +kernel)) (WM.mono (tF_m_keep hQ1.2) (fun r σ' hq => ⟨_, hq.1, rfl, trivial⟩)) rfl rfl (Nat.le_of_ble_eq_true rfl) hP hS hl.1 (fun z2 σ2 H locs hQ2 hP hS => ?_)
  refine lv_icmp_eq (tgt := 1360) hx hb tdl_1306 (by decide) (fun _ => ?_) (fun h => absurd (hQ1.1.trans hQ2.1.symm) h)
  exact K σ2 H locs hP hS
set_option maxHeartbeats 4000000 in
set_option maxRecDepth 100000 in
theorem lw_c33 {p : Program} {l : Launch} {e : Env} {s : State} {m : MethodId} {below : List Frame} {meth : Method} {c : Code} {b L : Nat} {xs : Nat → Int32} {H : Heap} {locs : List Loc} {adr : Nat → Nat} {D : va_G} {dA : Nat → ClassId} {ls : Array Slot} {σ : tm_S} {iv : Int32} (C0 : lw_At p s m meth c b L xs) (F : lw_F s adr D dA) (hl : lv_has ls 4 [(3, .int iv), (2, .ref (adr 11)), (1, .ref (adr 0)), (0, .ref b)]) (v1 : vp_in (iv + 1) L) (v2 : vp_in (iv + 2) L) (v3 : vp_in (iv + 3) L) (v4 : vp_in (iv + 4) L) (v5 : vp_in (iv + 5) L) (hI : lw_F1 σ) (hP : va_P D tt_cl (tm_w adr dA σ) H) (hS : va_S (fun q : Nat => s.heap.size ≤ q) s.heap H locs) (K : lw_G p l e s m below meth c b adr D dA ls) :
    W p l e room_1 s m #[Value.ref b] below meth c H locs 100 80000 (lw_Z below #[Value.ref b] s) (F0 m 1311 ls []) := by
  obtain ⟨hx, hb, hr, hml, hown, hts, hX, hbl, hlocks, hgv⟩ := id C0
  obtain ⟨hI1, hI2, hI3, hI4, hT, hs, hc, hm⟩ := hI
  refine lv_aload_n hx hb tdl_1311 rfl (lv_at hl 2 rfl) ?_
  refine lw_call (q := 0) (j := 151) (B := []) (st := []) (Q' := fun z σ' => z = 0 ∧ tv_TY tF_T σ') C0 F tdl_1312 (Nat.le_of_ble_eq_true rfl) rfl lw_isX rfl (Nat.le_of_ble_eq_true rfl) (List.mem_of_getElem? (i := 1034) (by decide +kernel)) (WM.mono (tF_x_write hT) (fun r σ' hq => ⟨_, hq.1, rfl, hq.2⟩)) rfl rfl (Nat.le_of_ble_eq_true rfl) hP hS hl.1 (fun z1 σ1 H locs hQ1 hP hS => ?_)
  refine lv_aload_n hx hb tdl_1315 rfl (lv_at hl 1 rfl) ?_
  refine lw_call (q := 11) (j := 228) (B := []) (st := [.int z1]) (Q' := fun z σ' => z = 0 ∧ True) C0 F tdl_1316 (Nat.le_of_ble_eq_true rfl) rfl lw_isM rfl (Nat.le_of_ble_eq_true rfl) (List.mem_of_getElem? (i := 1510) (by decide +kernel)) (WM.mono (tF_m_write hQ1.2) (fun r σ' hq => ⟨_, hq.1, rfl, trivial⟩)) rfl rfl (Nat.le_of_ble_eq_true rfl) hP hS hl.1 (fun z2 σ2 H locs hQ2 hP hS => ?_)
  refine lv_icmp_eq (tgt := 1360) hx hb tdl_1319 (by decide) (fun _ => ?_) (fun h => absurd (hQ1.1.trans hQ2.1.symm) h)
  exact K σ2 H locs hP hS
set_option maxHeartbeats 4000000 in
set_option maxRecDepth 100000 in
theorem lw_c34 {p : Program} {l : Launch} {e : Env} {s : State} {m : MethodId} {below : List Frame} {meth : Method} {c : Code} {b L : Nat} {xs : Nat → Int32} {H : Heap} {locs : List Loc} {adr : Nat → Nat} {D : va_G} {dA : Nat → ClassId} {ls : Array Slot} {σ : tm_S} {iv : Int32} (C0 : lw_At p s m meth c b L xs) (F : lw_F s adr D dA) (hl : lv_has ls 4 [(3, .int iv), (2, .ref (adr 11)), (1, .ref (adr 0)), (0, .ref b)]) (v1 : vp_in (iv + 1) L) (v2 : vp_in (iv + 2) L) (v3 : vp_in (iv + 3) L) (v4 : vp_in (iv + 4) L) (v5 : vp_in (iv + 5) L) (hI : lw_F1 σ) (hP : va_P D tt_cl (tm_w adr dA σ) H) (hS : va_S (fun q : Nat => s.heap.size ≤ q) s.heap H locs) (K : lw_G p l e s m below meth c b adr D dA ls) :
    W p l e room_1 s m #[Value.ref b] below meth c H locs 100 80000 (lw_Z below #[Value.ref b] s) (F0 m 1324 ls []) := by
  obtain ⟨hx, hb, hr, hml, hown, hts, hX, hbl, hlocks, hgv⟩ := id C0
  obtain ⟨hI1, hI2, hI3, hI4, hT, hs, hc, hm⟩ := hI
  refine lv_aload_n hx hb tdl_1324 rfl (lv_at hl 2 rfl) ?_
  refine lw_arg 1 C0 hS hl v1 tdl_1325 tdl_1326 tdl_1327 (by decide) tdl_1328 tdl_1329 ?_
  refine lw_call (q := 0) (j := 157) (B := [.int (xs (iv + 1).toNatClampNeg)]) (st := []) (Q' := fun z σ' => z = (-1) ∧ tv_TY tF_T σ') C0 F tdl_1330 (Nat.le_of_ble_eq_true rfl) rfl lw_isX rfl (Nat.le_of_ble_eq_true rfl) (List.mem_of_getElem? (i := 1067) (by decide +kernel)) (WM.mono (tF_x_out hT) (fun r σ' hq => ⟨_, hq.1, rfl, hq.2⟩)) rfl rfl (Nat.le_of_ble_eq_true rfl) hP hS hl.1 (fun z1 σ1 H locs hQ1 hP hS => ?_)
  refine lv_aload_n hx hb tdl_1333 rfl (lv_at hl 1 rfl) ?_
  refine lw_arg 1 C0 hS hl v1 tdl_1334 tdl_1335 tdl_1336 (by decide) tdl_1337 tdl_1338 ?_
  refine lw_call (q := 11) (j := 227) (B := [.int (xs (iv + 1).toNatClampNeg)]) (st := [.int z1]) (Q' := fun z σ' => z = (-1) ∧ True) C0 F tdl_1339 (Nat.le_of_ble_eq_true rfl) rfl lw_isM rfl (Nat.le_of_ble_eq_true rfl) (List.mem_of_getElem? (i := 1506) (by decide +kernel)) (WM.mono (tF_m_out hQ1.2) (fun r σ' hq => ⟨_, hq.1, rfl, trivial⟩)) rfl rfl (Nat.le_of_ble_eq_true rfl) hP hS hl.1 (fun z2 σ2 H locs hQ2 hP hS => ?_)
  refine lv_icmp_eq (tgt := 1360) hx hb tdl_1342 (by decide) (fun _ => ?_) (fun h => absurd (hQ1.1.trans hQ2.1.symm) h)
  exact K σ2 H locs hP hS
set_option maxHeartbeats 4000000 in
set_option maxRecDepth 100000 in
theorem lw_c35 {p : Program} {l : Launch} {e : Env} {s : State} {m : MethodId} {below : List Frame} {meth : Method} {c : Code} {b L : Nat} {xs : Nat → Int32} {H : Heap} {locs : List Loc} {adr : Nat → Nat} {D : va_G} {dA : Nat → ClassId} {ls : Array Slot} {σ : tm_S} {iv : Int32} (C0 : lw_At p s m meth c b L xs) (F : lw_F s adr D dA) (hl : lv_has ls 4 [(3, .int iv), (2, .ref (adr 11)), (1, .ref (adr 0)), (0, .ref b)]) (v1 : vp_in (iv + 1) L) (v2 : vp_in (iv + 2) L) (v3 : vp_in (iv + 3) L) (v4 : vp_in (iv + 4) L) (v5 : vp_in (iv + 5) L) (hI : lw_F1 σ) (hP : va_P D tt_cl (tm_w adr dA σ) H) (hS : va_S (fun q : Nat => s.heap.size ≤ q) s.heap H locs) (K : lw_G p l e s m below meth c b adr D dA ls) :
    W p l e room_1 s m #[Value.ref b] below meth c H locs 100 80000 (lw_Z below #[Value.ref b] s) (F0 m 1347 ls []) := by
  obtain ⟨hx, hb, hr, hml, hown, hts, hX, hbl, hlocks, hgv⟩ := id C0
  obtain ⟨hI1, hI2, hI3, hI4, hT, hs, hc, hm⟩ := hI
  refine lv_aload_n hx hb tdl_1347 rfl (lv_at hl 2 rfl) ?_
  refine lw_call (q := 0) (j := 158) (B := []) (st := []) (Q' := fun z σ' => z = 0 ∧ tv_TY tF_T σ') C0 F tdl_1348 (Nat.le_of_ble_eq_true rfl) rfl lw_isX rfl (Nat.le_of_ble_eq_true rfl) (List.mem_of_getElem? (i := 1072) (by decide +kernel)) (WM.mono (tF_x_take hT) (fun r σ' hq => ⟨_, hq.1, rfl, hq.2⟩)) rfl rfl (Nat.le_of_ble_eq_true rfl) hP hS hl.1 (fun z1 σ1 H locs hQ1 hP hS => ?_)
  refine lv_aload_n hx hb tdl_1351 rfl (lv_at hl 1 rfl) ?_
  refine lw_call (q := 11) (j := 226) (B := []) (st := [.int z1]) (Q' := fun z σ' => z = 0 ∧ True) C0 F tdl_1352 (Nat.le_of_ble_eq_true rfl) rfl lw_isM rfl (Nat.le_of_ble_eq_true rfl) (List.mem_of_getElem? (i := 1502) (by decide +kernel)) (WM.mono (tF_m_take hQ1.2) (fun r σ' hq => ⟨_, hq.1, rfl, trivial⟩)) rfl rfl (Nat.le_of_ble_eq_true rfl) hP hS hl.1 (fun z2 σ2 H locs hQ2 hP hS => ?_)
  refine lv_icmp_eq (tgt := 1360) hx hb tdl_1355 (by decide) (fun _ => ?_) (fun h => absurd (hQ1.1.trans hQ2.1.symm) h)
  exact K σ2 H locs hP hS
