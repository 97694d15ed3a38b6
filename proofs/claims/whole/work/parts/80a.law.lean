def zGo (p : Program) (l : Launch) (e : Env) (R : Room) (s : State) (m : MethodId) (below : List Frame) (meth : Method) (c : Code) (ls : Array Slot) (cells slots : Nat) (Q : State → Prop) (D : va_G) (T : Nat → ClassId) (A : Nat → Prop) (b : Nat) (ad : Nat → Nat → Nat) (hm : Nat → Nat) : Prop := ∀ (gs : Nat → zM) (g : zM) (gl : zL) (H : Heap) (locs : List Loc), yInv gs g gl → va_P D vwCl (zFlat (zWg T ad hm gs g gl)) H → va_D A (zFlat (zWg T ad hm gs g gl)) → va_S A s.heap H locs → W p l e R s m #[Value.ref b] below meth c H locs cells slots Q (F0 m 1646 ls [])
section LW
variable {p : Program} {l : Launch} {e : Env} {s : State} {m : MethodId} {below : List Frame} {meth : Method} {c : Code} {H : Heap} {locs : List Loc} {cells slots : Nat} {Q : State → Prop} {ls : Array Slot} {D : va_G} {T : Nat → ClassId} {X : zFP} {A : Nat → Prop} {b L : Nat} {xs : Nat → Int32} {i : Nat} {ad : Nat → Nat → Nat} {hm : Nat → Nat} {gs : Nat → zM} {g : zM} {gl : zL}
set_option maxHeartbeats 4000000 in
set_option maxRecDepth 20000 in
theorem law_feed (C : zLw p room_1 s m c b L xs D T X A cells slots) (hi : i + 6 ≤ L) (hv : yInv gs g gl) (hP : va_P D vwCl (zFlat (zWg T ad hm gs g gl)) H) (hD : va_D A (zFlat (zWg T ad hm gs g gl))) (hS : va_S A s.heap H locs) (hl : lv_has ls 4 [(0, .ref b), (1, .ref (ad 0 0)), (2, .ref (hm 0)), (3, .int (nI i))]) (kk : zGo p l e room_1 s m below meth c ls cells slots Q D T A b ad hm) : W p l e room_1 s m #[Value.ref b] below meth c H locs cells slots Q (F0 m 220 ls []) := by
  have hx := C.hx
  have hb := C.hb
  obtain ⟨r, w4, g', e1, e2, hv⟩ := v_feed hv ((((zAt xs i 1).toInt64 <<< ((32 : Int32).toInt64 &&& 63)) ||| ((zAt xs i 2).toInt64 &&& (4294967295 : Int64)))) (zAt xs i 3)
  refine lv_aload_n hx hb dL_law_220 rfl (lv_at hl 1 rfl) ?_
  refine zLd 1 C hS hl hi (by decide) rfl dL_law_221 dL_law_222 dL_law_223 dL_law_224 dL_law_225 ?_
  refine lv_i2l hx hb dL_law_226 rfl ?_
  refine lv_bipush (v := 32) hx hb dL_law_227 (by decide) ?_
  refine lv_lshl hx hb dL_law_229 rfl ?_
  refine zLd 2 C hS hl hi (by decide) rfl dL_law_230 dL_law_231 dL_law_232 dL_law_233 dL_law_234 ?_
  refine lv_i2l hx hb dL_law_235 rfl ?_
  refine lv_ldc2 (v := 4294967295) hx hb C.hown (C.hts _ (lin_wsL_law_r1 _ (List.mem_of_getElem? (i := 6) rfl))) dL_law_236 ?_
  refine lv_land hx hb dL_law_239 ?_
  refine lv_lor hx hb dL_law_240 ?_
  refine zLd 3 C hS hl hi (by decide) rfl dL_law_241 dL_law_242 dL_law_243 dL_law_244 dL_law_245 ?_
  refine zCallGI (zWg T ad hm gs g gl) (zWg T ad hm (zSet gs 4 w4) g gl) [.long ((((zAt xs i 1).toInt64 <<< ((32 : Int32).toInt64 &&& 63)) ||| ((zAt xs i 2).toInt64 &&& (4294967295 : Int64)))), .int (zAt xs i 3)] ⟨hx, hb, C.hml, C.hown, zHt C.hts tv_X9_feed⟩ (pX9_feed l D T X ad H.size (gs 0) (gs 4) ((((zAt xs i 1).toInt64 <<< ((32 : Int32).toInt64 &&& 63)) ||| ((zAt xs i 2).toInt64 &&& (4294967295 : Int64)))) (zAt xs i 3) r w4 e1) (cwV 2 (zHt C.hts tv_X9_feed) gv_X9_feed rfl rfl rfl (by decide +kernel) ⟨Nat.le_of_ble_eq_true rfl, Nat.le_of_ble_eq_true rfl⟩) C.hK hP hD hS C.hA C.hX [0, 4] [1, 2, 3, 5, 6, 7, 8, 9, 10, 11, 12] rfl (zFl2 _ _ ) (zFl2 _ _ ) rfl 0 rfl rfl rfl hl.1 rfl (Nat.le_of_ble_eq_true rfl) dL_law_246 C.hf (fun H locs hP hD hS => ?_)
  refine lv_aload_n hx hb dL_law_249 rfl (lv_at hl 2 rfl) ?_
  refine zLd 1 C hS hl hi (by decide) rfl dL_law_250 dL_law_251 dL_law_252 dL_law_253 dL_law_254 ?_
  refine lv_i2l hx hb dL_law_255 rfl ?_
  refine lv_bipush (v := 32) hx hb dL_law_256 (by decide) ?_
  refine lv_lshl hx hb dL_law_258 rfl ?_
  refine zLd 2 C hS hl hi (by decide) rfl dL_law_259 dL_law_260 dL_law_261 dL_law_262 dL_law_263 ?_
  refine lv_i2l hx hb dL_law_264 rfl ?_
  refine lv_ldc2 (v := 4294967295) hx hb C.hown (C.hts _ (lin_wsL_law_r1 _ (List.mem_of_getElem? (i := 6) rfl))) dL_law_265 ?_
  refine lv_land hx hb dL_law_268 ?_
  refine lv_lor hx hb dL_law_269 ?_
  refine zLd 3 C hS hl hi (by decide) rfl dL_law_270 dL_law_271 dL_law_272 dL_law_273 dL_law_274 ?_
  refine zCallGI (zWg T ad hm (zSet gs 4 w4) g gl) (zWg T ad hm (zSet gs 4 w4) g' gl) [.long ((((zAt xs i 1).toInt64 <<< ((32 : Int32).toInt64 &&& 63)) ||| ((zAt xs i 2).toInt64 &&& (4294967295 : Int64)))), .int (zAt xs i 3)] ⟨hx, hb, C.hml, C.hown, zHt C.hts tv_X10_feed⟩ (pX10_feed l D T X hm H.size g gl ((((zAt xs i 1).toInt64 <<< ((32 : Int32).toInt64 &&& 63)) ||| ((zAt xs i 2).toInt64 &&& (4294967295 : Int64)))) (zAt xs i 3) r g' e2) (cwV 2 (zHt C.hts tv_X10_feed) gv_X10_feed rfl rfl rfl (by decide +kernel) ⟨Nat.le_of_ble_eq_true rfl, Nat.le_of_ble_eq_true rfl⟩) C.hK hP hD hS C.hA C.hX [12] [0, 1, 2, 3, 4, 5, 6, 7, 8, 9, 10, 11] rfl (zFl1 _) (zFl1 _) rfl 0 rfl rfl rfl hl.1 rfl (Nat.le_of_ble_eq_true rfl) dL_law_275 C.hf (fun H locs hP hD hS => ?_)
  exact lv_icmp_eq (tgt := 1646) hx hb dL_law_278 (by decide) (fun _ => kk _ _ _ H locs hv hP hD hS) (fun h9 => absurd rfl h9)
set_option maxHeartbeats 4000000 in
set_option maxRecDepth 20000 in
theorem law_works (C : zLw p room_1 s m c b L xs D T X A cells slots) (hi : i + 6 ≤ L) (hv : yInv gs g gl) (hP : va_P D vwCl (zFlat (zWg T ad hm gs g gl)) H) (hD : va_D A (zFlat (zWg T ad hm gs g gl))) (hS : va_S A s.heap H locs) (hl : lv_has ls 4 [(0, .ref b), (1, .ref (ad 0 0)), (2, .ref (hm 0)), (3, .int (nI i))]) (kk : zGo p l e room_1 s m below meth c ls cells slots Q D T A b ad hm) : W p l e room_1 s m #[Value.ref b] below meth c H locs cells slots Q (F0 m 283 ls []) := by
  have hx := C.hx
  have hb := C.hb
  obtain ⟨r, w1, w2, w4, w9, g', gl', e1, e2, hv⟩ := v_works hv 
  refine lv_aload_n hx hb dL_law_283 rfl (lv_at hl 1 rfl) ?_
  refine zCallGI (zWg T ad hm gs g gl) (zWg T ad hm (zSet (zSet (zSet (zSet gs 1 w1) 2 w2) 4 w4) 9 w9) g gl) [] ⟨hx, hb, C.hml, C.hown, zHt C.hts tv_X9_works⟩ (pX9_works l D T X ad H.size (gs 0) (gs 1) (gs 2) (gs 4) (gs 9)  r w1 w2 w4 w9 e1) (cwV 0 (zHt C.hts tv_X9_works) gv_X9_works rfl rfl rfl (by decide +kernel) ⟨Nat.le_of_ble_eq_true rfl, Nat.le_of_ble_eq_true rfl⟩) C.hK hP hD hS C.hA C.hX [0, 1, 2, 4, 9] [3, 5, 6, 7, 8, 10, 11, 12] rfl (zFl5 _ _ _ _ _ ) (zFl5 _ _ _ _ _ ) rfl 0 rfl rfl rfl hl.1 rfl (Nat.le_of_ble_eq_true rfl) dL_law_284 C.hf (fun H locs hP hD hS => ?_)
  refine lv_aload_n hx hb dL_law_287 rfl (lv_at hl 2 rfl) ?_
  refine zCallGI (zWg T ad hm (zSet (zSet (zSet (zSet gs 1 w1) 2 w2) 4 w4) 9 w9) g gl) (zWg T ad hm (zSet (zSet (zSet (zSet gs 1 w1) 2 w2) 4 w4) 9 w9) g' gl') [] ⟨hx, hb, C.hml, C.hown, zHt C.hts tv_X10_works⟩ (pX10_works l D T X hm H.size g gl  r g' gl' e2) (cwV 0 (zHt C.hts tv_X10_works) gv_X10_works rfl rfl rfl (by decide +kernel) ⟨Nat.le_of_ble_eq_true rfl, Nat.le_of_ble_eq_true rfl⟩) C.hK hP hD hS C.hA C.hX [12] [0, 1, 2, 3, 4, 5, 6, 7, 8, 9, 10, 11] rfl (zFl1 _) (zFl1 _) rfl 0 rfl rfl rfl hl.1 rfl (Nat.le_of_ble_eq_true rfl) dL_law_288 C.hf (fun H locs hP hD hS => ?_)
  exact lv_icmp_eq (tgt := 1646) hx hb dL_law_291 (by decide) (fun _ => kk _ _ _ H locs hv hP hD hS) (fun h9 => absurd rfl h9)
set_option maxHeartbeats 4000000 in
set_option maxRecDepth 20000 in
theorem law_people (C : zLw p room_1 s m c b L xs D T X A cells slots) (hi : i + 6 ≤ L) (hv : yInv gs g gl) (hP : va_P D vwCl (zFlat (zWg T ad hm gs g gl)) H) (hD : va_D A (zFlat (zWg T ad hm gs g gl))) (hS : va_S A s.heap H locs) (hl : lv_has ls 4 [(0, .ref b), (1, .ref (ad 0 0)), (2, .ref (hm 0)), (3, .int (nI i))]) (kk : zGo p l e room_1 s m below meth c ls cells slots Q D T A b ad hm) : W p l e room_1 s m #[Value.ref b] below meth c H locs cells slots Q (F0 m 296 ls []) := by
  have hx := C.hx
  have hb := C.hb
  obtain ⟨r, w1, w9, g', e1, e2, hv⟩ := v_people hv (zAt xs i 1)
  refine lv_aload_n hx hb dL_law_296 rfl (lv_at hl 1 rfl) ?_
  refine zLd 1 C hS hl hi (by decide) rfl dL_law_297 dL_law_298 dL_law_299 dL_law_300 dL_law_301 ?_
  refine zCallGI (zWg T ad hm gs g gl) (zWg T ad hm (zSet (zSet gs 1 w1) 9 w9) g gl) [.int (zAt xs i 1)] ⟨hx, hb, C.hml, C.hown, zHt C.hts tv_X9_people⟩ (pX9_people l D T X ad H.size (gs 0) (gs 1) (gs 9) (zAt xs i 1) r w1 w9 e1) (cwV 1 (zHt C.hts tv_X9_people) gv_X9_people rfl rfl rfl (by decide +kernel) ⟨Nat.le_of_ble_eq_true rfl, Nat.le_of_ble_eq_true rfl⟩) C.hK hP hD hS C.hA C.hX [0, 1, 9] [2, 3, 4, 5, 6, 7, 8, 10, 11, 12] rfl (zFl3 _ _ _ ) (zFl3 _ _ _ ) rfl 0 rfl rfl rfl hl.1 rfl (Nat.le_of_ble_eq_true rfl) dL_law_302 C.hf (fun H locs hP hD hS => ?_)
  refine lv_aload_n hx hb dL_law_305 rfl (lv_at hl 2 rfl) ?_
  refine zLd 1 C hS hl hi (by decide) rfl dL_law_306 dL_law_307 dL_law_308 dL_law_309 dL_law_310 ?_
  refine zCallGI (zWg T ad hm (zSet (zSet gs 1 w1) 9 w9) g gl) (zWg T ad hm (zSet (zSet gs 1 w1) 9 w9) g' gl) [.int (zAt xs i 1)] ⟨hx, hb, C.hml, C.hown, zHt C.hts tv_X10_people⟩ (pX10_people l D T X hm H.size g gl (zAt xs i 1) r g' e2) (cwV 1 (zHt C.hts tv_X10_people) gv_X10_people rfl rfl rfl (by decide +kernel) ⟨Nat.le_of_ble_eq_true rfl, Nat.le_of_ble_eq_true rfl⟩) C.hK hP hD hS C.hA C.hX [12] [0, 1, 2, 3, 4, 5, 6, 7, 8, 9, 10, 11] rfl (zFl1 _) (zFl1 _) rfl 0 rfl rfl rfl hl.1 rfl (Nat.le_of_ble_eq_true rfl) dL_law_311 C.hf (fun H locs hP hD hS => ?_)
  exact lv_icmp_eq (tgt := 1646) hx hb dL_law_314 (by decide) (fun _ => kk _ _ _ H locs hv hP hD hS) (fun h9 => absurd rfl h9)
set_option maxHeartbeats 4000000 in
set_option maxRecDepth 20000 in
theorem law_tie0 (C : zLw p room_1 s m c b L xs D T X A cells slots) (hi : i + 6 ≤ L) (hv : yInv gs g gl) (hP : va_P D vwCl (zFlat (zWg T ad hm gs g gl)) H) (hD : va_D A (zFlat (zWg T ad hm gs g gl))) (hS : va_S A s.heap H locs) (hl : lv_has ls 4 [(0, .ref b), (1, .ref (ad 0 0)), (2, .ref (hm 0)), (3, .int (nI i))]) (hz : zAt xs i 5 = 0) (kk : zGo p l e room_1 s m below meth c ls cells slots Q D T A b ad hm) : W p l e room_1 s m #[Value.ref b] below meth c H locs cells slots Q (F0 m 319 ls []) := by
  have hx := C.hx
  have hb := C.hb
  obtain ⟨r, w1, g', e1, e2, hv⟩ := v_tie hv (zAt xs i 1) (zAt xs i 2) (zAt xs i 3) (zAt xs i 4) (0) (by decide)
  refine lv_aload_n hx hb dL_law_319 rfl (lv_at hl 1 rfl) ?_
  refine zLd 1 C hS hl hi (by decide) rfl dL_law_320 dL_law_321 dL_law_322 dL_law_323 dL_law_324 ?_
  refine zLd 2 C hS hl hi (by decide) rfl dL_law_325 dL_law_326 dL_law_327 dL_law_328 dL_law_329 ?_
  refine zLd 3 C hS hl hi (by decide) rfl dL_law_330 dL_law_331 dL_law_332 dL_law_333 dL_law_334 ?_
  refine zLd 4 C hS hl hi (by decide) rfl dL_law_335 dL_law_336 dL_law_337 dL_law_338 dL_law_339 ?_
  refine zLd 5 C hS hl hi (by decide) rfl dL_law_340 dL_law_341 dL_law_342 dL_law_343 dL_law_344 ?_
  refine lv_if_eq (tgt := 352) hx hb dL_law_345 (by decide) (fun _ => ?_) (fun h9 => absurd hz h9)
  refine lv_iconst (v := 0) hx hb dL_law_352 (by decide) ?_
  refine zCallGI (zWg T ad hm gs g gl) (zWg T ad hm (zSet gs 1 w1) g gl) [.int (zAt xs i 1), .int (zAt xs i 2), .int (zAt xs i 3), .int (zAt xs i 4), .int (0)] ⟨hx, hb, C.hml, C.hown, zHt C.hts tv_X9_tie⟩ (pX9_tie l D T X ad H.size (gs 0) (gs 1) (zAt xs i 1) (zAt xs i 2) (zAt xs i 3) (zAt xs i 4) (0) r w1 e1) (cwV 5 (zHt C.hts tv_X9_tie) gv_X9_tie rfl rfl rfl (by decide +kernel) ⟨Nat.le_of_ble_eq_true rfl, Nat.le_of_ble_eq_true rfl⟩) C.hK hP hD hS C.hA C.hX [0, 1] [2, 3, 4, 5, 6, 7, 8, 9, 10, 11, 12] rfl (zFl2 _ _ ) (zFl2 _ _ ) rfl 0 rfl rfl rfl hl.1 rfl (Nat.le_of_ble_eq_true rfl) dL_law_353 C.hf (fun H locs hP hD hS => ?_)
  refine lv_aload_n hx hb dL_law_356 rfl (lv_at hl 2 rfl) ?_
  refine zLd 1 C hS hl hi (by decide) rfl dL_law_357 dL_law_358 dL_law_359 dL_law_360 dL_law_361 ?_
  refine zLd 2 C hS hl hi (by decide) rfl dL_law_362 dL_law_363 dL_law_364 dL_law_365 dL_law_366 ?_
  refine zLd 3 C hS hl hi (by decide) rfl dL_law_367 dL_law_368 dL_law_369 dL_law_370 dL_law_371 ?_
  refine zLd 4 C hS hl hi (by decide) rfl dL_law_372 dL_law_373 dL_law_374 dL_law_375 dL_law_376 ?_
  refine zLd 5 C hS hl hi (by decide) rfl dL_law_377 dL_law_378 dL_law_379 dL_law_380 dL_law_381 ?_
  refine lv_if_eq (tgt := 389) hx hb dL_law_382 (by decide) (fun _ => ?_) (fun h9 => absurd hz h9)
  refine lv_iconst (v := 0) hx hb dL_law_389 (by decide) ?_
  refine zCallGI (zWg T ad hm (zSet gs 1 w1) g gl) (zWg T ad hm (zSet gs 1 w1) g' gl) [.int (zAt xs i 1), .int (zAt xs i 2), .int (zAt xs i 3), .int (zAt xs i 4), .int (0)] ⟨hx, hb, C.hml, C.hown, zHt C.hts tv_X10_tie⟩ (pX10_tie l D T X hm H.size g gl (zAt xs i 1) (zAt xs i 2) (zAt xs i 3) (zAt xs i 4) (0) r g' e2) (cwV 5 (zHt C.hts tv_X10_tie) gv_X10_tie rfl rfl rfl (by decide +kernel) ⟨Nat.le_of_ble_eq_true rfl, Nat.le_of_ble_eq_true rfl⟩) C.hK hP hD hS C.hA C.hX [12] [0, 1, 2, 3, 4, 5, 6, 7, 8, 9, 10, 11] rfl (zFl1 _) (zFl1 _) rfl 0 rfl rfl rfl hl.1 rfl (Nat.le_of_ble_eq_true rfl) dL_law_390 C.hf (fun H locs hP hD hS => ?_)
  exact lv_icmp_eq (tgt := 1646) hx hb dL_law_393 (by decide) (fun _ => kk _ _ _ H locs hv hP hD hS) (fun h9 => absurd rfl h9)
set_option maxHeartbeats 4000000 in
set_option maxRecDepth 20000 in
theorem law_tie1 (C : zLw p room_1 s m c b L xs D T X A cells slots) (hi : i + 6 ≤ L) (hv : yInv gs g gl) (hP : va_P D vwCl (zFlat (zWg T ad hm gs g gl)) H) (hD : va_D A (zFlat (zWg T ad hm gs g gl))) (hS : va_S A s.heap H locs) (hl : lv_has ls 4 [(0, .ref b), (1, .ref (ad 0 0)), (2, .ref (hm 0)), (3, .int (nI i))]) (hz : ¬ zAt xs i 5 = 0) (kk : zGo p l e room_1 s m below meth c ls cells slots Q D T A b ad hm) : W p l e room_1 s m #[Value.ref b] below meth c H locs cells slots Q (F0 m 319 ls []) := by
  have hx := C.hx
  have hb := C.hb
  obtain ⟨r, w1, g', e1, e2, hv⟩ := v_tie hv (zAt xs i 1) (zAt xs i 2) (zAt xs i 3) (zAt xs i 4) (1) (by decide)
  refine lv_aload_n hx hb dL_law_319 rfl (lv_at hl 1 rfl) ?_
  refine zLd 1 C hS hl hi (by decide) rfl dL_law_320 dL_law_321 dL_law_322 dL_law_323 dL_law_324 ?_
  refine zLd 2 C hS hl hi (by decide) rfl dL_law_325 dL_law_326 dL_law_327 dL_law_328 dL_law_329 ?_
  refine zLd 3 C hS hl hi (by decide) rfl dL_law_330 dL_law_331 dL_law_332 dL_law_333 dL_law_334 ?_
  refine zLd 4 C hS hl hi (by decide) rfl dL_law_335 dL_law_336 dL_law_337 dL_law_338 dL_law_339 ?_
  refine zLd 5 C hS hl hi (by decide) rfl dL_law_340 dL_law_341 dL_law_342 dL_law_343 dL_law_344 ?_
  refine lv_if_eq (tgt := 352) hx hb dL_law_345 (by decide) (fun h9 => absurd h9 hz) (fun _ => ?_)
  refine lv_iconst (v := 1) hx hb dL_law_348 (by decide) ?_
  refine lv_goto (tgt := 353) hx hb dL_law_349 (by decide) ?_
  refine zCallGI (zWg T ad hm gs g gl) (zWg T ad hm (zSet gs 1 w1) g gl) [.int (zAt xs i 1), .int (zAt xs i 2), .int (zAt xs i 3), .int (zAt xs i 4), .int (1)] ⟨hx, hb, C.hml, C.hown, zHt C.hts tv_X9_tie⟩ (pX9_tie l D T X ad H.size (gs 0) (gs 1) (zAt xs i 1) (zAt xs i 2) (zAt xs i 3) (zAt xs i 4) (1) r w1 e1) (cwV 5 (zHt C.hts tv_X9_tie) gv_X9_tie rfl rfl rfl (by decide +kernel) ⟨Nat.le_of_ble_eq_true rfl, Nat.le_of_ble_eq_true rfl⟩) C.hK hP hD hS C.hA C.hX [0, 1] [2, 3, 4, 5, 6, 7, 8, 9, 10, 11, 12] rfl (zFl2 _ _ ) (zFl2 _ _ ) rfl 0 rfl rfl rfl hl.1 rfl (Nat.le_of_ble_eq_true rfl) dL_law_353 C.hf (fun H locs hP hD hS => ?_)
  refine lv_aload_n hx hb dL_law_356 rfl (lv_at hl 2 rfl) ?_
  refine zLd 1 C hS hl hi (by decide) rfl dL_law_357 dL_law_358 dL_law_359 dL_law_360 dL_law_361 ?_
  refine zLd 2 C hS hl hi (by decide) rfl dL_law_362 dL_law_363 dL_law_364 dL_law_365 dL_law_366 ?_
  refine zLd 3 C hS hl hi (by decide) rfl dL_law_367 dL_law_368 dL_law_369 dL_law_370 dL_law_371 ?_
  refine zLd 4 C hS hl hi (by decide) rfl dL_law_372 dL_law_373 dL_law_374 dL_law_375 dL_law_376 ?_
  refine zLd 5 C hS hl hi (by decide) rfl dL_law_377 dL_law_378 dL_law_379 dL_law_380 dL_law_381 ?_
  refine lv_if_eq (tgt := 389) hx hb dL_law_382 (by decide) (fun h9 => absurd h9 hz) (fun _ => ?_)
  refine lv_iconst (v := 1) hx hb dL_law_385 (by decide) ?_
  refine lv_goto (tgt := 390) hx hb dL_law_386 (by decide) ?_
  refine zCallGI (zWg T ad hm (zSet gs 1 w1) g gl) (zWg T ad hm (zSet gs 1 w1) g' gl) [.int (zAt xs i 1), .int (zAt xs i 2), .int (zAt xs i 3), .int (zAt xs i 4), .int (1)] ⟨hx, hb, C.hml, C.hown, zHt C.hts tv_X10_tie⟩ (pX10_tie l D T X hm H.size g gl (zAt xs i 1) (zAt xs i 2) (zAt xs i 3) (zAt xs i 4) (1) r g' e2) (cwV 5 (zHt C.hts tv_X10_tie) gv_X10_tie rfl rfl rfl (by decide +kernel) ⟨Nat.le_of_ble_eq_true rfl, Nat.le_of_ble_eq_true rfl⟩) C.hK hP hD hS C.hA C.hX [12] [0, 1, 2, 3, 4, 5, 6, 7, 8, 9, 10, 11] rfl (zFl1 _) (zFl1 _) rfl 0 rfl rfl rfl hl.1 rfl (Nat.le_of_ble_eq_true rfl) dL_law_390 C.hf (fun H locs hP hD hS => ?_)
  exact lv_icmp_eq (tgt := 1646) hx hb dL_law_393 (by decide) (fun _ => kk _ _ _ H locs hv hP hD hS) (fun h9 => absurd rfl h9)
set_option maxHeartbeats 4000000 in
set_option maxRecDepth 20000 in
theorem law_tieOf (C : zLw p room_1 s m c b L xs D T X A cells slots) (hi : i + 6 ≤ L) (hv : yInv gs g gl) (hP : va_P D vwCl (zFlat (zWg T ad hm gs g gl)) H) (hD : va_D A (zFlat (zWg T ad hm gs g gl))) (hS : va_S A s.heap H locs) (hl : lv_has ls 4 [(0, .ref b), (1, .ref (ad 0 0)), (2, .ref (hm 0)), (3, .int (nI i))]) (kk : zGo p l e room_1 s m below meth c ls cells slots Q D T A b ad hm) : W p l e room_1 s m #[Value.ref b] below meth c H locs cells slots Q (F0 m 398 ls []) := by
  have hx := C.hx
  have hb := C.hb
  obtain ⟨r, e1, e2, hv⟩ := v_tieOf hv (zAt xs i 1) (zAt xs i 2)
  refine lv_aload_n hx hb dL_law_398 rfl (lv_at hl 1 rfl) ?_
  refine zLd 1 C hS hl hi (by decide) rfl dL_law_399 dL_law_400 dL_law_401 dL_law_402 dL_law_403 ?_
  refine zLd 2 C hS hl hi (by decide) rfl dL_law_404 dL_law_405 dL_law_406 dL_law_407 dL_law_408 ?_
  refine zCallGI (zWg T ad hm gs g gl) (zWg T ad hm gs g gl) [.int (zAt xs i 1), .int (zAt xs i 2)] ⟨hx, hb, C.hml, C.hown, zHt C.hts tv_X9_tieOf⟩ (pX9_tieOf l D T X ad H.size (gs 0) (gs 1) (zAt xs i 1) (zAt xs i 2) r  e1) (cwV 2 (zHt C.hts tv_X9_tieOf) gv_X9_tieOf rfl rfl rfl (by decide +kernel) ⟨Nat.le_of_ble_eq_true rfl, Nat.le_of_ble_eq_true rfl⟩) C.hK hP hD hS C.hA C.hX [0, 1] [2, 3, 4, 5, 6, 7, 8, 9, 10, 11, 12] rfl (zFl2 _ _ ) (zFl2 _ _ ) rfl 0 rfl rfl rfl hl.1 rfl (Nat.le_of_ble_eq_true rfl) dL_law_409 C.hf (fun H locs hP hD hS => ?_)
  refine lv_aload_n hx hb dL_law_412 rfl (lv_at hl 2 rfl) ?_
  refine zLd 1 C hS hl hi (by decide) rfl dL_law_413 dL_law_414 dL_law_415 dL_law_416 dL_law_417 ?_
  refine zLd 2 C hS hl hi (by decide) rfl dL_law_418 dL_law_419 dL_law_420 dL_law_421 dL_law_422 ?_
  refine zCallGI (zWg T ad hm gs g gl) (zWg T ad hm gs g gl) [.int (zAt xs i 1), .int (zAt xs i 2)] ⟨hx, hb, C.hml, C.hown, zHt C.hts tv_X10_tieOf⟩ (pX10_tieOf l D T X hm H.size g gl (zAt xs i 1) (zAt xs i 2) r  e2) (cwV 2 (zHt C.hts tv_X10_tieOf) gv_X10_tieOf rfl rfl rfl (by decide +kernel) ⟨Nat.le_of_ble_eq_true rfl, Nat.le_of_ble_eq_true rfl⟩) C.hK hP hD hS C.hA C.hX [12] [0, 1, 2, 3, 4, 5, 6, 7, 8, 9, 10, 11] rfl (zFl1 _) (zFl1 _) rfl 0 rfl rfl rfl hl.1 rfl (Nat.le_of_ble_eq_true rfl) dL_law_423 C.hf (fun H locs hP hD hS => ?_)
  exact lv_icmp_eq (tgt := 1646) hx hb dL_law_426 (by decide) (fun _ => kk _ _ _ H locs hv hP hD hS) (fun h9 => absurd rfl h9)
set_option maxHeartbeats 4000000 in
set_option maxRecDepth 20000 in
theorem law_first (C : zLw p room_1 s m c b L xs D T X A cells slots) (hi : i + 6 ≤ L) (hv : yInv gs g gl) (hP : va_P D vwCl (zFlat (zWg T ad hm gs g gl)) H) (hD : va_D A (zFlat (zWg T ad hm gs g gl))) (hS : va_S A s.heap H locs) (hl : lv_has ls 4 [(0, .ref b), (1, .ref (ad 0 0)), (2, .ref (hm 0)), (3, .int (nI i))]) (kk : zGo p l e room_1 s m below meth c ls cells slots Q D T A b ad hm) : W p l e room_1 s m #[Value.ref b] below meth c H locs cells slots Q (F0 m 431 ls []) := by
  have hx := C.hx
  have hb := C.hb
  obtain ⟨r, w1, g', e1, e2, hv⟩ := v_first hv (zAt xs i 1) (zAt xs i 2)
  refine lv_aload_n hx hb dL_law_431 rfl (lv_at hl 1 rfl) ?_
  refine zLd 1 C hS hl hi (by decide) rfl dL_law_432 dL_law_433 dL_law_434 dL_law_435 dL_law_436 ?_
  refine zLd 2 C hS hl hi (by decide) rfl dL_law_437 dL_law_438 dL_law_439 dL_law_440 dL_law_441 ?_
  refine zCallGI (zWg T ad hm gs g gl) (zWg T ad hm (zSet gs 1 w1) g gl) [.int (zAt xs i 1), .int (zAt xs i 2)] ⟨hx, hb, C.hml, C.hown, zHt C.hts tv_X9_first⟩ (pX9_first l D T X ad H.size (gs 0) (gs 1) (zAt xs i 1) (zAt xs i 2) r w1 e1) (cwV 2 (zHt C.hts tv_X9_first) gv_X9_first rfl rfl rfl (by decide +kernel) ⟨Nat.le_of_ble_eq_true rfl, Nat.le_of_ble_eq_true rfl⟩) C.hK hP hD hS C.hA C.hX [0, 1] [2, 3, 4, 5, 6, 7, 8, 9, 10, 11, 12] rfl (zFl2 _ _ ) (zFl2 _ _ ) rfl 0 rfl rfl rfl hl.1 rfl (Nat.le_of_ble_eq_true rfl) dL_law_442 C.hf (fun H locs hP hD hS => ?_)
  refine lv_aload_n hx hb dL_law_445 rfl (lv_at hl 2 rfl) ?_
  refine zLd 1 C hS hl hi (by decide) rfl dL_law_446 dL_law_447 dL_law_448 dL_law_449 dL_law_450 ?_
  refine zLd 2 C hS hl hi (by decide) rfl dL_law_451 dL_law_452 dL_law_453 dL_law_454 dL_law_455 ?_
  refine zCallGI (zWg T ad hm (zSet gs 1 w1) g gl) (zWg T ad hm (zSet gs 1 w1) g' gl) [.int (zAt xs i 1), .int (zAt xs i 2)] ⟨hx, hb, C.hml, C.hown, zHt C.hts tv_X10_first⟩ (pX10_first l D T X hm H.size g gl (zAt xs i 1) (zAt xs i 2) r g' e2) (cwV 2 (zHt C.hts tv_X10_first) gv_X10_first rfl rfl rfl (by decide +kernel) ⟨Nat.le_of_ble_eq_true rfl, Nat.le_of_ble_eq_true rfl⟩) C.hK hP hD hS C.hA C.hX [12] [0, 1, 2, 3, 4, 5, 6, 7, 8, 9, 10, 11] rfl (zFl1 _) (zFl1 _) rfl 0 rfl rfl rfl hl.1 rfl (Nat.le_of_ble_eq_true rfl) dL_law_456 C.hf (fun H locs hP hD hS => ?_)
  exact lv_icmp_eq (tgt := 1646) hx hb dL_law_459 (by decide) (fun _ => kk _ _ _ H locs hv hP hD hS) (fun h9 => absurd rfl h9)
set_option maxHeartbeats 4000000 in
set_option maxRecDepth 20000 in
theorem law_cut (C : zLw p room_1 s m c b L xs D T X A cells slots) (hi : i + 6 ≤ L) (hv : yInv gs g gl) (hP : va_P D vwCl (zFlat (zWg T ad hm gs g gl)) H) (hD : va_D A (zFlat (zWg T ad hm gs g gl))) (hS : va_S A s.heap H locs) (hl : lv_has ls 4 [(0, .ref b), (1, .ref (ad 0 0)), (2, .ref (hm 0)), (3, .int (nI i))]) (kk : zGo p l e room_1 s m below meth c ls cells slots Q D T A b ad hm) : W p l e room_1 s m #[Value.ref b] below meth c H locs cells slots Q (F0 m 464 ls []) := by
  have hx := C.hx
  have hb := C.hb
  obtain ⟨r, w1, g', e1, e2, hv⟩ := v_cut hv (zAt xs i 1) (zAt xs i 2) (zAt xs i 3)
  refine lv_aload_n hx hb dL_law_464 rfl (lv_at hl 1 rfl) ?_
  refine zLd 1 C hS hl hi (by decide) rfl dL_law_465 dL_law_466 dL_law_467 dL_law_468 dL_law_469 ?_
  refine zLd 2 C hS hl hi (by decide) rfl dL_law_470 dL_law_471 dL_law_472 dL_law_473 dL_law_474 ?_
  refine zLd 3 C hS hl hi (by decide) rfl dL_law_475 dL_law_476 dL_law_477 dL_law_478 dL_law_479 ?_
  refine zCallGI (zWg T ad hm gs g gl) (zWg T ad hm (zSet gs 1 w1) g gl) [.int (zAt xs i 1), .int (zAt xs i 2), .int (zAt xs i 3)] ⟨hx, hb, C.hml, C.hown, zHt C.hts tv_X9_cut⟩ (pX9_cut l D T X ad H.size (gs 0) (gs 1) (zAt xs i 1) (zAt xs i 2) (zAt xs i 3) r w1 e1) (cwV 3 (zHt C.hts tv_X9_cut) gv_X9_cut rfl rfl rfl (by decide +kernel) ⟨Nat.le_of_ble_eq_true rfl, Nat.le_of_ble_eq_true rfl⟩) C.hK hP hD hS C.hA C.hX [0, 1] [2, 3, 4, 5, 6, 7, 8, 9, 10, 11, 12] rfl (zFl2 _ _ ) (zFl2 _ _ ) rfl 0 rfl rfl rfl hl.1 rfl (Nat.le_of_ble_eq_true rfl) dL_law_480 C.hf (fun H locs hP hD hS => ?_)
  refine lv_aload_n hx hb dL_law_483 rfl (lv_at hl 2 rfl) ?_
  refine zLd 1 C hS hl hi (by decide) rfl dL_law_484 dL_law_485 dL_law_486 dL_law_487 dL_law_488 ?_
  refine zLd 2 C hS hl hi (by decide) rfl dL_law_489 dL_law_490 dL_law_491 dL_law_492 dL_law_493 ?_
  refine zLd 3 C hS hl hi (by decide) rfl dL_law_494 dL_law_495 dL_law_496 dL_law_497 dL_law_498 ?_
  refine zCallGI (zWg T ad hm (zSet gs 1 w1) g gl) (zWg T ad hm (zSet gs 1 w1) g' gl) [.int (zAt xs i 1), .int (zAt xs i 2), .int (zAt xs i 3)] ⟨hx, hb, C.hml, C.hown, zHt C.hts tv_X10_cut⟩ (pX10_cut l D T X hm H.size g gl (zAt xs i 1) (zAt xs i 2) (zAt xs i 3) r g' e2) (cwV 3 (zHt C.hts tv_X10_cut) gv_X10_cut rfl rfl rfl (by decide +kernel) ⟨Nat.le_of_ble_eq_true rfl, Nat.le_of_ble_eq_true rfl⟩) C.hK hP hD hS C.hA C.hX [12] [0, 1, 2, 3, 4, 5, 6, 7, 8, 9, 10, 11] rfl (zFl1 _) (zFl1 _) rfl 0 rfl rfl rfl hl.1 rfl (Nat.le_of_ble_eq_true rfl) dL_law_499 C.hf (fun H locs hP hD hS => ?_)
  exact lv_icmp_eq (tgt := 1646) hx hb dL_law_502 (by decide) (fun _ => kk _ _ _ H locs hv hP hD hS) (fun h9 => absurd rfl h9)
set_option maxHeartbeats 4000000 in
set_option maxRecDepth 20000 in
theorem law_cutOf (C : zLw p room_1 s m c b L xs D T X A cells slots) (hi : i + 6 ≤ L) (hv : yInv gs g gl) (hP : va_P D vwCl (zFlat (zWg T ad hm gs g gl)) H) (hD : va_D A (zFlat (zWg T ad hm gs g gl))) (hS : va_S A s.heap H locs) (hl : lv_has ls 4 [(0, .ref b), (1, .ref (ad 0 0)), (2, .ref (hm 0)), (3, .int (nI i))]) (kk : zGo p l e room_1 s m below meth c ls cells slots Q D T A b ad hm) : W p l e room_1 s m #[Value.ref b] below meth c H locs cells slots Q (F0 m 507 ls []) := by
  have hx := C.hx
  have hb := C.hb
  obtain ⟨r, e1, e2, hv⟩ := v_cutOf hv (zAt xs i 1) (zAt xs i 2)
  refine lv_aload_n hx hb dL_law_507 rfl (lv_at hl 1 rfl) ?_
  refine zLd 1 C hS hl hi (by decide) rfl dL_law_508 dL_law_509 dL_law_510 dL_law_511 dL_law_512 ?_
  refine zLd 2 C hS hl hi (by decide) rfl dL_law_513 dL_law_514 dL_law_515 dL_law_516 dL_law_517 ?_
  refine zCallGI (zWg T ad hm gs g gl) (zWg T ad hm gs g gl) [.int (zAt xs i 1), .int (zAt xs i 2)] ⟨hx, hb, C.hml, C.hown, zHt C.hts tv_X9_cutOf⟩ (pX9_cutOf l D T X ad H.size (gs 0) (gs 1) (zAt xs i 1) (zAt xs i 2) r  e1) (cwV 2 (zHt C.hts tv_X9_cutOf) gv_X9_cutOf rfl rfl rfl (by decide +kernel) ⟨Nat.le_of_ble_eq_true rfl, Nat.le_of_ble_eq_true rfl⟩) C.hK hP hD hS C.hA C.hX [0, 1] [2, 3, 4, 5, 6, 7, 8, 9, 10, 11, 12] rfl (zFl2 _ _ ) (zFl2 _ _ ) rfl 0 rfl rfl rfl hl.1 rfl (Nat.le_of_ble_eq_true rfl) dL_law_518 C.hf (fun H locs hP hD hS => ?_)
  refine lv_aload_n hx hb dL_law_521 rfl (lv_at hl 2 rfl) ?_
  refine zLd 1 C hS hl hi (by decide) rfl dL_law_522 dL_law_523 dL_law_524 dL_law_525 dL_law_526 ?_
  refine zLd 2 C hS hl hi (by decide) rfl dL_law_527 dL_law_528 dL_law_529 dL_law_530 dL_law_531 ?_
  refine zCallGI (zWg T ad hm gs g gl) (zWg T ad hm gs g gl) [.int (zAt xs i 1), .int (zAt xs i 2)] ⟨hx, hb, C.hml, C.hown, zHt C.hts tv_X10_cutOf⟩ (pX10_cutOf l D T X hm H.size g gl (zAt xs i 1) (zAt xs i 2) r  e2) (cwV 2 (zHt C.hts tv_X10_cutOf) gv_X10_cutOf rfl rfl rfl (by decide +kernel) ⟨Nat.le_of_ble_eq_true rfl, Nat.le_of_ble_eq_true rfl⟩) C.hK hP hD hS C.hA C.hX [12] [0, 1, 2, 3, 4, 5, 6, 7, 8, 9, 10, 11] rfl (zFl1 _) (zFl1 _) rfl 0 rfl rfl rfl hl.1 rfl (Nat.le_of_ble_eq_true rfl) dL_law_532 C.hf (fun H locs hP hD hS => ?_)
  exact lv_icmp_eq (tgt := 1646) hx hb dL_law_535 (by decide) (fun _ => kk _ _ _ H locs hv hP hD hS) (fun h9 => absurd rfl h9)
set_option maxHeartbeats 4000000 in
set_option maxRecDepth 20000 in
theorem law_uncut (C : zLw p room_1 s m c b L xs D T X A cells slots) (hi : i + 6 ≤ L) (hv : yInv gs g gl) (hP : va_P D vwCl (zFlat (zWg T ad hm gs g gl)) H) (hD : va_D A (zFlat (zWg T ad hm gs g gl))) (hS : va_S A s.heap H locs) (hl : lv_has ls 4 [(0, .ref b), (1, .ref (ad 0 0)), (2, .ref (hm 0)), (3, .int (nI i))]) (kk : zGo p l e room_1 s m below meth c ls cells slots Q D T A b ad hm) : W p l e room_1 s m #[Value.ref b] below meth c H locs cells slots Q (F0 m 540 ls []) := by
  have hx := C.hx
  have hb := C.hb
  obtain ⟨r, w1, g', e1, e2, hv⟩ := v_uncut hv 
  refine lv_aload_n hx hb dL_law_540 rfl (lv_at hl 1 rfl) ?_
  refine zCallGI (zWg T ad hm gs g gl) (zWg T ad hm (zSet gs 1 w1) g gl) [] ⟨hx, hb, C.hml, C.hown, zHt C.hts tv_X9_uncut⟩ (pX9_uncut l D T X ad H.size (gs 0) (gs 1)  r w1 e1) (cwV 0 (zHt C.hts tv_X9_uncut) gv_X9_uncut rfl rfl rfl (by decide +kernel) ⟨Nat.le_of_ble_eq_true rfl, Nat.le_of_ble_eq_true rfl⟩) C.hK hP hD hS C.hA C.hX [0, 1] [2, 3, 4, 5, 6, 7, 8, 9, 10, 11, 12] rfl (zFl2 _ _ ) (zFl2 _ _ ) rfl 0 rfl rfl rfl hl.1 rfl (Nat.le_of_ble_eq_true rfl) dL_law_541 C.hf (fun H locs hP hD hS => ?_)
  refine lv_aload_n hx hb dL_law_544 rfl (lv_at hl 2 rfl) ?_
  refine zCallGI (zWg T ad hm (zSet gs 1 w1) g gl) (zWg T ad hm (zSet gs 1 w1) g' gl) [] ⟨hx, hb, C.hml, C.hown, zHt C.hts tv_X10_uncut⟩ (pX10_uncut l D T X hm H.size g gl  r g' e2) (cwV 0 (zHt C.hts tv_X10_uncut) gv_X10_uncut rfl rfl rfl (by decide +kernel) ⟨Nat.le_of_ble_eq_true rfl, Nat.le_of_ble_eq_true rfl⟩) C.hK hP hD hS C.hA C.hX [12] [0, 1, 2, 3, 4, 5, 6, 7, 8, 9, 10, 11] rfl (zFl1 _) (zFl1 _) rfl 0 rfl rfl rfl hl.1 rfl (Nat.le_of_ble_eq_true rfl) dL_law_545 C.hf (fun H locs hP hD hS => ?_)
  exact lv_icmp_eq (tgt := 1646) hx hb dL_law_548 (by decide) (fun _ => kk _ _ _ H locs hv hP hD hS) (fun h9 => absurd rfl h9)
set_option maxHeartbeats 4000000 in
set_option maxRecDepth 20000 in
theorem law_open (C : zLw p room_1 s m c b L xs D T X A cells slots) (hi : i + 6 ≤ L) (hv : yInv gs g gl) (hP : va_P D vwCl (zFlat (zWg T ad hm gs g gl)) H) (hD : va_D A (zFlat (zWg T ad hm gs g gl))) (hS : va_S A s.heap H locs) (hl : lv_has ls 4 [(0, .ref b), (1, .ref (ad 0 0)), (2, .ref (hm 0)), (3, .int (nI i))]) (kk : zGo p l e room_1 s m below meth c ls cells slots Q D T A b ad hm) : W p l e room_1 s m #[Value.ref b] below meth c H locs cells slots Q (F0 m 553 ls []) := by
  have hx := C.hx
  have hb := C.hb
  obtain ⟨r, e1, e2, hv⟩ := v_open hv (zAt xs i 1) (zAt xs i 2)
  refine lv_aload_n hx hb dL_law_553 rfl (lv_at hl 1 rfl) ?_
  refine zLd 1 C hS hl hi (by decide) rfl dL_law_554 dL_law_555 dL_law_556 dL_law_557 dL_law_558 ?_
  refine zLd 2 C hS hl hi (by decide) rfl dL_law_559 dL_law_560 dL_law_561 dL_law_562 dL_law_563 ?_
  refine zCallGI (zWg T ad hm gs g gl) (zWg T ad hm gs g gl) [.int (zAt xs i 1), .int (zAt xs i 2)] ⟨hx, hb, C.hml, C.hown, zHt C.hts tv_X9_open⟩ (pX9_open l D T X ad H.size (gs 0) (gs 1) (zAt xs i 1) (zAt xs i 2) r  e1) (cwV 2 (zHt C.hts tv_X9_open) gv_X9_open rfl rfl rfl (by decide +kernel) ⟨Nat.le_of_ble_eq_true rfl, Nat.le_of_ble_eq_true rfl⟩) C.hK hP hD hS C.hA C.hX [0, 1] [2, 3, 4, 5, 6, 7, 8, 9, 10, 11, 12] rfl (zFl2 _ _ ) (zFl2 _ _ ) rfl 0 rfl rfl rfl hl.1 rfl (Nat.le_of_ble_eq_true rfl) dL_law_564 C.hf (fun H locs hP hD hS => ?_)
  refine lv_aload_n hx hb dL_law_567 rfl (lv_at hl 2 rfl) ?_
  refine zLd 1 C hS hl hi (by decide) rfl dL_law_568 dL_law_569 dL_law_570 dL_law_571 dL_law_572 ?_
  refine zLd 2 C hS hl hi (by decide) rfl dL_law_573 dL_law_574 dL_law_575 dL_law_576 dL_law_577 ?_
  refine zCallGI (zWg T ad hm gs g gl) (zWg T ad hm gs g gl) [.int (zAt xs i 1), .int (zAt xs i 2)] ⟨hx, hb, C.hml, C.hown, zHt C.hts tv_X10_open⟩ (pX10_open l D T X hm H.size g gl (zAt xs i 1) (zAt xs i 2) r  e2) (cwV 2 (zHt C.hts tv_X10_open) gv_X10_open rfl rfl rfl (by decide +kernel) ⟨Nat.le_of_ble_eq_true rfl, Nat.le_of_ble_eq_true rfl⟩) C.hK hP hD hS C.hA C.hX [12] [0, 1, 2, 3, 4, 5, 6, 7, 8, 9, 10, 11] rfl (zFl1 _) (zFl1 _) rfl 0 rfl rfl rfl hl.1 rfl (Nat.le_of_ble_eq_true rfl) dL_law_578 C.hf (fun H locs hP hD hS => ?_)
  exact lv_icmp_eq (tgt := 1646) hx hb dL_law_581 (by decide) (fun _ => kk _ _ _ H locs hv hP hD hS) (fun h9 => absurd rfl h9)
set_option maxHeartbeats 4000000 in
set_option maxRecDepth 20000 in
theorem law_joined (C : zLw p room_1 s m c b L xs D T X A cells slots) (hi : i + 6 ≤ L) (hv : yInv gs g gl) (hP : va_P D vwCl (zFlat (zWg T ad hm gs g gl)) H) (hD : va_D A (zFlat (zWg T ad hm gs g gl))) (hS : va_S A s.heap H locs) (hl : lv_has ls 4 [(0, .ref b), (1, .ref (ad 0 0)), (2, .ref (hm 0)), (3, .int (nI i))]) (kk : zGo p l e room_1 s m below meth c ls cells slots Q D T A b ad hm) : W p l e room_1 s m #[Value.ref b] below meth c H locs cells slots Q (F0 m 586 ls []) := by
  have hx := C.hx
  have hb := C.hb
  obtain ⟨r, w5, e1, e2, hv⟩ := v_joined hv (zAt xs i 1)
  refine lv_aload_n hx hb dL_law_586 rfl (lv_at hl 1 rfl) ?_
  refine zLd 1 C hS hl hi (by decide) rfl dL_law_587 dL_law_588 dL_law_589 dL_law_590 dL_law_591 ?_
  refine zCallGI (zWg T ad hm gs g gl) (zWg T ad hm (zSet gs 5 w5) g gl) [.int (zAt xs i 1)] ⟨hx, hb, C.hml, C.hown, zHt C.hts tv_X9_joined⟩ (pX9_joined l D T X ad H.size (gs 0) (gs 1) (gs 5) (zAt xs i 1) r w5 e1) (cwV 1 (zHt C.hts tv_X9_joined) gv_X9_joined rfl rfl rfl (by decide +kernel) ⟨Nat.le_of_ble_eq_true rfl, Nat.le_of_ble_eq_true rfl⟩) C.hK hP hD hS C.hA C.hX [0, 1, 5] [2, 3, 4, 6, 7, 8, 9, 10, 11, 12] rfl (zFl3 _ _ _ ) (zFl3 _ _ _ ) rfl 0 rfl rfl rfl hl.1 rfl (Nat.le_of_ble_eq_true rfl) dL_law_592 C.hf (fun H locs hP hD hS => ?_)
  refine lv_aload_n hx hb dL_law_595 rfl (lv_at hl 2 rfl) ?_
  refine zLd 1 C hS hl hi (by decide) rfl dL_law_596 dL_law_597 dL_law_598 dL_law_599 dL_law_600 ?_
  refine zCallGI (zWg T ad hm (zSet gs 5 w5) g gl) (zWg T ad hm (zSet gs 5 w5) g gl) [.int (zAt xs i 1)] ⟨hx, hb, C.hml, C.hown, zHt C.hts tv_X10_joined⟩ (pX10_joined l D T X hm H.size g gl (zAt xs i 1) r  e2) (cwV 1 (zHt C.hts tv_X10_joined) gv_X10_joined rfl rfl rfl (by decide +kernel) ⟨Nat.le_of_ble_eq_true rfl, Nat.le_of_ble_eq_true rfl⟩) C.hK hP hD hS C.hA C.hX [12] [0, 1, 2, 3, 4, 5, 6, 7, 8, 9, 10, 11] rfl (zFl1 _) (zFl1 _) rfl 0 rfl rfl rfl hl.1 rfl (Nat.le_of_ble_eq_true rfl) dL_law_601 C.hf (fun H locs hP hD hS => ?_)
  exact lv_icmp_eq (tgt := 1646) hx hb dL_law_604 (by decide) (fun _ => kk _ _ _ H locs hv hP hD hS) (fun h9 => absurd rfl h9)
end LW
