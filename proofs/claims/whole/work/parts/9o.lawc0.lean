set_option maxHeartbeats 4000000 in
set_option maxRecDepth 100000 in
theorem lw_case0 {p : Program} {l : Launch} {e : Env} {s : State} {m : MethodId} {below : List Frame} {meth : Method} {c : Code} {Q : State → Prop} {b L : Nat} {xs : Nat → Int32} {g : GT} {hd hm i : Nat} {a : Nat → Nat} (C : lw_C p s m meth c b L xs g) (hi : i + 6 ≤ L) (kont : lw_K p l e s m below meth c Q b g hd hm a i 1481 6) : lw_K p l e s m below meth c Q b g hd hm a i 180 0 := by
  intro A z F LA LZ LT K j G H locs ls hR hP hD hS hl
  have hx := C.1
  have hb := C.2.1
  have hts := C.2.2.2.2.2.1
  have hL := C.2.2.2.2.2.2.2.2.2.2
  refine lv_aload_n hx hb dL_law_180 rfl (lv_at hl 2 rfl) ?_
  refine lw_arg C hS hl 1 rfl (by omega) dL_law_181 dL_law_182 dL_law_183 dL_law_184 dL_law_185 ?_
  refine lw_arg C hS hl 2 rfl (by omega) dL_law_186 dL_law_187 dL_law_188 dL_law_189 dL_law_190 ?_
  refine lw_arg C hS hl 3 rfl (by omega) dL_law_191 dL_law_192 dL_law_193 dL_law_194 dL_law_195 ?_
  refine lw_call8 (as := [.int (iI ((xs (i + 1)).toInt)), .int (iI ((xs (i + 2)).toInt)), .int (iI ((xs (i + 3)).toInt))]) (y9 := yX9_work) (ws9 := wsX9_work) (rm9 := ({ frames := 2, cells := 0, slots := 0, locals := 51 } : Room)) C (pr_work l g ((xs (i + 1)).toInt) ((xs (i + 2)).toInt) ((xs (i + 3)).toInt) (xr _) (xr _) (xr _) hd hm A z F LA LZ LT K a j G hR) (cwV 3 hts gL_law_X8_work rfl rfl rfl (by decide +kernel) ⟨Nat.le_of_ble_eq_true rfl, Nat.le_of_ble_eq_true rfl⟩) hP hD hS rfl hl.1 rfl dL_law_196 (by show _ + 0 ≤ 600000 ∧ _ + 0 ≤ 7302250; omega) (fun r A z F LA LZ LT K H locs hQ hP hD hS => ?_)
  refine lv_aload_n hx hb dL_law_199 rfl (lv_at hl 1 rfl) ?_
  refine lw_arg C hS hl 1 rfl (by omega) dL_law_200 dL_law_201 dL_law_202 dL_law_203 dL_law_204 ?_
  refine lw_arg C hS hl 2 rfl (by omega) dL_law_205 dL_law_206 dL_law_207 dL_law_208 dL_law_209 ?_
  refine lw_arg C hS hl 3 rfl (by omega) dL_law_210 dL_law_211 dL_law_212 dL_law_213 dL_law_214 ?_
  refine lw_call9 C hQ (cwV 3 hts gL_law_X9_work rfl rfl rfl (by decide +kernel) ⟨Nat.le_of_ble_eq_true rfl, Nat.le_of_ble_eq_true rfl⟩) hP hD hS rfl hl.1 rfl dL_law_215 (by show _ + 0 + 0 ≤ 600000 ∧ _ + 0 + 0 ≤ 7302250; omega) (fun j G H locs hR hP hD hS => ?_)
  refine lv_icmp_eq (tgt := 1481) hx hb dL_law_218 (by decide) (fun _ => ?_) (fun h9 => absurd rfl h9)
  refine W.widen (k := 100 + 2 * (i + 6)) (n := 4000 + 50 * (i + 6)) (by show _ + 0 + 0 ≤ _; omega) (by show _ + 0 + 0 ≤ _; omega) ?_
  exact kont A z F LA LZ LT K j G H locs ls hR hP hD hS hl
set_option maxHeartbeats 4000000 in
set_option maxRecDepth 100000 in
theorem lw_case1 {p : Program} {l : Launch} {e : Env} {s : State} {m : MethodId} {below : List Frame} {meth : Method} {c : Code} {Q : State → Prop} {b L : Nat} {xs : Nat → Int32} {g : GT} {hd hm i : Nat} {a : Nat → Nat} (C : lw_C p s m meth c b L xs g) (hi : i + 6 ≤ L) (kont : lw_K p l e s m below meth c Q b g hd hm a i 1481 6) : lw_K p l e s m below meth c Q b g hd hm a i 223 0 := by
  intro A z F LA LZ LT K j G H locs ls hR hP hD hS hl
  have hx := C.1
  have hb := C.2.1
  have hts := C.2.2.2.2.2.1
  have hL := C.2.2.2.2.2.2.2.2.2.2
  refine lv_aload_n hx hb dL_law_223 rfl (lv_at hl 2 rfl) ?_
  refine lw_arg C hS hl 1 rfl (by omega) dL_law_224 dL_law_225 dL_law_226 dL_law_227 dL_law_228 ?_
  refine lw_arg C hS hl 2 rfl (by omega) dL_law_229 dL_law_230 dL_law_231 dL_law_232 dL_law_233 ?_
  refine lw_arg C hS hl 3 rfl (by omega) dL_law_234 dL_law_235 dL_law_236 dL_law_237 dL_law_238 ?_
  refine lw_arg C hS hl 4 rfl (by omega) dL_law_239 dL_law_240 dL_law_241 dL_law_242 dL_law_243 ?_
  refine lw_call8 (as := [.int (iI ((xs (i + 1)).toInt)), .int (iI ((xs (i + 2)).toInt)), .int (iI ((xs (i + 3)).toInt)), .int (iI ((xs (i + 4)).toInt))]) (y9 := yX9_row) (ws9 := wsX9_row) (rm9 := ({ frames := 2, cells := 0, slots := 0, locals := 51 } : Room)) C (pr_row l g ((xs (i + 1)).toInt) ((xs (i + 2)).toInt) ((xs (i + 3)).toInt) ((xs (i + 4)).toInt) (xr _) (xr _) (xr _) (xr _) hd hm A z F LA LZ LT K a j G hR) (cwV 4 hts gL_law_X8_row rfl rfl rfl (by decide +kernel) ⟨Nat.le_of_ble_eq_true rfl, Nat.le_of_ble_eq_true rfl⟩) hP hD hS rfl hl.1 rfl dL_law_244 (by show _ + 0 ≤ 600000 ∧ _ + 0 ≤ 7302250; omega) (fun r A z F LA LZ LT K H locs hQ hP hD hS => ?_)
  refine lv_aload_n hx hb dL_law_247 rfl (lv_at hl 1 rfl) ?_
  refine lw_arg C hS hl 1 rfl (by omega) dL_law_248 dL_law_249 dL_law_250 dL_law_251 dL_law_252 ?_
  refine lw_arg C hS hl 2 rfl (by omega) dL_law_253 dL_law_254 dL_law_255 dL_law_256 dL_law_257 ?_
  refine lw_arg C hS hl 3 rfl (by omega) dL_law_258 dL_law_259 dL_law_260 dL_law_261 dL_law_262 ?_
  refine lw_arg C hS hl 4 rfl (by omega) dL_law_263 dL_law_264 dL_law_265 dL_law_266 dL_law_267 ?_
  refine lw_call9 C hQ (cwV 4 hts gL_law_X9_row rfl rfl rfl (by decide +kernel) ⟨Nat.le_of_ble_eq_true rfl, Nat.le_of_ble_eq_true rfl⟩) hP hD hS rfl hl.1 rfl dL_law_268 (by show _ + 0 + 0 ≤ 600000 ∧ _ + 0 + 0 ≤ 7302250; omega) (fun j G H locs hR hP hD hS => ?_)
  refine lv_icmp_eq (tgt := 1481) hx hb dL_law_271 (by decide) (fun _ => ?_) (fun h9 => absurd rfl h9)
  refine W.widen (k := 100 + 2 * (i + 6)) (n := 4000 + 50 * (i + 6)) (by show _ + 0 + 0 ≤ _; omega) (by show _ + 0 + 0 ≤ _; omega) ?_
  exact kont A z F LA LZ LT K j G H locs ls hR hP hD hS hl
set_option maxHeartbeats 4000000 in
set_option maxRecDepth 100000 in
theorem lw_case2 {p : Program} {l : Launch} {e : Env} {s : State} {m : MethodId} {below : List Frame} {meth : Method} {c : Code} {Q : State → Prop} {b L : Nat} {xs : Nat → Int32} {g : GT} {hd hm i : Nat} {a : Nat → Nat} (C : lw_C p s m meth c b L xs g) (hi : i + 6 ≤ L) (kont : lw_K p l e s m below meth c Q b g hd hm a i 1481 6) : lw_K p l e s m below meth c Q b g hd hm a i 276 0 := by
  intro A z F LA LZ LT K j G H locs ls hR hP hD hS hl
  have hx := C.1
  have hb := C.2.1
  have hts := C.2.2.2.2.2.1
  have hL := C.2.2.2.2.2.2.2.2.2.2
  refine lv_aload_n hx hb dL_law_276 rfl (lv_at hl 2 rfl) ?_
  refine lw_arg C hS hl 1 rfl (by omega) dL_law_277 dL_law_278 dL_law_279 dL_law_280 dL_law_281 ?_
  refine lw_arg C hS hl 2 rfl (by omega) dL_law_282 dL_law_283 dL_law_284 dL_law_285 dL_law_286 ?_
  refine lw_arg C hS hl 3 rfl (by omega) dL_law_287 dL_law_288 dL_law_289 dL_law_290 dL_law_291 ?_
  refine lw_call8 (as := [.int (iI ((xs (i + 1)).toInt)), .int (iI ((xs (i + 2)).toInt)), .int (iI ((xs (i + 3)).toInt))]) (y9 := yX9_could) (ws9 := wsX9_could) (rm9 := ({ frames := 2, cells := 0, slots := 0, locals := 51 } : Room)) C (pr_could l g ((xs (i + 1)).toInt) ((xs (i + 2)).toInt) ((xs (i + 3)).toInt) (xr _) (xr _) (xr _) hd hm A z F LA LZ LT K a j G hR) (cwV 3 hts gL_law_X8_could rfl rfl rfl (by decide +kernel) ⟨Nat.le_of_ble_eq_true rfl, Nat.le_of_ble_eq_true rfl⟩) hP hD hS rfl hl.1 rfl dL_law_292 (by show _ + 0 ≤ 600000 ∧ _ + 0 ≤ 7302250; omega) (fun r A z F LA LZ LT K H locs hQ hP hD hS => ?_)
  refine lv_aload_n hx hb dL_law_295 rfl (lv_at hl 1 rfl) ?_
  refine lw_arg C hS hl 1 rfl (by omega) dL_law_296 dL_law_297 dL_law_298 dL_law_299 dL_law_300 ?_
  refine lw_arg C hS hl 2 rfl (by omega) dL_law_301 dL_law_302 dL_law_303 dL_law_304 dL_law_305 ?_
  refine lw_arg C hS hl 3 rfl (by omega) dL_law_306 dL_law_307 dL_law_308 dL_law_309 dL_law_310 ?_
  refine lw_call9 C hQ (cwV 3 hts gL_law_X9_could rfl rfl rfl (by decide +kernel) ⟨Nat.le_of_ble_eq_true rfl, Nat.le_of_ble_eq_true rfl⟩) hP hD hS rfl hl.1 rfl dL_law_311 (by show _ + 0 + 0 ≤ 600000 ∧ _ + 0 + 0 ≤ 7302250; omega) (fun j G H locs hR hP hD hS => ?_)
  refine lv_icmp_eq (tgt := 1481) hx hb dL_law_314 (by decide) (fun _ => ?_) (fun h9 => absurd rfl h9)
  refine W.widen (k := 100 + 2 * (i + 6)) (n := 4000 + 50 * (i + 6)) (by show _ + 0 + 0 ≤ _; omega) (by show _ + 0 + 0 ≤ _; omega) ?_
  exact kont A z F LA LZ LT K j G H locs ls hR hP hD hS hl
set_option maxHeartbeats 4000000 in
set_option maxRecDepth 100000 in
theorem lw_case3 {p : Program} {l : Launch} {e : Env} {s : State} {m : MethodId} {below : List Frame} {meth : Method} {c : Code} {Q : State → Prop} {b L : Nat} {xs : Nat → Int32} {g : GT} {hd hm i : Nat} {a : Nat → Nat} (C : lw_C p s m meth c b L xs g) (hi : i + 6 ≤ L) (kont : lw_K p l e s m below meth c Q b g hd hm a i 1481 6) : lw_K p l e s m below meth c Q b g hd hm a i 319 0 := by
  intro A z F LA LZ LT K j G H locs ls hR hP hD hS hl
  have hx := C.1
  have hb := C.2.1
  have hts := C.2.2.2.2.2.1
  have hL := C.2.2.2.2.2.2.2.2.2.2
  refine lv_aload_n hx hb dL_law_319 rfl (lv_at hl 2 rfl) ?_
  refine lw_arg C hS hl 1 rfl (by omega) dL_law_320 dL_law_321 dL_law_322 dL_law_323 dL_law_324 ?_
  refine lw_arg C hS hl 2 rfl (by omega) dL_law_325 dL_law_326 dL_law_327 dL_law_328 dL_law_329 ?_
  refine lw_arg C hS hl 3 rfl (by omega) dL_law_330 dL_law_331 dL_law_332 dL_law_333 dL_law_334 ?_
  refine lw_arg C hS hl 4 rfl (by omega) dL_law_335 dL_law_336 dL_law_337 dL_law_338 dL_law_339 ?_
  refine lw_call8 (as := [.int (iI ((xs (i + 1)).toInt)), .int (iI ((xs (i + 2)).toInt)), .int (iI ((xs (i + 3)).toInt)), .int (iI ((xs (i + 4)).toInt))]) (y9 := yX9_least) (ws9 := wsX9_least) (rm9 := ({ frames := 2, cells := 0, slots := 0, locals := 51 } : Room)) C (pr_least l g ((xs (i + 1)).toInt) ((xs (i + 2)).toInt) ((xs (i + 3)).toInt) ((xs (i + 4)).toInt) (xr _) (xr _) (xr _) (xr _) hd hm A z F LA LZ LT K a j G hR) (cwV 4 hts gL_law_X8_least rfl rfl rfl (by decide +kernel) ⟨Nat.le_of_ble_eq_true rfl, Nat.le_of_ble_eq_true rfl⟩) hP hD hS rfl hl.1 rfl dL_law_340 (by show _ + 0 ≤ 600000 ∧ _ + 0 ≤ 7302250; omega) (fun r A z F LA LZ LT K H locs hQ hP hD hS => ?_)
  refine lv_aload_n hx hb dL_law_343 rfl (lv_at hl 1 rfl) ?_
  refine lw_arg C hS hl 1 rfl (by omega) dL_law_344 dL_law_345 dL_law_346 dL_law_347 dL_law_348 ?_
  refine lw_arg C hS hl 2 rfl (by omega) dL_law_349 dL_law_350 dL_law_351 dL_law_352 dL_law_353 ?_
  refine lw_arg C hS hl 3 rfl (by omega) dL_law_354 dL_law_355 dL_law_356 dL_law_357 dL_law_358 ?_
  refine lw_arg C hS hl 4 rfl (by omega) dL_law_359 dL_law_360 dL_law_361 dL_law_362 dL_law_363 ?_
  refine lw_call9 C hQ (cwV 4 hts gL_law_X9_least rfl rfl rfl (by decide +kernel) ⟨Nat.le_of_ble_eq_true rfl, Nat.le_of_ble_eq_true rfl⟩) hP hD hS rfl hl.1 rfl dL_law_364 (by show _ + 0 + 0 ≤ 600000 ∧ _ + 0 + 0 ≤ 7302250; omega) (fun j G H locs hR hP hD hS => ?_)
  refine lv_icmp_eq (tgt := 1481) hx hb dL_law_367 (by decide) (fun _ => ?_) (fun h9 => absurd rfl h9)
  refine W.widen (k := 100 + 2 * (i + 6)) (n := 4000 + 50 * (i + 6)) (by show _ + 0 + 0 ≤ _; omega) (by show _ + 0 + 0 ≤ _; omega) ?_
  exact kont A z F LA LZ LT K j G H locs ls hR hP hD hS hl
set_option maxHeartbeats 4000000 in
set_option maxRecDepth 100000 in
theorem lw_case4 {p : Program} {l : Launch} {e : Env} {s : State} {m : MethodId} {below : List Frame} {meth : Method} {c : Code} {Q : State → Prop} {b L : Nat} {xs : Nat → Int32} {g : GT} {hd hm i : Nat} {a : Nat → Nat} (C : lw_C p s m meth c b L xs g) (hi : i + 6 ≤ L) (kont : lw_K p l e s m below meth c Q b g hd hm a i 1481 6) : lw_K p l e s m below meth c Q b g hd hm a i 372 0 := by
  intro A z F LA LZ LT K j G H locs ls hR hP hD hS hl
  have hx := C.1
  have hb := C.2.1
  have hts := C.2.2.2.2.2.1
  have hL := C.2.2.2.2.2.2.2.2.2.2
  refine lv_aload_n hx hb dL_law_372 rfl (lv_at hl 2 rfl) ?_
  refine lw_arg C hS hl 1 rfl (by omega) dL_law_373 dL_law_374 dL_law_375 dL_law_376 dL_law_377 ?_
  refine lw_arg C hS hl 2 rfl (by omega) dL_law_378 dL_law_379 dL_law_380 dL_law_381 dL_law_382 ?_
  refine lw_arg C hS hl 3 rfl (by omega) dL_law_383 dL_law_384 dL_law_385 dL_law_386 dL_law_387 ?_
  refine lw_call8 (as := [.int (iI ((xs (i + 1)).toInt)), .int (iI ((xs (i + 2)).toInt)), .int (iI ((xs (i + 3)).toInt))]) (y9 := yX9_parts) (ws9 := wsX9_parts) (rm9 := ({ frames := 2, cells := 0, slots := 0, locals := 51 } : Room)) C (pr_parts l g ((xs (i + 1)).toInt) ((xs (i + 2)).toInt) ((xs (i + 3)).toInt) (xr _) (xr _) (xr _) hd hm A z F LA LZ LT K a j G hR) (cwV 3 hts gL_law_X8_parts rfl rfl rfl (by decide +kernel) ⟨Nat.le_of_ble_eq_true rfl, Nat.le_of_ble_eq_true rfl⟩) hP hD hS rfl hl.1 rfl dL_law_388 (by show _ + 0 ≤ 600000 ∧ _ + 0 ≤ 7302250; omega) (fun r A z F LA LZ LT K H locs hQ hP hD hS => ?_)
  refine lv_aload_n hx hb dL_law_391 rfl (lv_at hl 1 rfl) ?_
  refine lw_arg C hS hl 1 rfl (by omega) dL_law_392 dL_law_393 dL_law_394 dL_law_395 dL_law_396 ?_
  refine lw_arg C hS hl 2 rfl (by omega) dL_law_397 dL_law_398 dL_law_399 dL_law_400 dL_law_401 ?_
  refine lw_arg C hS hl 3 rfl (by omega) dL_law_402 dL_law_403 dL_law_404 dL_law_405 dL_law_406 ?_
  refine lw_call9 C hQ (cwV 3 hts gL_law_X9_parts rfl rfl rfl (by decide +kernel) ⟨Nat.le_of_ble_eq_true rfl, Nat.le_of_ble_eq_true rfl⟩) hP hD hS rfl hl.1 rfl dL_law_407 (by show _ + 0 + 0 ≤ 600000 ∧ _ + 0 + 0 ≤ 7302250; omega) (fun j G H locs hR hP hD hS => ?_)
  refine lv_icmp_eq (tgt := 1481) hx hb dL_law_410 (by decide) (fun _ => ?_) (fun h9 => absurd rfl h9)
  refine W.widen (k := 100 + 2 * (i + 6)) (n := 4000 + 50 * (i + 6)) (by show _ + 0 + 0 ≤ _; omega) (by show _ + 0 + 0 ≤ _; omega) ?_
  exact kont A z F LA LZ LT K j G H locs ls hR hP hD hS hl
set_option maxHeartbeats 4000000 in
set_option maxRecDepth 100000 in
theorem lw_case5 {p : Program} {l : Launch} {e : Env} {s : State} {m : MethodId} {below : List Frame} {meth : Method} {c : Code} {Q : State → Prop} {b L : Nat} {xs : Nat → Int32} {g : GT} {hd hm i : Nat} {a : Nat → Nat} (C : lw_C p s m meth c b L xs g) (hi : i + 6 ≤ L) (kont : lw_K p l e s m below meth c Q b g hd hm a i 1481 6) : lw_K p l e s m below meth c Q b g hd hm a i 415 0 := by
  intro A z F LA LZ LT K j G H locs ls hR hP hD hS hl
  have hx := C.1
  have hb := C.2.1
  have hts := C.2.2.2.2.2.1
  have hL := C.2.2.2.2.2.2.2.2.2.2
  refine lv_aload_n hx hb dL_law_415 rfl (lv_at hl 2 rfl) ?_
  refine lw_arg C hS hl 1 rfl (by omega) dL_law_416 dL_law_417 dL_law_418 dL_law_419 dL_law_420 ?_
  refine lw_arg C hS hl 2 rfl (by omega) dL_law_421 dL_law_422 dL_law_423 dL_law_424 dL_law_425 ?_
  refine lw_arg C hS hl 3 rfl (by omega) dL_law_426 dL_law_427 dL_law_428 dL_law_429 dL_law_430 ?_
  refine lw_arg C hS hl 4 rfl (by omega) dL_law_431 dL_law_432 dL_law_433 dL_law_434 dL_law_435 ?_
  refine lw_arg C hS hl 5 rfl (by omega) dL_law_436 dL_law_437 dL_law_438 dL_law_439 dL_law_440 ?_
  refine lw_call8 (as := [.int (iI ((xs (i + 1)).toInt)), .int (iI ((xs (i + 2)).toInt)), .int (iI ((xs (i + 3)).toInt)), .int (iI ((xs (i + 4)).toInt)), .int (iI ((xs (i + 5)).toInt))]) (y9 := yX9_probe) (ws9 := wsX9_probe) (rm9 := ({ frames := 3, cells := 0, slots := 0, locals := 80 } : Room)) C (pr_probe l g ((xs (i + 1)).toInt) ((xs (i + 2)).toInt) ((xs (i + 3)).toInt) ((xs (i + 4)).toInt) ((xs (i + 5)).toInt) (xr _) (xr _) (xr _) (xr _) (xr _) hd hm A z F LA LZ LT K a j G hR) (cwV 5 hts gL_law_X8_probe rfl rfl rfl (by decide +kernel) ⟨Nat.le_of_ble_eq_true rfl, Nat.le_of_ble_eq_true rfl⟩) hP hD hS rfl hl.1 rfl dL_law_441 (by show _ + 0 ≤ 600000 ∧ _ + 0 ≤ 7302250; omega) (fun r A z F LA LZ LT K H locs hQ hP hD hS => ?_)
  refine lv_aload_n hx hb dL_law_444 rfl (lv_at hl 1 rfl) ?_
  refine lw_arg C hS hl 1 rfl (by omega) dL_law_445 dL_law_446 dL_law_447 dL_law_448 dL_law_449 ?_
  refine lw_arg C hS hl 2 rfl (by omega) dL_law_450 dL_law_451 dL_law_452 dL_law_453 dL_law_454 ?_
  refine lw_arg C hS hl 3 rfl (by omega) dL_law_455 dL_law_456 dL_law_457 dL_law_458 dL_law_459 ?_
  refine lw_arg C hS hl 4 rfl (by omega) dL_law_460 dL_law_461 dL_law_462 dL_law_463 dL_law_464 ?_
  refine lw_arg C hS hl 5 rfl (by omega) dL_law_465 dL_law_466 dL_law_467 dL_law_468 dL_law_469 ?_
  refine lw_call9 C hQ (cwV 5 hts gL_law_X9_probe rfl rfl rfl (by decide +kernel) ⟨Nat.le_of_ble_eq_true rfl, Nat.le_of_ble_eq_true rfl⟩) hP hD hS rfl hl.1 rfl dL_law_470 (by show _ + 0 + 0 ≤ 600000 ∧ _ + 0 + 0 ≤ 7302250; omega) (fun j G H locs hR hP hD hS => ?_)
  refine lv_icmp_eq (tgt := 1481) hx hb dL_law_473 (by decide) (fun _ => ?_) (fun h9 => absurd rfl h9)
  refine W.widen (k := 100 + 2 * (i + 6)) (n := 4000 + 50 * (i + 6)) (by show _ + 0 + 0 ≤ _; omega) (by show _ + 0 + 0 ≤ _; omega) ?_
  exact kont A z F LA LZ LT K j G H locs ls hR hP hD hS hl
set_option maxHeartbeats 4000000 in
set_option maxRecDepth 100000 in
theorem lw_case6 {p : Program} {l : Launch} {e : Env} {s : State} {m : MethodId} {below : List Frame} {meth : Method} {c : Code} {Q : State → Prop} {b L : Nat} {xs : Nat → Int32} {g : GT} {hd hm i : Nat} {a : Nat → Nat} (C : lw_C p s m meth c b L xs g) (hi : i + 6 ≤ L) (kont : lw_K p l e s m below meth c Q b g hd hm a i 1481 6) : lw_K p l e s m below meth c Q b g hd hm a i 478 0 := by
  intro A z F LA LZ LT K j G H locs ls hR hP hD hS hl
  have hx := C.1
  have hb := C.2.1
  have hts := C.2.2.2.2.2.1
  have hL := C.2.2.2.2.2.2.2.2.2.2
  refine lv_aload_n hx hb dL_law_478 rfl (lv_at hl 2 rfl) ?_
  refine lw_call8 (as := []) (y9 := yX9_learner) (ws9 := wsX9_learner) (rm9 := ({ frames := 0, cells := 0, slots := 0, locals := 0 } : Room)) C (pr_learner l g   hd hm A z F LA LZ LT K a j G hR) (cwV 0 hts gL_law_X8_learner rfl rfl rfl (by decide +kernel) ⟨Nat.le_of_ble_eq_true rfl, Nat.le_of_ble_eq_true rfl⟩) hP hD hS rfl hl.1 rfl dL_law_479 (by show _ + 9 ≤ 600000 ∧ _ + 247 ≤ 7302250; omega) (fun r A z F LA LZ LT K H locs hQ hP hD hS => ?_)
  refine lv_aload_n hx hb dL_law_482 rfl (lv_at hl 1 rfl) ?_
  refine lw_call9 C hQ (cwV 0 hts gL_law_X9_learner rfl rfl rfl (by decide +kernel) ⟨Nat.le_of_ble_eq_true rfl, Nat.le_of_ble_eq_true rfl⟩) hP hD hS rfl hl.1 rfl dL_law_483 (by show _ + 9 + 0 ≤ 600000 ∧ _ + 247 + 0 ≤ 7302250; omega) (fun j G H locs hR hP hD hS => ?_)
  refine lv_icmp_eq (tgt := 1481) hx hb dL_law_486 (by decide) (fun _ => ?_) (fun h9 => absurd rfl h9)
  refine W.widen (k := 100 + 2 * (i + 6)) (n := 4000 + 50 * (i + 6)) (by show _ + 9 + 0 ≤ _; omega) (by show _ + 247 + 0 ≤ _; omega) ?_
  exact kont A z F LA LZ LT K j G H locs ls hR hP hD hS hl
