section
theorem lc_0 : lw_case 196 := by
  intro p l e s m below meth c b L xs D dA adC adM kK kV i ls hF hX hbl hL hi hl μ ν H locs hJ hR next
  refine lv_aload_n hF.1 hF.2.1 dL_law_196 rfl (lv_at hl 1 rfl) ?_
  refine lw_arg hF hJ hX hbl hL hl (k := 1) (by omega) (by decide) dL_law_197 dL_law_198 dL_law_199 dL_law_200 dL_law_201 ?_
  refine lw_arg hF hJ hX hbl hL hl (k := 2) (by omega) (by decide) dL_law_202 dL_law_203 dL_law_204 dL_law_205 dL_law_206 ?_
  refine lv_i2l hF.1 hF.2.1 dL_law_207 rfl ?_
  refine lv_bipush hF.1 hF.2.1 dL_law_208 (v := 32) (by decide) ?_
  refine lv_lshl hF.1 hF.2.1 dL_law_210 rfl ?_
  refine lw_arg hF hJ hX hbl hL hl (k := 3) (by omega) (by decide) dL_law_211 dL_law_212 dL_law_213 dL_law_214 dL_law_215 ?_
  refine lv_i2l hF.1 hF.2.1 dL_law_216 rfl ?_
  refine lv_ldc2 (v := 4294967295) hF.1 hF.2.1 hF.2.2.2.1 (hF.2.2.2.2.1 _ (js_mem 1636 (by decide +kernel) rfl)) dL_law_217 ?_
  refine lv_land hF.1 hF.2.1 dL_law_220 ?_
  refine lv_lor hF.1 hF.2.1 dL_law_221 ?_
  obtain ⟨B, hB⟩ : ∃ B : Int, B = (((Int32.ofInt (xs (i + 2)).toInt).toInt64 <<< ((32 : Int32).toInt64 &&& 63)) ||| ((Int32.ofInt (xs (i + 3)).toInt).toInt64 &&& 4294967295)).toInt := ⟨_, rfl⟩
  have hB2 : (((Int32.ofInt (xs (i + 2)).toInt).toInt64 <<< ((32 : Int32).toInt64 &&& 63)) ||| ((Int32.ofInt (xs (i + 3)).toInt).toInt64 &&& 4294967295)) = Int64.ofInt B := by rw [hB, js_ol]
  have hB3 : js_rg 0 2 B := by rw [hB]; exact js_r64 _
  rw [hB2]
  obtain ⟨v, μ1, ν1, e1, e2, hR1⟩ := cl_feed (b := B) (js_r32 (xs (i + 1))) μ ν hR
  refine lw_cC hF hJ (ts := [1, 2]) (zs := [(xs (i + 1)).toInt, B]) (st := []) me_X10_feed yi_X10_feed yv_X10_feed (js_mem 477 (by decide +kernel) rfl) rfl rfl e1 ⟨js_r32 _, hB3, trivial⟩ hl.1 js_sm0 dL_law_222 (fun H locs hJ => ?_)
  refine lv_aload_n hF.1 hF.2.1 dL_law_225 rfl (lv_at hl 2 rfl) ?_
  refine lw_arg hF hJ hX hbl hL hl (k := 1) (by omega) (by decide) dL_law_226 dL_law_227 dL_law_228 dL_law_229 dL_law_230 ?_
  refine lw_arg hF hJ hX hbl hL hl (k := 2) (by omega) (by decide) dL_law_231 dL_law_232 dL_law_233 dL_law_234 dL_law_235 ?_
  refine lv_i2l hF.1 hF.2.1 dL_law_236 rfl ?_
  refine lv_bipush hF.1 hF.2.1 dL_law_237 (v := 32) (by decide) ?_
  refine lv_lshl hF.1 hF.2.1 dL_law_239 rfl ?_
  refine lw_arg hF hJ hX hbl hL hl (k := 3) (by omega) (by decide) dL_law_240 dL_law_241 dL_law_242 dL_law_243 dL_law_244 ?_
  refine lv_i2l hF.1 hF.2.1 dL_law_245 rfl ?_
  refine lv_ldc2 (v := 4294967295) hF.1 hF.2.1 hF.2.2.2.1 (hF.2.2.2.2.1 _ (js_mem 1636 (by decide +kernel) rfl)) dL_law_246 ?_
  refine lv_land hF.1 hF.2.1 dL_law_249 ?_
  refine lv_lor hF.1 hF.2.1 dL_law_250 ?_
  rw [hB2]
  refine lw_cM hF hJ (ts := [1, 2]) (zs := [(xs (i + 1)).toInt, B]) (st := [.int (Int32.ofInt v)]) me_X11_feed yi_X11_feed yv_X11_feed (js_mem 1248 (by decide +kernel) rfl) rfl rfl e2 ⟨js_r32 _, hB3, trivial⟩ hl.1 (js_sm1 _) dL_law_251 (fun H locs hJ => ?_)
  exact lv_icmp_eq (tgt := 1347) hF.1 hF.2.1 dL_law_254 (by decide) (fun _ => next μ1 ν1 H locs hJ hR1) (fun hne => absurd rfl hne)
theorem lc_1 : lw_case 259 := by
  intro p l e s m below meth c b L xs D dA adC adM kK kV i ls hF hX hbl hL hi hl μ ν H locs hJ hR next
  obtain ⟨v, μ1, ν1, e1, e2, hR1⟩ := cl_town μ ν hR (fun j => hJ.2.2.2.2 4 j (by show (5 : Nat) ≠ 3; decide) (by show (5 : Nat) ≠ 0; decide))
  refine lv_aload_n hF.1 hF.2.1 dL_law_259 rfl (lv_at hl 1 rfl) ?_
  refine lw_cC hF hJ (ts := []) (zs := []) (st := []) me_X10_town yi_X10_town yv_X10_town (js_mem 488 (by decide +kernel) rfl) rfl rfl e1 trivial hl.1 js_sm0 dL_law_260 (fun H locs hJ => ?_)
  refine lv_aload_n hF.1 hF.2.1 dL_law_263 rfl (lv_at hl 2 rfl) ?_
  refine lw_cM hF hJ (ts := []) (zs := []) (st := [.int (Int32.ofInt v)]) me_X11_town yi_X11_town yv_X11_town (js_mem 1259 (by decide +kernel) rfl) rfl rfl e2 trivial hl.1 (js_sm1 _) dL_law_264 (fun H locs hJ => ?_)
  exact lv_icmp_eq (tgt := 1347) hF.1 hF.2.1 dL_law_267 (by decide) (fun _ => next μ1 ν1 H locs hJ hR1) (fun hne => absurd rfl hne)
theorem lc_2 : lw_case 272 := by
  intro p l e s m below meth c b L xs D dA adC adM kK kV i ls hF hX hbl hL hi hl μ ν H locs hJ hR next
  obtain ⟨v, μ1, ν1, e1, e2, hR1⟩ := cl_sayings μ ν hR
  refine lv_aload_n hF.1 hF.2.1 dL_law_272 rfl (lv_at hl 1 rfl) ?_
  refine lw_cC hF hJ (ts := []) (zs := []) (st := []) me_X10_sayings yi_X10_sayings yv_X10_sayings (js_mem 645 (by decide +kernel) rfl) rfl rfl e1 trivial hl.1 js_sm0 dL_law_273 (fun H locs hJ => ?_)
  refine lv_aload_n hF.1 hF.2.1 dL_law_276 rfl (lv_at hl 2 rfl) ?_
  refine lw_cM hF hJ (ts := []) (zs := []) (st := [.int (Int32.ofInt v)]) me_X11_sayings yi_X11_sayings yv_X11_sayings (js_mem 1316 (by decide +kernel) rfl) rfl rfl e2 trivial hl.1 (js_sm1 _) dL_law_277 (fun H locs hJ => ?_)
  exact lv_icmp_eq (tgt := 1347) hF.1 hF.2.1 dL_law_280 (by decide) (fun _ => next μ1 ν1 H locs hJ hR1) (fun hne => absurd rfl hne)
theorem lc_3 : lw_case 285 := by
  intro p l e s m below meth c b L xs D dA adC adM kK kV i ls hF hX hbl hL hi hl μ ν H locs hJ hR next
  obtain ⟨v, μ1, ν1, e1, e2, hR1⟩ := cl_fault μ ν hR
  refine lv_aload_n hF.1 hF.2.1 dL_law_285 rfl (lv_at hl 1 rfl) ?_
  refine lw_cC hF hJ (ts := []) (zs := []) (st := []) me_X10_fault yi_X10_fault yv_X10_fault (js_mem 694 (by decide +kernel) rfl) rfl rfl e1 trivial hl.1 js_sm0 dL_law_286 (fun H locs hJ => ?_)
  refine lv_aload_n hF.1 hF.2.1 dL_law_289 rfl (lv_at hl 2 rfl) ?_
  refine lw_cM hF hJ (ts := []) (zs := []) (st := [.int (Int32.ofInt v)]) me_X11_fault yi_X11_fault yv_X11_fault (js_mem 1331 (by decide +kernel) rfl) rfl rfl e2 trivial hl.1 (js_sm1 _) dL_law_290 (fun H locs hJ => ?_)
  exact lv_icmp_eq (tgt := 1347) hF.1 hF.2.1 dL_law_293 (by decide) (fun _ => next μ1 ν1 H locs hJ hR1) (fun hne => absurd rfl hne)
theorem lc_4 : lw_case 298 := by
  intro p l e s m below meth c b L xs D dA adC adM kK kV i ls hF hX hbl hL hi hl μ ν H locs hJ hR next
  obtain ⟨v, μ1, ν1, e1, e2, hR1⟩ := cl_count (js_r32 (xs (i + 1))) μ ν hR
  refine lv_aload_n hF.1 hF.2.1 dL_law_298 rfl (lv_at hl 1 rfl) ?_
  refine lw_arg hF hJ hX hbl hL hl (k := 1) (by omega) (by decide) dL_law_299 dL_law_300 dL_law_301 dL_law_302 dL_law_303 ?_
  refine lw_cC hF hJ (ts := [1]) (zs := [(xs (i + 1)).toInt]) (st := []) me_X10_count yi_X10_count yv_X10_count (js_mem 698 (by decide +kernel) rfl) rfl rfl e1 ⟨js_r32 _, trivial⟩ hl.1 js_sm0 dL_law_304 (fun H locs hJ => ?_)
  refine lv_aload_n hF.1 hF.2.1 dL_law_307 rfl (lv_at hl 2 rfl) ?_
  refine lw_arg hF hJ hX hbl hL hl (k := 1) (by omega) (by decide) dL_law_308 dL_law_309 dL_law_310 dL_law_311 dL_law_312 ?_
  refine lw_cM hF hJ (ts := [1]) (zs := [(xs (i + 1)).toInt]) (st := [.int (Int32.ofInt v)]) me_X11_count yi_X11_count yv_X11_count (js_mem 1335 (by decide +kernel) rfl) rfl rfl e2 ⟨js_r32 _, trivial⟩ hl.1 (js_sm1 _) dL_law_313 (fun H locs hJ => ?_)
  exact lv_icmp_eq (tgt := 1347) hF.1 hF.2.1 dL_law_316 (by decide) (fun _ => next μ1 ν1 H locs hJ hR1) (fun hne => absurd rfl hne)
theorem lc_5 : lw_case 321 := by
  intro p l e s m below meth c b L xs D dA adC adM kK kV i ls hF hX hbl hL hi hl μ ν H locs hJ hR next
  obtain ⟨v, μ1, ν1, e1, e2, hR1⟩ := cl_person (js_r32 (xs (i + 1))) (js_r32 (xs (i + 2))) μ ν hR
  refine lv_aload_n hF.1 hF.2.1 dL_law_321 rfl (lv_at hl 1 rfl) ?_
  refine lw_arg hF hJ hX hbl hL hl (k := 1) (by omega) (by decide) dL_law_322 dL_law_323 dL_law_324 dL_law_325 dL_law_326 ?_
  refine lw_arg hF hJ hX hbl hL hl (k := 2) (by omega) (by decide) dL_law_327 dL_law_328 dL_law_329 dL_law_330 dL_law_331 ?_
  refine lw_cC hF hJ (ts := [1, 1]) (zs := [(xs (i + 1)).toInt, (xs (i + 2)).toInt]) (st := []) me_X10_person yi_X10_person yv_X10_person (js_mem 712 (by decide +kernel) rfl) rfl rfl e1 ⟨js_r32 _, js_r32 _, trivial⟩ hl.1 js_sm0 dL_law_332 (fun H locs hJ => ?_)
  refine lv_aload_n hF.1 hF.2.1 dL_law_335 rfl (lv_at hl 2 rfl) ?_
  refine lw_arg hF hJ hX hbl hL hl (k := 1) (by omega) (by decide) dL_law_336 dL_law_337 dL_law_338 dL_law_339 dL_law_340 ?_
  refine lw_arg hF hJ hX hbl hL hl (k := 2) (by omega) (by decide) dL_law_341 dL_law_342 dL_law_343 dL_law_344 dL_law_345 ?_
  refine lw_cM hF hJ (ts := [1, 1]) (zs := [(xs (i + 1)).toInt, (xs (i + 2)).toInt]) (st := [.int (Int32.ofInt v)]) me_X11_person yi_X11_person yv_X11_person (js_mem 1342 (by decide +kernel) rfl) rfl rfl e2 ⟨js_r32 _, js_r32 _, trivial⟩ hl.1 (js_sm1 _) dL_law_346 (fun H locs hJ => ?_)
  exact lv_icmp_eq (tgt := 1347) hF.1 hF.2.1 dL_law_349 (by decide) (fun _ => next μ1 ν1 H locs hJ hR1) (fun hne => absurd rfl hne)
theorem lc_6 : lw_case 354 := by
  intro p l e s m below meth c b L xs D dA adC adM kK kV i ls hF hX hbl hL hi hl μ ν H locs hJ hR next
  obtain ⟨v, μ1, ν1, e1, e2, hR1⟩ := cl_tie (js_r32 (xs (i + 1))) (js_r32 (xs (i + 2))) μ ν hR
  refine lv_aload_n hF.1 hF.2.1 dL_law_354 rfl (lv_at hl 1 rfl) ?_
  refine lw_arg hF hJ hX hbl hL hl (k := 1) (by omega) (by decide) dL_law_355 dL_law_356 dL_law_357 dL_law_358 dL_law_359 ?_
  refine lw_arg hF hJ hX hbl hL hl (k := 2) (by omega) (by decide) dL_law_360 dL_law_361 dL_law_362 dL_law_363 dL_law_364 ?_
  refine lw_cC hF hJ (ts := [1, 1]) (zs := [(xs (i + 1)).toInt, (xs (i + 2)).toInt]) (st := []) me_X10_tie yi_X10_tie yv_X10_tie (js_mem 721 (by decide +kernel) rfl) rfl rfl e1 ⟨js_r32 _, js_r32 _, trivial⟩ hl.1 js_sm0 dL_law_365 (fun H locs hJ => ?_)
  refine lv_aload_n hF.1 hF.2.1 dL_law_368 rfl (lv_at hl 2 rfl) ?_
  refine lw_arg hF hJ hX hbl hL hl (k := 1) (by omega) (by decide) dL_law_369 dL_law_370 dL_law_371 dL_law_372 dL_law_373 ?_
  refine lw_arg hF hJ hX hbl hL hl (k := 2) (by omega) (by decide) dL_law_374 dL_law_375 dL_law_376 dL_law_377 dL_law_378 ?_
  refine lw_cM hF hJ (ts := [1, 1]) (zs := [(xs (i + 1)).toInt, (xs (i + 2)).toInt]) (st := [.int (Int32.ofInt v)]) me_X11_tie yi_X11_tie yv_X11_tie (js_mem 1363 (by decide +kernel) rfl) rfl rfl e2 ⟨js_r32 _, js_r32 _, trivial⟩ hl.1 (js_sm1 _) dL_law_379 (fun H locs hJ => ?_)
  exact lv_icmp_eq (tgt := 1347) hF.1 hF.2.1 dL_law_382 (by decide) (fun _ => next μ1 ν1 H locs hJ hR1) (fun hne => absurd rfl hne)
theorem lc_7 : lw_case 387 := by
  intro p l e s m below meth c b L xs D dA adC adM kK kV i ls hF hX hbl hL hi hl μ ν H locs hJ hR next
  obtain ⟨v, μ1, ν1, e1, e2, hR1⟩ := cl_saying (js_r32 (xs (i + 1))) (js_r32 (xs (i + 2))) μ ν hR
  refine lv_aload_n hF.1 hF.2.1 dL_law_387 rfl (lv_at hl 1 rfl) ?_
  refine lw_arg hF hJ hX hbl hL hl (k := 1) (by omega) (by decide) dL_law_388 dL_law_389 dL_law_390 dL_law_391 dL_law_392 ?_
  refine lw_arg hF hJ hX hbl hL hl (k := 2) (by omega) (by decide) dL_law_393 dL_law_394 dL_law_395 dL_law_396 dL_law_397 ?_
  refine lw_cC hF hJ (ts := [1, 1]) (zs := [(xs (i + 1)).toInt, (xs (i + 2)).toInt]) (st := []) me_X10_saying yi_X10_saying yv_X10_saying (js_mem 726 (by decide +kernel) rfl) rfl rfl e1 ⟨js_r32 _, js_r32 _, trivial⟩ hl.1 js_sm0 dL_law_398 (fun H locs hJ => ?_)
  refine lv_aload_n hF.1 hF.2.1 dL_law_401 rfl (lv_at hl 2 rfl) ?_
  refine lw_arg hF hJ hX hbl hL hl (k := 1) (by omega) (by decide) dL_law_402 dL_law_403 dL_law_404 dL_law_405 dL_law_406 ?_
  refine lw_arg hF hJ hX hbl hL hl (k := 2) (by omega) (by decide) dL_law_407 dL_law_408 dL_law_409 dL_law_410 dL_law_411 ?_
  refine lw_cM hF hJ (ts := [1, 1]) (zs := [(xs (i + 1)).toInt, (xs (i + 2)).toInt]) (st := [.int (Int32.ofInt v)]) me_X11_saying yi_X11_saying yv_X11_saying (js_mem 1371 (by decide +kernel) rfl) rfl rfl e2 ⟨js_r32 _, js_r32 _, trivial⟩ hl.1 (js_sm1 _) dL_law_412 (fun H locs hJ => ?_)
  exact lv_icmp_eq (tgt := 1347) hF.1 hF.2.1 dL_law_415 (by decide) (fun _ => next μ1 ν1 H locs hJ hR1) (fun hne => absurd rfl hne)
theorem lc_8 : lw_case 420 := by
  intro p l e s m below meth c b L xs D dA adC adM kK kV i ls hF hX hbl hL hi hl μ ν H locs hJ hR next
  obtain ⟨v, μ1, ν1, e1, e2, hR1⟩ := cl_pair (js_r32 (xs (i + 1))) (js_r32 (xs (i + 2))) (js_r32 (xs (i + 3))) μ ν hR
  refine lv_aload_n hF.1 hF.2.1 dL_law_420 rfl (lv_at hl 1 rfl) ?_
  refine lw_arg hF hJ hX hbl hL hl (k := 1) (by omega) (by decide) dL_law_421 dL_law_422 dL_law_423 dL_law_424 dL_law_425 ?_
  refine lw_arg hF hJ hX hbl hL hl (k := 2) (by omega) (by decide) dL_law_426 dL_law_427 dL_law_428 dL_law_429 dL_law_430 ?_
  refine lw_arg hF hJ hX hbl hL hl (k := 3) (by omega) (by decide) dL_law_431 dL_law_432 dL_law_433 dL_law_434 dL_law_435 ?_
  refine lw_cC hF hJ (ts := [1, 1, 1]) (zs := [(xs (i + 1)).toInt, (xs (i + 2)).toInt, (xs (i + 3)).toInt]) (st := []) me_X10_pair yi_X10_pair yv_X10_pair (js_mem 734 (by decide +kernel) rfl) rfl rfl e1 ⟨js_r32 _, js_r32 _, js_r32 _, trivial⟩ hl.1 js_sm0 dL_law_436 (fun H locs hJ => ?_)
  refine lv_aload_n hF.1 hF.2.1 dL_law_439 rfl (lv_at hl 2 rfl) ?_
  refine lw_arg hF hJ hX hbl hL hl (k := 1) (by omega) (by decide) dL_law_440 dL_law_441 dL_law_442 dL_law_443 dL_law_444 ?_
  refine lw_arg hF hJ hX hbl hL hl (k := 2) (by omega) (by decide) dL_law_445 dL_law_446 dL_law_447 dL_law_448 dL_law_449 ?_
  refine lw_arg hF hJ hX hbl hL hl (k := 3) (by omega) (by decide) dL_law_450 dL_law_451 dL_law_452 dL_law_453 dL_law_454 ?_
  refine lw_cM hF hJ (ts := [1, 1, 1]) (zs := [(xs (i + 1)).toInt, (xs (i + 2)).toInt, (xs (i + 3)).toInt]) (st := [.int (Int32.ofInt v)]) me_X11_pair yi_X11_pair yv_X11_pair (js_mem 1379 (by decide +kernel) rfl) rfl rfl e2 ⟨js_r32 _, js_r32 _, js_r32 _, trivial⟩ hl.1 (js_sm1 _) dL_law_455 (fun H locs hJ => ?_)
  exact lv_icmp_eq (tgt := 1347) hF.1 hF.2.1 dL_law_458 (by decide) (fun _ => next μ1 ν1 H locs hJ hR1) (fun hne => absurd rfl hne)
theorem lc_9 : lw_case 463 := by
  intro p l e s m below meth c b L xs D dA adC adM kK kV i ls hF hX hbl hL hi hl μ ν H locs hJ hR next
  obtain ⟨v, μ1, ν1, e1, e2, hR1⟩ := cl_rule (js_r32 (xs (i + 1))) (js_r32 (xs (i + 2))) μ ν hR
  refine lv_aload_n hF.1 hF.2.1 dL_law_463 rfl (lv_at hl 1 rfl) ?_
  refine lw_arg hF hJ hX hbl hL hl (k := 1) (by omega) (by decide) dL_law_464 dL_law_465 dL_law_466 dL_law_467 dL_law_468 ?_
  refine lw_arg hF hJ hX hbl hL hl (k := 2) (by omega) (by decide) dL_law_469 dL_law_470 dL_law_471 dL_law_472 dL_law_473 ?_
  refine lw_cC hF hJ (ts := [1, 1]) (zs := [(xs (i + 1)).toInt, (xs (i + 2)).toInt]) (st := []) me_X10_rule yi_X10_rule yv_X10_rule (js_mem 742 (by decide +kernel) rfl) rfl rfl e1 ⟨js_r32 _, js_r32 _, trivial⟩ hl.1 js_sm0 dL_law_474 (fun H locs hJ => ?_)
  refine lv_aload_n hF.1 hF.2.1 dL_law_477 rfl (lv_at hl 2 rfl) ?_
  refine lw_arg hF hJ hX hbl hL hl (k := 1) (by omega) (by decide) dL_law_478 dL_law_479 dL_law_480 dL_law_481 dL_law_482 ?_
  refine lw_arg hF hJ hX hbl hL hl (k := 2) (by omega) (by decide) dL_law_483 dL_law_484 dL_law_485 dL_law_486 dL_law_487 ?_
  refine lw_cM hF hJ (ts := [1, 1]) (zs := [(xs (i + 1)).toInt, (xs (i + 2)).toInt]) (st := [.int (Int32.ofInt v)]) me_X11_rule yi_X11_rule yv_X11_rule (js_mem 1391 (by decide +kernel) rfl) rfl rfl e2 ⟨js_r32 _, js_r32 _, trivial⟩ hl.1 (js_sm1 _) dL_law_488 (fun H locs hJ => ?_)
  exact lv_icmp_eq (tgt := 1347) hF.1 hF.2.1 dL_law_491 (by decide) (fun _ => next μ1 ν1 H locs hJ hR1) (fun hne => absurd rfl hne)
theorem lc_10 : lw_case 496 := by
  intro p l e s m below meth c b L xs D dA adC adM kK kV i ls hF hX hbl hL hi hl μ ν H locs hJ hR next
  obtain ⟨v, μ1, ν1, e1, e2, hR1⟩ := cl_begin (js_r32 (xs (i + 1))) (js_r32 (xs (i + 2))) μ ν hR
  refine lv_aload_n hF.1 hF.2.1 dL_law_496 rfl (lv_at hl 1 rfl) ?_
  refine lw_arg hF hJ hX hbl hL hl (k := 1) (by omega) (by decide) dL_law_497 dL_law_498 dL_law_499 dL_law_500 dL_law_501 ?_
  refine lw_arg hF hJ hX hbl hL hl (k := 2) (by omega) (by decide) dL_law_502 dL_law_503 dL_law_504 dL_law_505 dL_law_506 ?_
  refine lw_cC hF hJ (ts := [1, 1]) (zs := [(xs (i + 1)).toInt, (xs (i + 2)).toInt]) (st := []) me_X10_begin yi_X10_begin yv_X10_begin (js_mem 746 (by decide +kernel) rfl) rfl rfl e1 ⟨js_r32 _, js_r32 _, trivial⟩ hl.1 js_sm0 dL_law_507 (fun H locs hJ => ?_)
  refine lv_aload_n hF.1 hF.2.1 dL_law_510 rfl (lv_at hl 2 rfl) ?_
  refine lw_arg hF hJ hX hbl hL hl (k := 1) (by omega) (by decide) dL_law_511 dL_law_512 dL_law_513 dL_law_514 dL_law_515 ?_
  refine lw_arg hF hJ hX hbl hL hl (k := 2) (by omega) (by decide) dL_law_516 dL_law_517 dL_law_518 dL_law_519 dL_law_520 ?_
  refine lw_cM hF hJ (ts := [1, 1]) (zs := [(xs (i + 1)).toInt, (xs (i + 2)).toInt]) (st := [.int (Int32.ofInt v)]) me_X11_begin yi_X11_begin yv_X11_begin (js_mem 1397 (by decide +kernel) rfl) rfl rfl e2 ⟨js_r32 _, js_r32 _, trivial⟩ hl.1 (js_sm1 _) dL_law_521 (fun H locs hJ => ?_)
  exact lv_icmp_eq (tgt := 1347) hF.1 hF.2.1 dL_law_524 (by decide) (fun _ => next μ1 ν1 H locs hJ hR1) (fun hne => absurd rfl hne)
theorem lc_11 : lw_case 529 := by
  intro p l e s m below meth c b L xs D dA adC adM kK kV i ls hF hX hbl hL hi hl μ ν H locs hJ hR next
  obtain ⟨v, μ1, ν1, e1, e2, hR1⟩ := cl_go (js_r32 (xs (i + 1))) μ ν hR
  refine lv_aload_n hF.1 hF.2.1 dL_law_529 rfl (lv_at hl 1 rfl) ?_
  refine lw_arg hF hJ hX hbl hL hl (k := 1) (by omega) (by decide) dL_law_530 dL_law_531 dL_law_532 dL_law_533 dL_law_534 ?_
  refine lw_cC hF hJ (ts := [1]) (zs := [(xs (i + 1)).toInt]) (st := []) me_X10_go yi_X10_go yv_X10_go (js_mem 768 (by decide +kernel) rfl) rfl rfl e1 ⟨js_r32 _, trivial⟩ hl.1 js_sm0 dL_law_535 (fun H locs hJ => ?_)
  refine lv_aload_n hF.1 hF.2.1 dL_law_538 rfl (lv_at hl 2 rfl) ?_
  refine lw_arg hF hJ hX hbl hL hl (k := 1) (by omega) (by decide) dL_law_539 dL_law_540 dL_law_541 dL_law_542 dL_law_543 ?_
  refine lw_cM hF hJ (ts := [1]) (zs := [(xs (i + 1)).toInt]) (st := [.int (Int32.ofInt v)]) me_X11_go yi_X11_go yv_X11_go (js_mem 1416 (by decide +kernel) rfl) rfl rfl e2 ⟨js_r32 _, trivial⟩ hl.1 (js_sm1 _) dL_law_544 (fun H locs hJ => ?_)
  exact lv_icmp_eq (tgt := 1347) hF.1 hF.2.1 dL_law_547 (by decide) (fun _ => next μ1 ν1 H locs hJ hR1) (fun hne => absurd rfl hne)
theorem lc_12 : lw_case 552 := by
  intro p l e s m below meth c b L xs D dA adC adM kK kV i ls hF hX hbl hL hi hl μ ν H locs hJ hR next
  obtain ⟨v, μ1, ν1, e1, e2, hR1⟩ := cl_notice (js_r32 (xs (i + 1))) (js_r32 (xs (i + 2))) (js_r32 (xs (i + 3))) μ ν hR
  refine lv_aload_n hF.1 hF.2.1 dL_law_552 rfl (lv_at hl 1 rfl) ?_
  refine lw_arg hF hJ hX hbl hL hl (k := 1) (by omega) (by decide) dL_law_553 dL_law_554 dL_law_555 dL_law_556 dL_law_557 ?_
  refine lw_arg hF hJ hX hbl hL hl (k := 2) (by omega) (by decide) dL_law_558 dL_law_559 dL_law_560 dL_law_561 dL_law_562 ?_
  refine lw_arg hF hJ hX hbl hL hl (k := 3) (by omega) (by decide) dL_law_563 dL_law_564 dL_law_565 dL_law_566 dL_law_567 ?_
  refine lw_cC hF hJ (ts := [1, 1, 1]) (zs := [(xs (i + 1)).toInt, (xs (i + 2)).toInt, (xs (i + 3)).toInt]) (st := []) me_X10_notice yi_X10_notice yv_X10_notice (js_mem 825 (by decide +kernel) rfl) rfl rfl e1 ⟨js_r32 _, js_r32 _, js_r32 _, trivial⟩ hl.1 js_sm0 dL_law_568 (fun H locs hJ => ?_)
  refine lv_aload_n hF.1 hF.2.1 dL_law_571 rfl (lv_at hl 2 rfl) ?_
  refine lw_arg hF hJ hX hbl hL hl (k := 1) (by omega) (by decide) dL_law_572 dL_law_573 dL_law_574 dL_law_575 dL_law_576 ?_
  refine lw_arg hF hJ hX hbl hL hl (k := 2) (by omega) (by decide) dL_law_577 dL_law_578 dL_law_579 dL_law_580 dL_law_581 ?_
  refine lw_arg hF hJ hX hbl hL hl (k := 3) (by omega) (by decide) dL_law_582 dL_law_583 dL_law_584 dL_law_585 dL_law_586 ?_
  refine lw_cM hF hJ (ts := [1, 1, 1]) (zs := [(xs (i + 1)).toInt, (xs (i + 2)).toInt, (xs (i + 3)).toInt]) (st := [.int (Int32.ofInt v)]) me_X11_notice yi_X11_notice yv_X11_notice (js_mem 1449 (by decide +kernel) rfl) rfl rfl e2 ⟨js_r32 _, js_r32 _, js_r32 _, trivial⟩ hl.1 (js_sm1 _) dL_law_587 (fun H locs hJ => ?_)
  exact lv_icmp_eq (tgt := 1347) hF.1 hF.2.1 dL_law_590 (by decide) (fun _ => next μ1 ν1 H locs hJ hR1) (fun hne => absurd rfl hne)
theorem lc_13 : lw_case 595 := by
  intro p l e s m below meth c b L xs D dA adC adM kK kV i ls hF hX hbl hL hi hl μ ν H locs hJ hR next
  obtain ⟨v, μ1, ν1, e1, e2, hR1⟩ := cl_holds (js_r32 (xs (i + 1))) (js_r32 (xs (i + 2))) (js_r32 (xs (i + 3))) μ ν hR
  refine lv_aload_n hF.1 hF.2.1 dL_law_595 rfl (lv_at hl 1 rfl) ?_
  refine lw_arg hF hJ hX hbl hL hl (k := 1) (by omega) (by decide) dL_law_596 dL_law_597 dL_law_598 dL_law_599 dL_law_600 ?_
  refine lw_arg hF hJ hX hbl hL hl (k := 2) (by omega) (by decide) dL_law_601 dL_law_602 dL_law_603 dL_law_604 dL_law_605 ?_
  refine lw_arg hF hJ hX hbl hL hl (k := 3) (by omega) (by decide) dL_law_606 dL_law_607 dL_law_608 dL_law_609 dL_law_610 ?_
  refine lw_cC hF hJ (ts := [1, 1, 1]) (zs := [(xs (i + 1)).toInt, (xs (i + 2)).toInt, (xs (i + 3)).toInt]) (st := []) me_X10_holds yi_X10_holds yv_X10_holds (js_mem 833 (by decide +kernel) rfl) rfl rfl e1 ⟨js_r32 _, js_r32 _, js_r32 _, trivial⟩ hl.1 js_sm0 dL_law_611 (fun H locs hJ => ?_)
  refine lv_aload_n hF.1 hF.2.1 dL_law_614 rfl (lv_at hl 2 rfl) ?_
  refine lw_arg hF hJ hX hbl hL hl (k := 1) (by omega) (by decide) dL_law_615 dL_law_616 dL_law_617 dL_law_618 dL_law_619 ?_
  refine lw_arg hF hJ hX hbl hL hl (k := 2) (by omega) (by decide) dL_law_620 dL_law_621 dL_law_622 dL_law_623 dL_law_624 ?_
  refine lw_arg hF hJ hX hbl hL hl (k := 3) (by omega) (by decide) dL_law_625 dL_law_626 dL_law_627 dL_law_628 dL_law_629 ?_
  refine lw_cM hF hJ (ts := [1, 1, 1]) (zs := [(xs (i + 1)).toInt, (xs (i + 2)).toInt, (xs (i + 3)).toInt]) (st := [.int (Int32.ofInt v)]) me_X11_holds yi_X11_holds yv_X11_holds (js_mem 1458 (by decide +kernel) rfl) rfl rfl e2 ⟨js_r32 _, js_r32 _, js_r32 _, trivial⟩ hl.1 (js_sm1 _) dL_law_630 (fun H locs hJ => ?_)
  exact lv_icmp_eq (tgt := 1347) hF.1 hF.2.1 dL_law_633 (by decide) (fun _ => next μ1 ν1 H locs hJ hR1) (fun hne => absurd rfl hne)
theorem lc_14 : lw_case 638 := by
  intro p l e s m below meth c b L xs D dA adC adM kK kV i ls hF hX hbl hL hi hl μ ν H locs hJ hR next
  obtain ⟨v, μ1, ν1, e1, e2, hR1⟩ := cl_holders (js_r32 (xs (i + 1))) μ ν hR
  refine lv_aload_n hF.1 hF.2.1 dL_law_638 rfl (lv_at hl 1 rfl) ?_
  refine lw_arg hF hJ hX hbl hL hl (k := 1) (by omega) (by decide) dL_law_639 dL_law_640 dL_law_641 dL_law_642 dL_law_643 ?_
  refine lw_cC hF hJ (ts := [1]) (zs := [(xs (i + 1)).toInt]) (st := []) me_X10_holders yi_X10_holders yv_X10_holders (js_mem 841 (by decide +kernel) rfl) rfl rfl e1 ⟨js_r32 _, trivial⟩ hl.1 js_sm0 dL_law_644 (fun H locs hJ => ?_)
  refine lv_aload_n hF.1 hF.2.1 dL_law_647 rfl (lv_at hl 2 rfl) ?_
  refine lw_arg hF hJ hX hbl hL hl (k := 1) (by omega) (by decide) dL_law_648 dL_law_649 dL_law_650 dL_law_651 dL_law_652 ?_
  refine lw_cM hF hJ (ts := [1]) (zs := [(xs (i + 1)).toInt]) (st := [.int (Int32.ofInt v)]) me_X11_holders yi_X11_holders yv_X11_holders (js_mem 1462 (by decide +kernel) rfl) rfl rfl e2 ⟨js_r32 _, trivial⟩ hl.1 (js_sm1 _) dL_law_653 (fun H locs hJ => ?_)
  exact lv_icmp_eq (tgt := 1347) hF.1 hF.2.1 dL_law_656 (by decide) (fun _ => next μ1 ν1 H locs hJ hR1) (fun hne => absurd rfl hne)
theorem lc_15 : lw_case 661 := by
  intro p l e s m below meth c b L xs D dA adC adM kK kV i ls hF hX hbl hL hi hl μ ν H locs hJ hR next
  obtain ⟨v, μ1, ν1, e1, e2, hR1⟩ := cl_way (js_r32 (xs (i + 1))) (js_r32 (xs (i + 2))) (js_r32 (xs (i + 3))) μ ν hR
  refine lv_aload_n hF.1 hF.2.1 dL_law_661 rfl (lv_at hl 1 rfl) ?_
  refine lw_arg hF hJ hX hbl hL hl (k := 1) (by omega) (by decide) dL_law_662 dL_law_663 dL_law_664 dL_law_665 dL_law_666 ?_
  refine lw_arg hF hJ hX hbl hL hl (k := 2) (by omega) (by decide) dL_law_667 dL_law_668 dL_law_669 dL_law_670 dL_law_671 ?_
  refine lw_arg hF hJ hX hbl hL hl (k := 3) (by omega) (by decide) dL_law_672 dL_law_673 dL_law_674 dL_law_675 dL_law_676 ?_
  refine lw_cC hF hJ (ts := [1, 1, 1]) (zs := [(xs (i + 1)).toInt, (xs (i + 2)).toInt, (xs (i + 3)).toInt]) (st := []) me_X10_way yi_X10_way yv_X10_way (js_mem 845 (by decide +kernel) rfl) rfl rfl e1 ⟨js_r32 _, js_r32 _, js_r32 _, trivial⟩ hl.1 js_sm0 dL_law_677 (fun H locs hJ => ?_)
  refine lv_aload_n hF.1 hF.2.1 dL_law_680 rfl (lv_at hl 2 rfl) ?_
  refine lw_arg hF hJ hX hbl hL hl (k := 1) (by omega) (by decide) dL_law_681 dL_law_682 dL_law_683 dL_law_684 dL_law_685 ?_
  refine lw_arg hF hJ hX hbl hL hl (k := 2) (by omega) (by decide) dL_law_686 dL_law_687 dL_law_688 dL_law_689 dL_law_690 ?_
  refine lw_arg hF hJ hX hbl hL hl (k := 3) (by omega) (by decide) dL_law_691 dL_law_692 dL_law_693 dL_law_694 dL_law_695 ?_
  refine lw_cM hF hJ (ts := [1, 1, 1]) (zs := [(xs (i + 1)).toInt, (xs (i + 2)).toInt, (xs (i + 3)).toInt]) (st := [.int (Int32.ofInt v)]) me_X11_way yi_X11_way yv_X11_way (js_mem 1466 (by decide +kernel) rfl) rfl rfl e2 ⟨js_r32 _, js_r32 _, js_r32 _, trivial⟩ hl.1 (js_sm1 _) dL_law_696 (fun H locs hJ => ?_)
  exact lv_icmp_eq (tgt := 1347) hF.1 hF.2.1 dL_law_699 (by decide) (fun _ => next μ1 ν1 H locs hJ hR1) (fun hne => absurd rfl hne)
theorem lc_16 : lw_case 704 := by
  intro p l e s m below meth c b L xs D dA adC adM kK kV i ls hF hX hbl hL hi hl μ ν H locs hJ hR next
  obtain ⟨v, μ1, ν1, e1, e2, hR1⟩ := cl_nine (js_r32 (xs (i + 1))) (js_r32 (xs (i + 2))) (js_r32 (xs (i + 3))) μ ν hR
  refine lv_aload_n hF.1 hF.2.1 dL_law_704 rfl (lv_at hl 1 rfl) ?_
  refine lw_arg hF hJ hX hbl hL hl (k := 1) (by omega) (by decide) dL_law_705 dL_law_706 dL_law_707 dL_law_708 dL_law_709 ?_
  refine lw_arg hF hJ hX hbl hL hl (k := 2) (by omega) (by decide) dL_law_710 dL_law_711 dL_law_712 dL_law_713 dL_law_714 ?_
  refine lw_arg hF hJ hX hbl hL hl (k := 3) (by omega) (by decide) dL_law_715 dL_law_716 dL_law_717 dL_law_718 dL_law_719 ?_
  refine lw_cC hF hJ (ts := [1, 1, 1]) (zs := [(xs (i + 1)).toInt, (xs (i + 2)).toInt, (xs (i + 3)).toInt]) (st := []) me_X10_nine yi_X10_nine yv_X10_nine (js_mem 854 (by decide +kernel) rfl) rfl rfl e1 ⟨js_r32 _, js_r32 _, js_r32 _, trivial⟩ hl.1 js_sm0 dL_law_720 (fun H locs hJ => ?_)
  refine lv_aload_n hF.1 hF.2.1 dL_law_723 rfl (lv_at hl 2 rfl) ?_
  refine lw_arg hF hJ hX hbl hL hl (k := 1) (by omega) (by decide) dL_law_724 dL_law_725 dL_law_726 dL_law_727 dL_law_728 ?_
  refine lw_arg hF hJ hX hbl hL hl (k := 2) (by omega) (by decide) dL_law_729 dL_law_730 dL_law_731 dL_law_732 dL_law_733 ?_
  refine lw_arg hF hJ hX hbl hL hl (k := 3) (by omega) (by decide) dL_law_734 dL_law_735 dL_law_736 dL_law_737 dL_law_738 ?_
  refine lw_cM hF hJ (ts := [1, 1, 1]) (zs := [(xs (i + 1)).toInt, (xs (i + 2)).toInt, (xs (i + 3)).toInt]) (st := [.int (Int32.ofInt v)]) me_X11_nine yi_X11_nine yv_X11_nine (js_mem 1475 (by decide +kernel) rfl) rfl rfl e2 ⟨js_r32 _, js_r32 _, js_r32 _, trivial⟩ hl.1 (js_sm1 _) dL_law_739 (fun H locs hJ => ?_)
  exact lv_icmp_eq (tgt := 1347) hF.1 hF.2.1 dL_law_742 (by decide) (fun _ => next μ1 ν1 H locs hJ hR1) (fun hne => absurd rfl hne)
theorem lc_17 : lw_case 747 := by
  intro p l e s m below meth c b L xs D dA adC adM kK kV i ls hF hX hbl hL hi hl μ ν H locs hJ hR next
  obtain ⟨v, μ1, ν1, e1, e2, hR1⟩ := cl_below (js_r32 (xs (i + 1))) (js_r32 (xs (i + 2))) μ ν hR
  refine lv_aload_n hF.1 hF.2.1 dL_law_747 rfl (lv_at hl 1 rfl) ?_
  refine lw_arg hF hJ hX hbl hL hl (k := 1) (by omega) (by decide) dL_law_748 dL_law_749 dL_law_750 dL_law_751 dL_law_752 ?_
  refine lw_arg hF hJ hX hbl hL hl (k := 2) (by omega) (by decide) dL_law_753 dL_law_754 dL_law_755 dL_law_756 dL_law_757 ?_
  refine lw_cC hF hJ (ts := [1, 1]) (zs := [(xs (i + 1)).toInt, (xs (i + 2)).toInt]) (st := []) me_X10_below yi_X10_below yv_X10_below (js_mem 879 (by decide +kernel) rfl) rfl rfl e1 ⟨js_r32 _, js_r32 _, trivial⟩ hl.1 js_sm0 dL_law_758 (fun H locs hJ => ?_)
  refine lv_aload_n hF.1 hF.2.1 dL_law_761 rfl (lv_at hl 2 rfl) ?_
  refine lw_arg hF hJ hX hbl hL hl (k := 1) (by omega) (by decide) dL_law_762 dL_law_763 dL_law_764 dL_law_765 dL_law_766 ?_
  refine lw_arg hF hJ hX hbl hL hl (k := 2) (by omega) (by decide) dL_law_767 dL_law_768 dL_law_769 dL_law_770 dL_law_771 ?_
  refine lw_cM hF hJ (ts := [1, 1]) (zs := [(xs (i + 1)).toInt, (xs (i + 2)).toInt]) (st := [.int (Int32.ofInt v)]) me_X11_below yi_X11_below yv_X11_below (js_mem 1483 (by decide +kernel) rfl) rfl rfl e2 ⟨js_r32 _, js_r32 _, trivial⟩ hl.1 (js_sm1 _) dL_law_772 (fun H locs hJ => ?_)
  exact lv_icmp_eq (tgt := 1347) hF.1 hF.2.1 dL_law_775 (by decide) (fun _ => next μ1 ν1 H locs hJ hR1) (fun hne => absurd rfl hne)
theorem lc_18 : lw_case 780 := by
  intro p l e s m below meth c b L xs D dA adC adM kK kV i ls hF hX hbl hL hi hl μ ν H locs hJ hR next
  obtain ⟨v, μ1, ν1, e1, e2, hR1⟩ := cl_curve (js_r32 (xs (i + 1))) (js_r32 (xs (i + 2))) (js_r32 (xs (i + 3))) μ ν hR
  refine lv_aload_n hF.1 hF.2.1 dL_law_780 rfl (lv_at hl 1 rfl) ?_
  refine lw_arg hF hJ hX hbl hL hl (k := 1) (by omega) (by decide) dL_law_781 dL_law_782 dL_law_783 dL_law_784 dL_law_785 ?_
  refine lw_arg hF hJ hX hbl hL hl (k := 2) (by omega) (by decide) dL_law_786 dL_law_787 dL_law_788 dL_law_789 dL_law_790 ?_
  refine lw_arg hF hJ hX hbl hL hl (k := 3) (by omega) (by decide) dL_law_791 dL_law_792 dL_law_793 dL_law_794 dL_law_795 ?_
  refine lw_cC hF hJ (ts := [1, 1, 1]) (zs := [(xs (i + 1)).toInt, (xs (i + 2)).toInt, (xs (i + 3)).toInt]) (st := []) me_X10_curve yi_X10_curve yv_X10_curve (js_mem 887 (by decide +kernel) rfl) rfl rfl e1 ⟨js_r32 _, js_r32 _, js_r32 _, trivial⟩ hl.1 js_sm0 dL_law_796 (fun H locs hJ => ?_)
  refine lv_aload_n hF.1 hF.2.1 dL_law_799 rfl (lv_at hl 2 rfl) ?_
  refine lw_arg hF hJ hX hbl hL hl (k := 1) (by omega) (by decide) dL_law_800 dL_law_801 dL_law_802 dL_law_803 dL_law_804 ?_
  refine lw_arg hF hJ hX hbl hL hl (k := 2) (by omega) (by decide) dL_law_805 dL_law_806 dL_law_807 dL_law_808 dL_law_809 ?_
  refine lw_arg hF hJ hX hbl hL hl (k := 3) (by omega) (by decide) dL_law_810 dL_law_811 dL_law_812 dL_law_813 dL_law_814 ?_
  refine lw_cM hF hJ (ts := [1, 1, 1]) (zs := [(xs (i + 1)).toInt, (xs (i + 2)).toInt, (xs (i + 3)).toInt]) (st := [.int (Int32.ofInt v)]) me_X11_curve yi_X11_curve yv_X11_curve (js_mem 1487 (by decide +kernel) rfl) rfl rfl e2 ⟨js_r32 _, js_r32 _, js_r32 _, trivial⟩ hl.1 (js_sm1 _) dL_law_815 (fun H locs hJ => ?_)
  exact lv_icmp_eq (tgt := 1347) hF.1 hF.2.1 dL_law_818 (by decide) (fun _ => next μ1 ν1 H locs hJ hR1) (fun hne => absurd rfl hne)
theorem lc_19 : lw_case 823 := by
  intro p l e s m below meth c b L xs D dA adC adM kK kV i ls hF hX hbl hL hi hl μ ν H locs hJ hR next
  obtain ⟨v, μ1, ν1, e1, e2, hR1⟩ := cl_fresh μ ν hR
  refine lv_aload_n hF.1 hF.2.1 dL_law_823 rfl (lv_at hl 1 rfl) ?_
  refine lw_cC hF hJ (ts := []) (zs := []) (st := []) me_X10_fresh yi_X10_fresh yv_X10_fresh (js_mem 900 (by decide +kernel) rfl) rfl rfl e1 trivial hl.1 js_sm0 dL_law_824 (fun H locs hJ => ?_)
  refine lv_aload_n hF.1 hF.2.1 dL_law_827 rfl (lv_at hl 2 rfl) ?_
  refine lw_cM hF hJ (ts := []) (zs := []) (st := [.int (Int32.ofInt v)]) me_X11_fresh yi_X11_fresh yv_X11_fresh (js_mem 1500 (by decide +kernel) rfl) rfl rfl e2 trivial hl.1 (js_sm1 _) dL_law_828 (fun H locs hJ => ?_)
  exact lv_icmp_eq (tgt := 1347) hF.1 hF.2.1 dL_law_831 (by decide) (fun _ => next μ1 ν1 H locs hJ hR1) (fun hne => absurd rfl hne)
theorem lc_20 : lw_case 836 := by
  intro p l e s m below meth c b L xs D dA adC adM kK kV i ls hF hX hbl hL hi hl μ ν H locs hJ hR next
  obtain ⟨v, μ1, ν1, e1, e2, hR1⟩ := cl_ask (js_r32 (xs (i + 1))) (js_r32 (xs (i + 2))) (js_r32 (xs (i + 3))) μ ν hR
  refine lv_aload_n hF.1 hF.2.1 dL_law_836 rfl (lv_at hl 1 rfl) ?_
  refine lw_arg hF hJ hX hbl hL hl (k := 1) (by omega) (by decide) dL_law_837 dL_law_838 dL_law_839 dL_law_840 dL_law_841 ?_
  refine lw_arg hF hJ hX hbl hL hl (k := 2) (by omega) (by decide) dL_law_842 dL_law_843 dL_law_844 dL_law_845 dL_law_846 ?_
  refine lw_arg hF hJ hX hbl hL hl (k := 3) (by omega) (by decide) dL_law_847 dL_law_848 dL_law_849 dL_law_850 dL_law_851 ?_
  refine lw_cC hF hJ (ts := [1, 1, 1]) (zs := [(xs (i + 1)).toInt, (xs (i + 2)).toInt, (xs (i + 3)).toInt]) (st := []) me_X10_ask yi_X10_ask yv_X10_ask (js_mem 904 (by decide +kernel) rfl) rfl rfl e1 ⟨js_r32 _, js_r32 _, js_r32 _, trivial⟩ hl.1 js_sm0 dL_law_852 (fun H locs hJ => ?_)
  refine lv_aload_n hF.1 hF.2.1 dL_law_855 rfl (lv_at hl 2 rfl) ?_
  refine lw_arg hF hJ hX hbl hL hl (k := 1) (by omega) (by decide) dL_law_856 dL_law_857 dL_law_858 dL_law_859 dL_law_860 ?_
  refine lw_arg hF hJ hX hbl hL hl (k := 2) (by omega) (by decide) dL_law_861 dL_law_862 dL_law_863 dL_law_864 dL_law_865 ?_
  refine lw_arg hF hJ hX hbl hL hl (k := 3) (by omega) (by decide) dL_law_866 dL_law_867 dL_law_868 dL_law_869 dL_law_870 ?_
  refine lw_cM hF hJ (ts := [1, 1, 1]) (zs := [(xs (i + 1)).toInt, (xs (i + 2)).toInt, (xs (i + 3)).toInt]) (st := [.int (Int32.ofInt v)]) me_X11_ask yi_X11_ask yv_X11_ask (js_mem 1504 (by decide +kernel) rfl) rfl rfl e2 ⟨js_r32 _, js_r32 _, js_r32 _, trivial⟩ hl.1 (js_sm1 _) dL_law_871 (fun H locs hJ => ?_)
  exact lv_icmp_eq (tgt := 1347) hF.1 hF.2.1 dL_law_874 (by decide) (fun _ => next μ1 ν1 H locs hJ hR1) (fun hne => absurd rfl hne)
theorem lc_21 : lw_case 879 := by
  intro p l e s m below meth c b L xs D dA adC adM kK kV i ls hF hX hbl hL hi hl μ ν H locs hJ hR next
  obtain ⟨v, μ1, ν1, e1, e2, hR1⟩ := cl_forget μ ν hR
  refine lv_aload_n hF.1 hF.2.1 dL_law_879 rfl (lv_at hl 1 rfl) ?_
  refine lw_cC hF hJ (ts := []) (zs := []) (st := []) me_X10_forget yi_X10_forget yv_X10_forget (js_mem 913 (by decide +kernel) rfl) rfl rfl e1 trivial hl.1 js_sm0 dL_law_880 (fun H locs hJ => ?_)
  refine lv_aload_n hF.1 hF.2.1 dL_law_883 rfl (lv_at hl 2 rfl) ?_
  refine lw_cM hF hJ (ts := []) (zs := []) (st := [.int (Int32.ofInt v)]) me_X11_forget yi_X11_forget yv_X11_forget (js_mem 1509 (by decide +kernel) rfl) rfl rfl e2 trivial hl.1 (js_sm1 _) dL_law_884 (fun H locs hJ => ?_)
  exact lv_icmp_eq (tgt := 1347) hF.1 hF.2.1 dL_law_887 (by decide) (fun _ => next μ1 ν1 H locs hJ hR1) (fun hne => absurd rfl hne)
theorem lc_22 : lw_case 892 := by
  intro p l e s m below meth c b L xs D dA adC adM kK kV i ls hF hX hbl hL hi hl μ ν H locs hJ hR next
  obtain ⟨v, μ1, ν1, e1, e2, hR1⟩ := cl_end (js_r32 (xs (i + 1))) μ ν hR
  refine lv_aload_n hF.1 hF.2.1 dL_law_892 rfl (lv_at hl 1 rfl) ?_
  refine lw_arg hF hJ hX hbl hL hl (k := 1) (by omega) (by decide) dL_law_893 dL_law_894 dL_law_895 dL_law_896 dL_law_897 ?_
  refine lw_cC hF hJ (ts := [1]) (zs := [(xs (i + 1)).toInt]) (st := []) me_X10_end yi_X10_end yv_X10_end (js_mem 917 (by decide +kernel) rfl) rfl rfl e1 ⟨js_r32 _, trivial⟩ hl.1 js_sm0 dL_law_898 (fun H locs hJ => ?_)
  refine lv_aload_n hF.1 hF.2.1 dL_law_901 rfl (lv_at hl 2 rfl) ?_
  refine lw_arg hF hJ hX hbl hL hl (k := 1) (by omega) (by decide) dL_law_902 dL_law_903 dL_law_904 dL_law_905 dL_law_906 ?_
  refine lw_cM hF hJ (ts := [1]) (zs := [(xs (i + 1)).toInt]) (st := [.int (Int32.ofInt v)]) me_X11_end yi_X11_end yv_X11_end (js_mem 1513 (by decide +kernel) rfl) rfl rfl e2 ⟨js_r32 _, trivial⟩ hl.1 (js_sm1 _) dL_law_907 (fun H locs hJ => ?_)
  exact lv_icmp_eq (tgt := 1347) hF.1 hF.2.1 dL_law_910 (by decide) (fun _ => next μ1 ν1 H locs hJ hR1) (fun hne => absurd rfl hne)
theorem lc_23 : lw_case 915 := by
  intro p l e s m below meth c b L xs D dA adC adM kK kV i ls hF hX hbl hL hi hl μ ν H locs hJ hR next
  obtain ⟨v, μ1, ν1, e1, e2, hR1⟩ := cl_who (js_r32 (xs (i + 1))) μ ν hR
  refine lv_aload_n hF.1 hF.2.1 dL_law_915 rfl (lv_at hl 1 rfl) ?_
  refine lw_arg hF hJ hX hbl hL hl (k := 1) (by omega) (by decide) dL_law_916 dL_law_917 dL_law_918 dL_law_919 dL_law_920 ?_
  refine lw_cC hF hJ (ts := [1]) (zs := [(xs (i + 1)).toInt]) (st := []) me_X10_who yi_X10_who yv_X10_who (js_mem 930 (by decide +kernel) rfl) rfl rfl e1 ⟨js_r32 _, trivial⟩ hl.1 js_sm0 dL_law_921 (fun H locs hJ => ?_)
  refine lv_aload_n hF.1 hF.2.1 dL_law_924 rfl (lv_at hl 2 rfl) ?_
  refine lw_arg hF hJ hX hbl hL hl (k := 1) (by omega) (by decide) dL_law_925 dL_law_926 dL_law_927 dL_law_928 dL_law_929 ?_
  refine lw_cM hF hJ (ts := [1]) (zs := [(xs (i + 1)).toInt]) (st := [.int (Int32.ofInt v)]) me_X11_who yi_X11_who yv_X11_who (js_mem 1521 (by decide +kernel) rfl) rfl rfl e2 ⟨js_r32 _, trivial⟩ hl.1 (js_sm1 _) dL_law_930 (fun H locs hJ => ?_)
  exact lv_icmp_eq (tgt := 1347) hF.1 hF.2.1 dL_law_933 (by decide) (fun _ => next μ1 ν1 H locs hJ hR1) (fun hne => absurd rfl hne)
theorem lc_24 : lw_case 938 := by
  intro p l e s m below meth c b L xs D dA adC adM kK kV i ls hF hX hbl hL hi hl μ ν H locs hJ hR next
  obtain ⟨v, μ1, ν1, e1, e2, hR1⟩ := cl_best (js_r32 (xs (i + 1))) (js_r32 (xs (i + 2))) (js_r32 (xs (i + 3))) (js_r32 (xs (i + 4))) μ ν hR
  refine lv_aload_n hF.1 hF.2.1 dL_law_938 rfl (lv_at hl 1 rfl) ?_
  refine lw_arg hF hJ hX hbl hL hl (k := 1) (by omega) (by decide) dL_law_939 dL_law_940 dL_law_941 dL_law_942 dL_law_943 ?_
  refine lw_arg hF hJ hX hbl hL hl (k := 2) (by omega) (by decide) dL_law_944 dL_law_945 dL_law_946 dL_law_947 dL_law_948 ?_
  refine lw_arg hF hJ hX hbl hL hl (k := 3) (by omega) (by decide) dL_law_949 dL_law_950 dL_law_951 dL_law_952 dL_law_953 ?_
  refine lw_arg hF hJ hX hbl hL hl (k := 4) (by omega) (by decide) dL_law_954 dL_law_955 dL_law_956 dL_law_957 dL_law_958 ?_
  refine lw_cC hF hJ (ts := [1, 1, 1, 1]) (zs := [(xs (i + 1)).toInt, (xs (i + 2)).toInt, (xs (i + 3)).toInt, (xs (i + 4)).toInt]) (st := []) me_X10_best yi_X10_best yv_X10_best (js_mem 951 (by decide +kernel) rfl) rfl rfl e1 ⟨js_r32 _, js_r32 _, js_r32 _, js_r32 _, trivial⟩ hl.1 js_sm0 dL_law_959 (fun H locs hJ => ?_)
  refine lv_aload_n hF.1 hF.2.1 dL_law_962 rfl (lv_at hl 2 rfl) ?_
  refine lw_arg hF hJ hX hbl hL hl (k := 1) (by omega) (by decide) dL_law_963 dL_law_964 dL_law_965 dL_law_966 dL_law_967 ?_
  refine lw_arg hF hJ hX hbl hL hl (k := 2) (by omega) (by decide) dL_law_968 dL_law_969 dL_law_970 dL_law_971 dL_law_972 ?_
  refine lw_arg hF hJ hX hbl hL hl (k := 3) (by omega) (by decide) dL_law_973 dL_law_974 dL_law_975 dL_law_976 dL_law_977 ?_
  refine lw_arg hF hJ hX hbl hL hl (k := 4) (by omega) (by decide) dL_law_978 dL_law_979 dL_law_980 dL_law_981 dL_law_982 ?_
  refine lw_cM hF hJ (ts := [1, 1, 1, 1]) (zs := [(xs (i + 1)).toInt, (xs (i + 2)).toInt, (xs (i + 3)).toInt, (xs (i + 4)).toInt]) (st := [.int (Int32.ofInt v)]) me_X11_best yi_X11_best yv_X11_best (js_mem 1529 (by decide +kernel) rfl) rfl rfl e2 ⟨js_r32 _, js_r32 _, js_r32 _, js_r32 _, trivial⟩ hl.1 (js_sm1 _) dL_law_983 (fun H locs hJ => ?_)
  exact lv_icmp_eq (tgt := 1347) hF.1 hF.2.1 dL_law_986 (by decide) (fun _ => next μ1 ν1 H locs hJ hR1) (fun hne => absurd rfl hne)
theorem lc_25 : lw_case 991 := by
  intro p l e s m below meth c b L xs D dA adC adM kK kV i ls hF hX hbl hL hi hl μ ν H locs hJ hR next
  obtain ⟨v, μ1, ν1, e1, e2, hR1⟩ := cl_reach (js_r32 (xs (i + 1))) (js_r32 (xs (i + 2))) (js_r32 (xs (i + 3))) μ ν hR
  refine lv_aload_n hF.1 hF.2.1 dL_law_991 rfl (lv_at hl 1 rfl) ?_
  refine lw_arg hF hJ hX hbl hL hl (k := 1) (by omega) (by decide) dL_law_992 dL_law_993 dL_law_994 dL_law_995 dL_law_996 ?_
  refine lw_arg hF hJ hX hbl hL hl (k := 2) (by omega) (by decide) dL_law_997 dL_law_998 dL_law_999 dL_law_1000 dL_law_1001 ?_
  refine lw_arg hF hJ hX hbl hL hl (k := 3) (by omega) (by decide) dL_law_1002 dL_law_1003 dL_law_1004 dL_law_1005 dL_law_1006 ?_
  refine lw_cC hF hJ (ts := [1, 1, 1]) (zs := [(xs (i + 1)).toInt, (xs (i + 2)).toInt, (xs (i + 3)).toInt]) (st := []) me_X10_reach yi_X10_reach yv_X10_reach (js_mem 964 (by decide +kernel) rfl) rfl rfl e1 ⟨js_r32 _, js_r32 _, js_r32 _, trivial⟩ hl.1 js_sm0 dL_law_1007 (fun H locs hJ => ?_)
  refine lv_aload_n hF.1 hF.2.1 dL_law_1010 rfl (lv_at hl 2 rfl) ?_
  refine lw_arg hF hJ hX hbl hL hl (k := 1) (by omega) (by decide) dL_law_1011 dL_law_1012 dL_law_1013 dL_law_1014 dL_law_1015 ?_
  refine lw_arg hF hJ hX hbl hL hl (k := 2) (by omega) (by decide) dL_law_1016 dL_law_1017 dL_law_1018 dL_law_1019 dL_law_1020 ?_
  refine lw_arg hF hJ hX hbl hL hl (k := 3) (by omega) (by decide) dL_law_1021 dL_law_1022 dL_law_1023 dL_law_1024 dL_law_1025 ?_
  refine lw_cM hF hJ (ts := [1, 1, 1]) (zs := [(xs (i + 1)).toInt, (xs (i + 2)).toInt, (xs (i + 3)).toInt]) (st := [.int (Int32.ofInt v)]) me_X11_reach yi_X11_reach yv_X11_reach (js_mem 1538 (by decide +kernel) rfl) rfl rfl e2 ⟨js_r32 _, js_r32 _, js_r32 _, trivial⟩ hl.1 (js_sm1 _) dL_law_1026 (fun H locs hJ => ?_)
  exact lv_icmp_eq (tgt := 1347) hF.1 hF.2.1 dL_law_1029 (by decide) (fun _ => next μ1 ν1 H locs hJ hR1) (fun hne => absurd rfl hne)
theorem lc_26 : lw_case 1034 := by
  intro p l e s m below meth c b L xs D dA adC adM kK kV i ls hF hX hbl hL hi hl μ ν H locs hJ hR next
  obtain ⟨v, μ1, ν1, e1, e2, hR1⟩ := cl_many (js_r32 (xs (i + 1))) (js_r32 (xs (i + 2))) μ ν hR
  refine lv_aload_n hF.1 hF.2.1 dL_law_1034 rfl (lv_at hl 1 rfl) ?_
  refine lw_arg hF hJ hX hbl hL hl (k := 1) (by omega) (by decide) dL_law_1035 dL_law_1036 dL_law_1037 dL_law_1038 dL_law_1039 ?_
  refine lw_arg hF hJ hX hbl hL hl (k := 2) (by omega) (by decide) dL_law_1040 dL_law_1041 dL_law_1042 dL_law_1043 dL_law_1044 ?_
  refine lw_cC hF hJ (ts := [1, 1]) (zs := [(xs (i + 1)).toInt, (xs (i + 2)).toInt]) (st := []) me_X10_many yi_X10_many yv_X10_many (js_mem 1011 (by decide +kernel) rfl) rfl rfl e1 ⟨js_r32 _, js_r32 _, trivial⟩ hl.1 js_sm0 dL_law_1045 (fun H locs hJ => ?_)
  refine lv_aload_n hF.1 hF.2.1 dL_law_1048 rfl (lv_at hl 2 rfl) ?_
  refine lw_arg hF hJ hX hbl hL hl (k := 1) (by omega) (by decide) dL_law_1049 dL_law_1050 dL_law_1051 dL_law_1052 dL_law_1053 ?_
  refine lw_arg hF hJ hX hbl hL hl (k := 2) (by omega) (by decide) dL_law_1054 dL_law_1055 dL_law_1056 dL_law_1057 dL_law_1058 ?_
  refine lw_cM hF hJ (ts := [1, 1]) (zs := [(xs (i + 1)).toInt, (xs (i + 2)).toInt]) (st := [.int (Int32.ofInt v)]) me_X11_many yi_X11_many yv_X11_many (js_mem 1568 (by decide +kernel) rfl) rfl rfl e2 ⟨js_r32 _, js_r32 _, trivial⟩ hl.1 (js_sm1 _) dL_law_1059 (fun H locs hJ => ?_)
  exact lv_icmp_eq (tgt := 1347) hF.1 hF.2.1 dL_law_1062 (by decide) (fun _ => next μ1 ν1 H locs hJ hR1) (fun hne => absurd rfl hne)
theorem lc_27 : lw_case 1067 := by
  intro p l e s m below meth c b L xs D dA adC adM kK kV i ls hF hX hbl hL hi hl μ ν H locs hJ hR next
  obtain ⟨v, μ1, ν1, e1, e2, hR1⟩ := cl_began (js_r32 (xs (i + 1))) (js_r32 (xs (i + 2))) (js_r32 (xs (i + 3))) μ ν hR
  refine lv_aload_n hF.1 hF.2.1 dL_law_1067 rfl (lv_at hl 1 rfl) ?_
  refine lw_arg hF hJ hX hbl hL hl (k := 1) (by omega) (by decide) dL_law_1068 dL_law_1069 dL_law_1070 dL_law_1071 dL_law_1072 ?_
  refine lw_arg hF hJ hX hbl hL hl (k := 2) (by omega) (by decide) dL_law_1073 dL_law_1074 dL_law_1075 dL_law_1076 dL_law_1077 ?_
  refine lw_arg hF hJ hX hbl hL hl (k := 3) (by omega) (by decide) dL_law_1078 dL_law_1079 dL_law_1080 dL_law_1081 dL_law_1082 ?_
  refine lw_cC hF hJ (ts := [1, 1, 1]) (zs := [(xs (i + 1)).toInt, (xs (i + 2)).toInt, (xs (i + 3)).toInt]) (st := []) me_X10_began yi_X10_began yv_X10_began (js_mem 1021 (by decide +kernel) rfl) rfl rfl e1 ⟨js_r32 _, js_r32 _, js_r32 _, trivial⟩ hl.1 js_sm0 dL_law_1083 (fun H locs hJ => ?_)
  refine lv_aload_n hF.1 hF.2.1 dL_law_1086 rfl (lv_at hl 2 rfl) ?_
  refine lw_arg hF hJ hX hbl hL hl (k := 1) (by omega) (by decide) dL_law_1087 dL_law_1088 dL_law_1089 dL_law_1090 dL_law_1091 ?_
  refine lw_arg hF hJ hX hbl hL hl (k := 2) (by omega) (by decide) dL_law_1092 dL_law_1093 dL_law_1094 dL_law_1095 dL_law_1096 ?_
  refine lw_arg hF hJ hX hbl hL hl (k := 3) (by omega) (by decide) dL_law_1097 dL_law_1098 dL_law_1099 dL_law_1100 dL_law_1101 ?_
  refine lw_cM hF hJ (ts := [1, 1, 1]) (zs := [(xs (i + 1)).toInt, (xs (i + 2)).toInt, (xs (i + 3)).toInt]) (st := [.int (Int32.ofInt v)]) me_X11_began yi_X11_began yv_X11_began (js_mem 1581 (by decide +kernel) rfl) rfl rfl e2 ⟨js_r32 _, js_r32 _, js_r32 _, trivial⟩ hl.1 (js_sm1 _) dL_law_1102 (fun H locs hJ => ?_)
  exact lv_icmp_eq (tgt := 1347) hF.1 hF.2.1 dL_law_1105 (by decide) (fun _ => next μ1 ν1 H locs hJ hR1) (fun hne => absurd rfl hne)
theorem lc_28 : lw_case 1110 := by
  intro p l e s m below meth c b L xs D dA adC adM kK kV i ls hF hX hbl hL hi hl μ ν H locs hJ hR next
  obtain ⟨v, μ1, ν1, e1, e2, hR1⟩ := cl_speak (js_r32 (xs (i + 1))) (js_r32 (xs (i + 2))) μ ν hR
  refine lv_aload_n hF.1 hF.2.1 dL_law_1110 rfl (lv_at hl 1 rfl) ?_
  refine lw_arg hF hJ hX hbl hL hl (k := 1) (by omega) (by decide) dL_law_1111 dL_law_1112 dL_law_1113 dL_law_1114 dL_law_1115 ?_
  refine lw_arg hF hJ hX hbl hL hl (k := 2) (by omega) (by decide) dL_law_1116 dL_law_1117 dL_law_1118 dL_law_1119 dL_law_1120 ?_
  refine lw_cC hF hJ (ts := [1, 1]) (zs := [(xs (i + 1)).toInt, (xs (i + 2)).toInt]) (st := []) me_X10_speak yi_X10_speak yv_X10_speak (js_mem 1029 (by decide +kernel) rfl) rfl rfl e1 ⟨js_r32 _, js_r32 _, trivial⟩ hl.1 js_sm0 dL_law_1121 (fun H locs hJ => ?_)
  refine lv_aload_n hF.1 hF.2.1 dL_law_1124 rfl (lv_at hl 2 rfl) ?_
  refine lw_arg hF hJ hX hbl hL hl (k := 1) (by omega) (by decide) dL_law_1125 dL_law_1126 dL_law_1127 dL_law_1128 dL_law_1129 ?_
  refine lw_arg hF hJ hX hbl hL hl (k := 2) (by omega) (by decide) dL_law_1130 dL_law_1131 dL_law_1132 dL_law_1133 dL_law_1134 ?_
  refine lw_cM hF hJ (ts := [1, 1]) (zs := [(xs (i + 1)).toInt, (xs (i + 2)).toInt]) (st := [.int (Int32.ofInt v)]) me_X11_speak yi_X11_speak yv_X11_speak (js_mem 1585 (by decide +kernel) rfl) rfl rfl e2 ⟨js_r32 _, js_r32 _, trivial⟩ hl.1 (js_sm1 _) dL_law_1135 (fun H locs hJ => ?_)
  exact lv_icmp_eq (tgt := 1347) hF.1 hF.2.1 dL_law_1138 (by decide) (fun _ => next μ1 ν1 H locs hJ hR1) (fun hne => absurd rfl hne)
theorem lc_29 : lw_case 1143 := by
  intro p l e s m below meth c b L xs D dA adC adM kK kV i ls hF hX hbl hL hi hl μ ν H locs hJ hR next
  obtain ⟨v, μ1, ν1, e1, e2, hR1⟩ := cl_road (js_r32 (xs (i + 1))) (js_r32 (xs (i + 2))) (js_r32 (xs (i + 3))) μ ν hR
  refine lv_aload_n hF.1 hF.2.1 dL_law_1143 rfl (lv_at hl 1 rfl) ?_
  refine lw_arg hF hJ hX hbl hL hl (k := 1) (by omega) (by decide) dL_law_1144 dL_law_1145 dL_law_1146 dL_law_1147 dL_law_1148 ?_
  refine lw_arg hF hJ hX hbl hL hl (k := 2) (by omega) (by decide) dL_law_1149 dL_law_1150 dL_law_1151 dL_law_1152 dL_law_1153 ?_
  refine lw_arg hF hJ hX hbl hL hl (k := 3) (by omega) (by decide) dL_law_1154 dL_law_1155 dL_law_1156 dL_law_1157 dL_law_1158 ?_
  refine lw_cC hF hJ (ts := [1, 1, 1]) (zs := [(xs (i + 1)).toInt, (xs (i + 2)).toInt, (xs (i + 3)).toInt]) (st := []) me_X10_road yi_X10_road yv_X10_road (js_mem 1038 (by decide +kernel) rfl) rfl rfl e1 ⟨js_r32 _, js_r32 _, js_r32 _, trivial⟩ hl.1 js_sm0 dL_law_1159 (fun H locs hJ => ?_)
  refine lv_aload_n hF.1 hF.2.1 dL_law_1162 rfl (lv_at hl 2 rfl) ?_
  refine lw_arg hF hJ hX hbl hL hl (k := 1) (by omega) (by decide) dL_law_1163 dL_law_1164 dL_law_1165 dL_law_1166 dL_law_1167 ?_
  refine lw_arg hF hJ hX hbl hL hl (k := 2) (by omega) (by decide) dL_law_1168 dL_law_1169 dL_law_1170 dL_law_1171 dL_law_1172 ?_
  refine lw_arg hF hJ hX hbl hL hl (k := 3) (by omega) (by decide) dL_law_1173 dL_law_1174 dL_law_1175 dL_law_1176 dL_law_1177 ?_
  refine lw_cM hF hJ (ts := [1, 1, 1]) (zs := [(xs (i + 1)).toInt, (xs (i + 2)).toInt, (xs (i + 3)).toInt]) (st := [.int (Int32.ofInt v)]) me_X11_road yi_X11_road yv_X11_road (js_mem 1589 (by decide +kernel) rfl) rfl rfl e2 ⟨js_r32 _, js_r32 _, js_r32 _, trivial⟩ hl.1 (js_sm1 _) dL_law_1178 (fun H locs hJ => ?_)
  exact lv_icmp_eq (tgt := 1347) hF.1 hF.2.1 dL_law_1181 (by decide) (fun _ => next μ1 ν1 H locs hJ hR1) (fun hne => absurd rfl hne)
theorem lc_30 : lw_case 1186 := by
  intro p l e s m below meth c b L xs D dA adC adM kK kV i ls hF hX hbl hL hi hl μ ν H locs hJ hR next
  obtain ⟨v, μ1, ν1, e1, e2, hR1⟩ := cl_report (js_r32 (xs (i + 1))) (js_r32 (xs (i + 2))) μ ν hR
  refine lv_aload_n hF.1 hF.2.1 dL_law_1186 rfl (lv_at hl 1 rfl) ?_
  refine lw_arg hF hJ hX hbl hL hl (k := 1) (by omega) (by decide) dL_law_1187 dL_law_1188 dL_law_1189 dL_law_1190 dL_law_1191 ?_
  refine lw_arg hF hJ hX hbl hL hl (k := 2) (by omega) (by decide) dL_law_1192 dL_law_1193 dL_law_1194 dL_law_1195 dL_law_1196 ?_
  refine lw_cC hF hJ (ts := [1, 1]) (zs := [(xs (i + 1)).toInt, (xs (i + 2)).toInt]) (st := []) me_X10_report yi_X10_report yv_X10_report (js_mem 1049 (by decide +kernel) rfl) rfl rfl e1 ⟨js_r32 _, js_r32 _, trivial⟩ hl.1 js_sm0 dL_law_1197 (fun H locs hJ => ?_)
  refine lv_aload_n hF.1 hF.2.1 dL_law_1200 rfl (lv_at hl 2 rfl) ?_
  refine lw_arg hF hJ hX hbl hL hl (k := 1) (by omega) (by decide) dL_law_1201 dL_law_1202 dL_law_1203 dL_law_1204 dL_law_1205 ?_
  refine lw_arg hF hJ hX hbl hL hl (k := 2) (by omega) (by decide) dL_law_1206 dL_law_1207 dL_law_1208 dL_law_1209 dL_law_1210 ?_
  refine lw_cM hF hJ (ts := [1, 1]) (zs := [(xs (i + 1)).toInt, (xs (i + 2)).toInt]) (st := [.int (Int32.ofInt v)]) me_X11_report yi_X11_report yv_X11_report (js_mem 1598 (by decide +kernel) rfl) rfl rfl e2 ⟨js_r32 _, js_r32 _, trivial⟩ hl.1 (js_sm1 _) dL_law_1211 (fun H locs hJ => ?_)
  exact lv_icmp_eq (tgt := 1347) hF.1 hF.2.1 dL_law_1214 (by decide) (fun _ => next μ1 ν1 H locs hJ hR1) (fun hne => absurd rfl hne)
theorem lc_31 : lw_case 1219 := by
  intro p l e s m below meth c b L xs D dA adC adM kK kV i ls hF hX hbl hL hi hl μ ν H locs hJ hR next
  obtain ⟨v, μ1, ν1, e1, e2, hR1⟩ := cl_silence μ ν hR
  refine lv_aload_n hF.1 hF.2.1 dL_law_1219 rfl (lv_at hl 1 rfl) ?_
  refine lw_cC hF hJ (ts := []) (zs := []) (st := []) me_X10_silence yi_X10_silence yv_X10_silence (js_mem 1057 (by decide +kernel) rfl) rfl rfl e1 trivial hl.1 js_sm0 dL_law_1220 (fun H locs hJ => ?_)
  refine lv_aload_n hF.1 hF.2.1 dL_law_1223 rfl (lv_at hl 2 rfl) ?_
  refine lw_cM hF hJ (ts := []) (zs := []) (st := [.int (Int32.ofInt v)]) me_X11_silence yi_X11_silence yv_X11_silence (js_mem 1603 (by decide +kernel) rfl) rfl rfl e2 trivial hl.1 (js_sm1 _) dL_law_1224 (fun H locs hJ => ?_)
  exact lv_icmp_eq (tgt := 1347) hF.1 hF.2.1 dL_law_1227 (by decide) (fun _ => next μ1 ν1 H locs hJ hR1) (fun hne => absurd rfl hne)
theorem lc_32 : lw_case 1232 := by
  intro p l e s m below meth c b L xs D dA adC adM kK kV i ls hF hX hbl hL hi hl μ ν H locs hJ hR next
  obtain ⟨v, μ1, ν1, e1, e2, hR1⟩ := cl_source (js_r32 (xs (i + 1))) (js_r32 (xs (i + 2))) μ ν hR
  refine lv_aload_n hF.1 hF.2.1 dL_law_1232 rfl (lv_at hl 1 rfl) ?_
  refine lw_arg hF hJ hX hbl hL hl (k := 1) (by omega) (by decide) dL_law_1233 dL_law_1234 dL_law_1235 dL_law_1236 dL_law_1237 ?_
  refine lw_arg hF hJ hX hbl hL hl (k := 2) (by omega) (by decide) dL_law_1238 dL_law_1239 dL_law_1240 dL_law_1241 dL_law_1242 ?_
  refine lw_cC hF hJ (ts := [1, 1]) (zs := [(xs (i + 1)).toInt, (xs (i + 2)).toInt]) (st := []) me_X10_source yi_X10_source yv_X10_source (js_mem 1065 (by decide +kernel) rfl) rfl rfl e1 ⟨js_r32 _, js_r32 _, trivial⟩ hl.1 js_sm0 dL_law_1243 (fun H locs hJ => ?_)
  refine lv_aload_n hF.1 hF.2.1 dL_law_1246 rfl (lv_at hl 2 rfl) ?_
  refine lw_arg hF hJ hX hbl hL hl (k := 1) (by omega) (by decide) dL_law_1247 dL_law_1248 dL_law_1249 dL_law_1250 dL_law_1251 ?_
  refine lw_arg hF hJ hX hbl hL hl (k := 2) (by omega) (by decide) dL_law_1252 dL_law_1253 dL_law_1254 dL_law_1255 dL_law_1256 ?_
  refine lw_cM hF hJ (ts := [1, 1]) (zs := [(xs (i + 1)).toInt, (xs (i + 2)).toInt]) (st := [.int (Int32.ofInt v)]) me_X11_source yi_X11_source yv_X11_source (js_mem 1607 (by decide +kernel) rfl) rfl rfl e2 ⟨js_r32 _, js_r32 _, trivial⟩ hl.1 (js_sm1 _) dL_law_1257 (fun H locs hJ => ?_)
  exact lv_icmp_eq (tgt := 1347) hF.1 hF.2.1 dL_law_1260 (by decide) (fun _ => next μ1 ν1 H locs hJ hR1) (fun hne => absurd rfl hne)
theorem lc_33 : lw_case 1265 := by
  intro p l e s m below meth c b L xs D dA adC adM kK kV i ls hF hX hbl hL hi hl μ ν H locs hJ hR next
  obtain ⟨v, μ1, ν1, e1, e2, hR1⟩ := cl_pace μ ν hR
  refine lv_aload_n hF.1 hF.2.1 dL_law_1265 rfl (lv_at hl 1 rfl) ?_
  refine lw_cC hF hJ (ts := []) (zs := []) (st := []) me_X10_pace yi_X10_pace yv_X10_pace (js_mem 1095 (by decide +kernel) rfl) rfl rfl e1 trivial hl.1 js_sm0 dL_law_1266 (fun H locs hJ => ?_)
  refine lv_aload_n hF.1 hF.2.1 dL_law_1269 rfl (lv_at hl 2 rfl) ?_
  refine lw_cM hF hJ (ts := []) (zs := []) (st := [.int (Int32.ofInt v)]) me_X11_pace yi_X11_pace yv_X11_pace (js_mem 1620 (by decide +kernel) rfl) rfl rfl e2 trivial hl.1 (js_sm1 _) dL_law_1270 (fun H locs hJ => ?_)
  exact lv_icmp_eq (tgt := 1347) hF.1 hF.2.1 dL_law_1273 (by decide) (fun _ => next μ1 ν1 H locs hJ hR1) (fun hne => absurd rfl hne)
theorem lc_34 : lw_case 1278 := by
  intro p l e s m below meth c b L xs D dA adC adM kK kV i ls hF hX hbl hL hi hl μ ν H locs hJ hR next
  obtain ⟨v, μ1, ν1, e1, e2, hR1⟩ := cl_seed (js_r32 (xs (i + 1))) μ ν hR
  refine lv_aload_n hF.1 hF.2.1 dL_law_1278 rfl (lv_at hl 1 rfl) ?_
  refine lw_arg hF hJ hX hbl hL hl (k := 1) (by omega) (by decide) dL_law_1279 dL_law_1280 dL_law_1281 dL_law_1282 dL_law_1283 ?_
  refine lw_cC hF hJ (ts := [1]) (zs := [(xs (i + 1)).toInt]) (st := []) me_X10_seed yi_X10_seed yv_X10_seed (js_mem 1105 (by decide +kernel) rfl) rfl rfl e1 ⟨js_r32 _, trivial⟩ hl.1 js_sm0 dL_law_1284 (fun H locs hJ => ?_)
  refine lv_aload_n hF.1 hF.2.1 dL_law_1287 rfl (lv_at hl 2 rfl) ?_
  refine lw_arg hF hJ hX hbl hL hl (k := 1) (by omega) (by decide) dL_law_1288 dL_law_1289 dL_law_1290 dL_law_1291 dL_law_1292 ?_
  refine lw_cM hF hJ (ts := [1]) (zs := [(xs (i + 1)).toInt]) (st := [.int (Int32.ofInt v)]) me_X11_seed yi_X11_seed yv_X11_seed (js_mem 1624 (by decide +kernel) rfl) rfl rfl e2 ⟨js_r32 _, trivial⟩ hl.1 (js_sm1 _) dL_law_1293 (fun H locs hJ => ?_)
  exact lv_icmp_eq (tgt := 1347) hF.1 hF.2.1 dL_law_1296 (by decide) (fun _ => next μ1 ν1 H locs hJ hR1) (fun hne => absurd rfl hne)
theorem lc_35 : lw_case 1301 := by
  intro p l e s m below meth c b L xs D dA adC adM kK kV i ls hF hX hbl hL hi hl μ ν H locs hJ hR next
  obtain ⟨v, μ1, ν1, e1, e2, hR1⟩ := cl_keep (js_r32 (xs (i + 1))) μ ν hR
  refine lv_aload_n hF.1 hF.2.1 dL_law_1301 rfl (lv_at hl 1 rfl) ?_
  refine lw_arg hF hJ hX hbl hL hl (k := 1) (by omega) (by decide) dL_law_1302 dL_law_1303 dL_law_1304 dL_law_1305 dL_law_1306 ?_
  refine lw_cC hF hJ (ts := [1]) (zs := [(xs (i + 1)).toInt]) (st := []) me_X10_keep yi_X10_keep yv_X10_keep (js_mem 1109 (by decide +kernel) rfl) rfl rfl e1 ⟨js_r32 _, trivial⟩ hl.1 js_sm0 dL_law_1307 (fun H locs hJ => ?_)
  refine lv_aload_n hF.1 hF.2.1 dL_law_1310 rfl (lv_at hl 2 rfl) ?_
  refine lw_arg hF hJ hX hbl hL hl (k := 1) (by omega) (by decide) dL_law_1311 dL_law_1312 dL_law_1313 dL_law_1314 dL_law_1315 ?_
  refine lw_cM hF hJ (ts := [1]) (zs := [(xs (i + 1)).toInt]) (st := [.int (Int32.ofInt v)]) me_X11_keep yi_X11_keep yv_X11_keep (js_mem 1628 (by decide +kernel) rfl) rfl rfl e2 ⟨js_r32 _, trivial⟩ hl.1 (js_sm1 _) dL_law_1316 (fun H locs hJ => ?_)
  exact lv_icmp_eq (tgt := 1347) hF.1 hF.2.1 dL_law_1319 (by decide) (fun _ => next μ1 ν1 H locs hJ hR1) (fun hne => absurd rfl hne)
theorem lc_36 : lw_case 1324 := by
  intro p l e s m below meth c b L xs D dA adC adM kK kV i ls hF hX hbl hL hi hl μ ν H locs hJ hR next
  obtain ⟨v, μ1, ν1, e1, e2, hR1⟩ := cl_goBack (js_r32 (xs (i + 1))) μ ν hR
  refine lv_aload_n hF.1 hF.2.1 dL_law_1324 rfl (lv_at hl 1 rfl) ?_
  refine lw_arg hF hJ hX hbl hL hl (k := 1) (by omega) (by decide) dL_law_1325 dL_law_1326 dL_law_1327 dL_law_1328 dL_law_1329 ?_
  refine lw_cC hF hJ (ts := [1]) (zs := [(xs (i + 1)).toInt]) (st := []) me_X10_goBack yi_X10_goBack yv_X10_goBack (js_mem 1113 (by decide +kernel) rfl) rfl rfl e1 ⟨js_r32 _, trivial⟩ hl.1 js_sm0 dL_law_1330 (fun H locs hJ => ?_)
  refine lv_aload_n hF.1 hF.2.1 dL_law_1333 rfl (lv_at hl 2 rfl) ?_
  refine lw_arg hF hJ hX hbl hL hl (k := 1) (by omega) (by decide) dL_law_1334 dL_law_1335 dL_law_1336 dL_law_1337 dL_law_1338 ?_
  refine lw_cM hF hJ (ts := [1]) (zs := [(xs (i + 1)).toInt]) (st := [.int (Int32.ofInt v)]) me_X11_goBack yi_X11_goBack yv_X11_goBack (js_mem 1632 (by decide +kernel) rfl) rfl rfl e2 ⟨js_r32 _, trivial⟩ hl.1 (js_sm1 _) dL_law_1339 (fun H locs hJ => ?_)
  exact lv_icmp_eq (tgt := 1347) hF.1 hF.2.1 dL_law_1342 (by decide) (fun _ => next μ1 ν1 H locs hJ hR1) (fun hne => absurd rfl hne)
end
