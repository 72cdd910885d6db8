-- ===== the law: its cases =====
theorem lw_horse {G : gG} {l : Launch} {h : ph} {i : Int} (hL : gS G 8 ≤ 3072) (hi : 0 ≤ i ∧ i + 6 ≤ (gS G 8 : Int)) (hX : RX h 0 166) (k : ∀ h2 : ph, RX h2 0 166 → LwH G l 1517 i h2) : LwH G l 236 i h := by
  obtain ⟨sm, s, R⟩ := hX
  obtain ⟨z, K, e1, e2⟩ : Two G l mX10_horse 2 mX11_horse 1 0 166 [vI (scV G (i + 1).toNat), vI (scV G (i + 2).toNat)] h := tw_horse R (scV_r G _) (scV_r G _)
  unfold LwH at k ⊢
  refine co_aload_n dL_law_236 rfl ?_
  refine co_aload_n dL_law_237 rfl ?_
  refine co_iload_n dL_law_238 rfl ?_
  refine co_iconst dL_law_239 ?_
  refine co_iadd dL_law_240 ?_
  refine r_sld dL_law_241 hL (by omega) ?_
  refine co_aload_n dL_law_242 rfl ?_
  refine co_iload_n dL_law_243 rfl ?_
  refine co_iconst dL_law_244 ?_
  refine co_iadd dL_law_245 ?_
  refine r_sld dL_law_246 hL (by omega) ?_
  refine c_vQ dL_law_247 e1 (by decide) R.2.1.1.1 rfl rfl (Nat.le_of_ble_eq_true rfl) ?_
  rintro _ h1 ⟨rfl, hK⟩
  obtain ⟨ob, e2⟩ := e2 h1 hK
  refine co_aload_n dL_law_250 rfl ?_
  refine co_aload_n dL_law_251 rfl ?_
  refine co_iload_n dL_law_252 rfl ?_
  refine co_iconst dL_law_253 ?_
  refine co_iadd dL_law_254 ?_
  refine r_sld dL_law_255 hL (by omega) ?_
  refine co_aload_n dL_law_256 rfl ?_
  refine co_iload_n dL_law_257 rfl ?_
  refine co_iconst dL_law_258 ?_
  refine co_iadd dL_law_259 ?_
  refine r_sld dL_law_260 hL (by omega) ?_
  refine c_vQ dL_law_261 e2 (by decide) ob rfl rfl (Nat.le_of_ble_eq_true rfl) ?_
  rintro _ h2 ⟨rfl, hX⟩
  refine r_same (tgt := 1517) dL_law_264 rfl ?_
  exact k h2 hX
theorem lw_boy {G : gG} {l : Launch} {h : ph} {i : Int} (hL : gS G 8 ≤ 3072) (hi : 0 ≤ i ∧ i + 6 ≤ (gS G 8 : Int)) (hX : RX h 0 166) (k : ∀ h2 : ph, RX h2 0 166 → LwH G l 1517 i h2) : LwH G l 269 i h := by
  obtain ⟨sm, s, R⟩ := hX
  obtain ⟨z, K, e1, e2⟩ : Two G l mX10_boy 2 mX11_boy 1 0 166 [vI (scV G (i + 1).toNat)] h := tw_boy R (scV_r G _)
  unfold LwH at k ⊢
  refine co_aload_n dL_law_269 rfl ?_
  refine co_aload_n dL_law_270 rfl ?_
  refine co_iload_n dL_law_271 rfl ?_
  refine co_iconst dL_law_272 ?_
  refine co_iadd dL_law_273 ?_
  refine r_sld dL_law_274 hL (by omega) ?_
  refine c_vQ dL_law_275 e1 (by decide) R.2.1.1.1 rfl rfl (Nat.le_of_ble_eq_true rfl) ?_
  rintro _ h1 ⟨rfl, hK⟩
  obtain ⟨ob, e2⟩ := e2 h1 hK
  refine co_aload_n dL_law_278 rfl ?_
  refine co_aload_n dL_law_279 rfl ?_
  refine co_iload_n dL_law_280 rfl ?_
  refine co_iconst dL_law_281 ?_
  refine co_iadd dL_law_282 ?_
  refine r_sld dL_law_283 hL (by omega) ?_
  refine c_vQ dL_law_284 e2 (by decide) ob rfl rfl (Nat.le_of_ble_eq_true rfl) ?_
  rintro _ h2 ⟨rfl, hX⟩
  refine r_same (tgt := 1517) dL_law_287 rfl ?_
  exact k h2 hX
theorem lw_limit {G : gG} {l : Launch} {h : ph} {i : Int} (hL : gS G 8 ≤ 3072) (hi : 0 ≤ i ∧ i + 6 ≤ (gS G 8 : Int)) (hX : RX h 0 166) (k : ∀ h2 : ph, RX h2 0 166 → LwH G l 1517 i h2) : LwH G l 292 i h := by
  obtain ⟨sm, s, R⟩ := hX
  obtain ⟨z, K, e1, e2⟩ : Two G l mX10_limit 1 mX11_limit 1 0 166 [vI (scV G (i + 1).toNat)] h := tw_limit R (scV_r G _)
  unfold LwH at k ⊢
  refine co_aload_n dL_law_292 rfl ?_
  refine co_aload_n dL_law_293 rfl ?_
  refine co_iload_n dL_law_294 rfl ?_
  refine co_iconst dL_law_295 ?_
  refine co_iadd dL_law_296 ?_
  refine r_sld dL_law_297 hL (by omega) ?_
  refine c_vQ dL_law_298 e1 (by decide) R.2.1.1.1 rfl rfl (Nat.le_of_ble_eq_true rfl) ?_
  rintro _ h1 ⟨rfl, hK⟩
  obtain ⟨ob, e2⟩ := e2 h1 hK
  refine co_aload_n dL_law_301 rfl ?_
  refine co_aload_n dL_law_302 rfl ?_
  refine co_iload_n dL_law_303 rfl ?_
  refine co_iconst dL_law_304 ?_
  refine co_iadd dL_law_305 ?_
  refine r_sld dL_law_306 hL (by omega) ?_
  refine c_vQ dL_law_307 e2 (by decide) ob rfl rfl (Nat.le_of_ble_eq_true rfl) ?_
  rintro _ h2 ⟨rfl, hX⟩
  refine r_same (tgt := 1517) dL_law_310 rfl ?_
  exact k h2 hX
theorem lw_feed {G : gG} {l : Launch} {h : ph} {i : Int} (hL : gS G 8 ≤ 3072) (hi : 0 ≤ i ∧ i + 6 ≤ (gS G 8 : Int)) (hX : RX h 0 166) (k : ∀ h2 : ph, RX h2 0 166 → LwH G l 1517 i h2) : LwH G l 315 i h := by
  obtain ⟨sm, s, R⟩ := hX
  obtain ⟨z, K, e1, e2⟩ : Two G l mX10_feed 2 mX11_feed 1 0 166 [vI (scV G (i + 1).toNat), vI (scV G (i + 2).toNat), vI (scV G (i + 3).toNat), vI (scV G (i + 4).toNat), vI (scV G (i + 5).toNat)] h := tw_feed R 
  unfold LwH at k ⊢
  refine co_aload_n dL_law_315 rfl ?_
  refine co_aload_n dL_law_316 rfl ?_
  refine co_iload_n dL_law_317 rfl ?_
  refine co_iconst dL_law_318 ?_
  refine co_iadd dL_law_319 ?_
  refine r_sld dL_law_320 hL (by omega) ?_
  refine co_aload_n dL_law_321 rfl ?_
  refine co_iload_n dL_law_322 rfl ?_
  refine co_iconst dL_law_323 ?_
  refine co_iadd dL_law_324 ?_
  refine r_sld dL_law_325 hL (by omega) ?_
  refine co_aload_n dL_law_326 rfl ?_
  refine co_iload_n dL_law_327 rfl ?_
  refine co_iconst dL_law_328 ?_
  refine co_iadd dL_law_329 ?_
  refine r_sld dL_law_330 hL (by omega) ?_
  refine co_aload_n dL_law_331 rfl ?_
  refine co_iload_n dL_law_332 rfl ?_
  refine co_iconst dL_law_333 ?_
  refine co_iadd dL_law_334 ?_
  refine r_sld dL_law_335 hL (by omega) ?_
  refine co_aload_n dL_law_336 rfl ?_
  refine co_iload_n dL_law_337 rfl ?_
  refine co_iconst dL_law_338 ?_
  refine co_iadd dL_law_339 ?_
  refine r_sld dL_law_340 hL (by omega) ?_
  refine c_vQ dL_law_341 e1 (by decide) R.2.1.1.1 rfl rfl (Nat.le_of_ble_eq_true rfl) ?_
  rintro _ h1 ⟨rfl, hK⟩
  obtain ⟨ob, e2⟩ := e2 h1 hK
  refine co_aload_n dL_law_344 rfl ?_
  refine co_aload_n dL_law_345 rfl ?_
  refine co_iload_n dL_law_346 rfl ?_
  refine co_iconst dL_law_347 ?_
  refine co_iadd dL_law_348 ?_
  refine r_sld dL_law_349 hL (by omega) ?_
  refine co_aload_n dL_law_350 rfl ?_
  refine co_iload_n dL_law_351 rfl ?_
  refine co_iconst dL_law_352 ?_
  refine co_iadd dL_law_353 ?_
  refine r_sld dL_law_354 hL (by omega) ?_
  refine co_aload_n dL_law_355 rfl ?_
  refine co_iload_n dL_law_356 rfl ?_
  refine co_iconst dL_law_357 ?_
  refine co_iadd dL_law_358 ?_
  refine r_sld dL_law_359 hL (by omega) ?_
  refine co_aload_n dL_law_360 rfl ?_
  refine co_iload_n dL_law_361 rfl ?_
  refine co_iconst dL_law_362 ?_
  refine co_iadd dL_law_363 ?_
  refine r_sld dL_law_364 hL (by omega) ?_
  refine co_aload_n dL_law_365 rfl ?_
  refine co_iload_n dL_law_366 rfl ?_
  refine co_iconst dL_law_367 ?_
  refine co_iadd dL_law_368 ?_
  refine r_sld dL_law_369 hL (by omega) ?_
  refine c_vQ dL_law_370 e2 (by decide) ob rfl rfl (Nat.le_of_ble_eq_true rfl) ?_
  rintro _ h2 ⟨rfl, hX⟩
  refine r_same (tgt := 1517) dL_law_373 rfl ?_
  exact k h2 hX
theorem lw_end {G : gG} {l : Launch} {h : ph} {i : Int} (hL : gS G 8 ≤ 3072) (hi : 0 ≤ i ∧ i + 6 ≤ (gS G 8 : Int)) (hX : RX h 0 166) (k : ∀ h2 : ph, RX h2 0 166 → LwH G l 1517 i h2) : LwH G l 378 i h := by
  obtain ⟨sm, s, R⟩ := hX
  obtain ⟨z, K, e1, e2⟩ : Two G l mX10_end 1 mX11_end 1 0 166 [vI (scV G (i + 1).toNat)] h := tw_end R (scV_r G _)
  unfold LwH at k ⊢
  refine co_aload_n dL_law_378 rfl ?_
  refine co_aload_n dL_law_379 rfl ?_
  refine co_iload_n dL_law_380 rfl ?_
  refine co_iconst dL_law_381 ?_
  refine co_iadd dL_law_382 ?_
  refine r_sld dL_law_383 hL (by omega) ?_
  refine c_vQ dL_law_384 e1 (by decide) R.2.1.1.1 rfl rfl (Nat.le_of_ble_eq_true rfl) ?_
  rintro _ h1 ⟨rfl, hK⟩
  obtain ⟨ob, e2⟩ := e2 h1 hK
  refine co_aload_n dL_law_387 rfl ?_
  refine co_aload_n dL_law_388 rfl ?_
  refine co_iload_n dL_law_389 rfl ?_
  refine co_iconst dL_law_390 ?_
  refine co_iadd dL_law_391 ?_
  refine r_sld dL_law_392 hL (by omega) ?_
  refine c_vQ dL_law_393 e2 (by decide) ob rfl rfl (Nat.le_of_ble_eq_true rfl) ?_
  rintro _ h2 ⟨rfl, hX⟩
  refine r_same (tgt := 1517) dL_law_396 rfl ?_
  exact k h2 hX
theorem lw_text {G : gG} {l : Launch} {h : ph} {i : Int} (hL : gS G 8 ≤ 3072) (hi : 0 ≤ i ∧ i + 6 ≤ (gS G 8 : Int)) (hX : RX h 0 166) (k : ∀ h2 : ph, RX h2 0 166 → LwH G l 1517 i h2) : LwH G l 401 i h := by
  obtain ⟨sm, s, R⟩ := hX
  obtain ⟨z, K, e1, e2⟩ : Two G l mX10_text 96 mX11_text 13 0 166 [] h := tw_text R (fun b L hT => wd_ok hT)
  unfold LwH at k ⊢
  refine co_aload_n dL_law_401 rfl ?_
  refine c_vQ dL_law_402 e1 (by decide) R.2.1.1.1 rfl rfl (Nat.le_of_ble_eq_true rfl) ?_
  rintro _ h1 ⟨rfl, hK⟩
  obtain ⟨ob, e2⟩ := e2 h1 hK
  refine co_aload_n dL_law_405 rfl ?_
  refine c_vQ dL_law_406 e2 (by decide) ob rfl rfl (Nat.le_of_ble_eq_true rfl) ?_
  rintro _ h2 ⟨rfl, hX⟩
  refine r_same (tgt := 1517) dL_law_409 rfl ?_
  exact k h2 hX
theorem lw_fault {G : gG} {l : Launch} {h : ph} {i : Int} (hL : gS G 8 ≤ 3072) (hi : 0 ≤ i ∧ i + 6 ≤ (gS G 8 : Int)) (hX : RX h 0 166) (k : ∀ h2 : ph, RX h2 0 166 → LwH G l 1517 i h2) : LwH G l 414 i h := by
  obtain ⟨sm, s, R⟩ := hX
  obtain ⟨z, K, e1, e2⟩ : Two G l mX10_fault 0 mX11_fault 0 0 166 [vI (scV G (i + 1).toNat)] h := tw_fault R (scV_r G _)
  unfold LwH at k ⊢
  refine co_aload_n dL_law_414 rfl ?_
  refine co_aload_n dL_law_415 rfl ?_
  refine co_iload_n dL_law_416 rfl ?_
  refine co_iconst dL_law_417 ?_
  refine co_iadd dL_law_418 ?_
  refine r_sld dL_law_419 hL (by omega) ?_
  refine c_vQ dL_law_420 e1 (by decide) R.2.1.1.1 rfl rfl (Nat.le_of_ble_eq_true rfl) ?_
  rintro _ h1 ⟨rfl, hK⟩
  obtain ⟨ob, e2⟩ := e2 h1 hK
  refine co_aload_n dL_law_423 rfl ?_
  refine co_aload_n dL_law_424 rfl ?_
  refine co_iload_n dL_law_425 rfl ?_
  refine co_iconst dL_law_426 ?_
  refine co_iadd dL_law_427 ?_
  refine r_sld dL_law_428 hL (by omega) ?_
  refine c_vQ dL_law_429 e2 (by decide) ob rfl rfl (Nat.le_of_ble_eq_true rfl) ?_
  rintro _ h2 ⟨rfl, hX⟩
  refine r_same (tgt := 1517) dL_law_432 rfl ?_
  exact k h2 hX
theorem lw_by {G : gG} {l : Launch} {h : ph} {i : Int} (hL : gS G 8 ≤ 3072) (hi : 0 ≤ i ∧ i + 6 ≤ (gS G 8 : Int)) (hX : RX h 0 166) (k : ∀ h2 : ph, RX h2 0 166 → LwH G l 1517 i h2) : LwH G l 437 i h := by
  obtain ⟨sm, s, R⟩ := hX
  obtain ⟨z, K, e1, e2⟩ : Two G l mX10_by 2 mX11_by 1 0 166 [vI (scV G (i + 1).toNat)] h := tw_by R (scV_r G _)
  unfold LwH at k ⊢
  refine co_aload_n dL_law_437 rfl ?_
  refine co_aload_n dL_law_438 rfl ?_
  refine co_iload_n dL_law_439 rfl ?_
  refine co_iconst dL_law_440 ?_
  refine co_iadd dL_law_441 ?_
  refine r_sld dL_law_442 hL (by omega) ?_
  refine c_vQ dL_law_443 e1 (by decide) R.2.1.1.1 rfl rfl (Nat.le_of_ble_eq_true rfl) ?_
  rintro _ h1 ⟨rfl, hK⟩
  obtain ⟨ob, e2⟩ := e2 h1 hK
  refine co_aload_n dL_law_446 rfl ?_
  refine co_aload_n dL_law_447 rfl ?_
  refine co_iload_n dL_law_448 rfl ?_
  refine co_iconst dL_law_449 ?_
  refine co_iadd dL_law_450 ?_
  refine r_sld dL_law_451 hL (by omega) ?_
  refine c_vQ dL_law_452 e2 (by decide) ob rfl rfl (Nat.le_of_ble_eq_true rfl) ?_
  rintro _ h2 ⟨rfl, hX⟩
  refine r_same (tgt := 1517) dL_law_455 rfl ?_
  exact k h2 hX
theorem lw_mount {G : gG} {l : Launch} {h : ph} {i : Int} (hL : gS G 8 ≤ 3072) (hi : 0 ≤ i ∧ i + 6 ≤ (gS G 8 : Int)) (hX : RX h 0 166) (k : ∀ h2 : ph, RX h2 0 166 → LwH G l 1517 i h2) : LwH G l 460 i h := by
  obtain ⟨sm, s, R⟩ := hX
  obtain ⟨z, K, e1, e2⟩ : Two G l mX10_mount 4 mX11_mount 3 0 166 [vI (scV G (i + 1).toNat), vI (scV G (i + 2).toNat)] h := tw_mount R (scV_r G _) (scV_r G _)
  unfold LwH at k ⊢
  refine co_aload_n dL_law_460 rfl ?_
  refine co_aload_n dL_law_461 rfl ?_
  refine co_iload_n dL_law_462 rfl ?_
  refine co_iconst dL_law_463 ?_
  refine co_iadd dL_law_464 ?_
  refine r_sld dL_law_465 hL (by omega) ?_
  refine co_aload_n dL_law_466 rfl ?_
  refine co_iload_n dL_law_467 rfl ?_
  refine co_iconst dL_law_468 ?_
  refine co_iadd dL_law_469 ?_
  refine r_sld dL_law_470 hL (by omega) ?_
  refine c_vQ dL_law_471 e1 (by decide) R.2.1.1.1 rfl rfl (Nat.le_of_ble_eq_true rfl) ?_
  rintro _ h1 ⟨rfl, hK⟩
  obtain ⟨ob, e2⟩ := e2 h1 hK
  refine co_aload_n dL_law_474 rfl ?_
  refine co_aload_n dL_law_475 rfl ?_
  refine co_iload_n dL_law_476 rfl ?_
  refine co_iconst dL_law_477 ?_
  refine co_iadd dL_law_478 ?_
  refine r_sld dL_law_479 hL (by omega) ?_
  refine co_aload_n dL_law_480 rfl ?_
  refine co_iload_n dL_law_481 rfl ?_
  refine co_iconst dL_law_482 ?_
  refine co_iadd dL_law_483 ?_
  refine r_sld dL_law_484 hL (by omega) ?_
  refine c_vQ dL_law_485 e2 (by decide) ob rfl rfl (Nat.le_of_ble_eq_true rfl) ?_
  rintro _ h2 ⟨rfl, hX⟩
  refine r_same (tgt := 1517) dL_law_488 rfl ?_
  exact k h2 hX
theorem lw_off {G : gG} {l : Launch} {h : ph} {i : Int} (hL : gS G 8 ≤ 3072) (hi : 0 ≤ i ∧ i + 6 ≤ (gS G 8 : Int)) (hX : RX h 0 166) (k : ∀ h2 : ph, RX h2 0 166 → LwH G l 1517 i h2) : LwH G l 493 i h := by
  obtain ⟨sm, s, R⟩ := hX
  obtain ⟨z, K, e1, e2⟩ : Two G l mX10_off 3 mX11_off 3 0 166 [vI (scV G (i + 1).toNat)] h := tw_off R (scV_r G _)
  unfold LwH at k ⊢
  refine co_aload_n dL_law_493 rfl ?_
  refine co_aload_n dL_law_494 rfl ?_
  refine co_iload_n dL_law_495 rfl ?_
  refine co_iconst dL_law_496 ?_
  refine co_iadd dL_law_497 ?_
  refine r_sld dL_law_498 hL (by omega) ?_
  refine c_vQ dL_law_499 e1 (by decide) R.2.1.1.1 rfl rfl (Nat.le_of_ble_eq_true rfl) ?_
  rintro _ h1 ⟨rfl, hK⟩
  obtain ⟨ob, e2⟩ := e2 h1 hK
  refine co_aload_n dL_law_502 rfl ?_
  refine co_aload_n dL_law_503 rfl ?_
  refine co_iload_n dL_law_504 rfl ?_
  refine co_iconst dL_law_505 ?_
  refine co_iadd dL_law_506 ?_
  refine r_sld dL_law_507 hL (by omega) ?_
  refine c_vQ dL_law_508 e2 (by decide) ob rfl rfl (Nat.le_of_ble_eq_true rfl) ?_
  rintro _ h2 ⟨rfl, hX⟩
  refine r_same (tgt := 1517) dL_law_511 rfl ?_
  exact k h2 hX
theorem lw_oil {G : gG} {l : Launch} {h : ph} {i : Int} (hL : gS G 8 ≤ 3072) (hi : 0 ≤ i ∧ i + 6 ≤ (gS G 8 : Int)) (hX : RX h 0 166) (k : ∀ h2 : ph, RX h2 0 166 → LwH G l 1517 i h2) : LwH G l 516 i h := by
  obtain ⟨sm, s, R⟩ := hX
  obtain ⟨z, K, e1, e2⟩ : Two G l mX10_oil 3 mX11_oil 3 0 166 [vI (scV G (i + 1).toNat)] h := tw_oil R (scV_r G _)
  unfold LwH at k ⊢
  refine co_aload_n dL_law_516 rfl ?_
  refine co_aload_n dL_law_517 rfl ?_
  refine co_iload_n dL_law_518 rfl ?_
  refine co_iconst dL_law_519 ?_
  refine co_iadd dL_law_520 ?_
  refine r_sld dL_law_521 hL (by omega) ?_
  refine c_vQ dL_law_522 e1 (by decide) R.2.1.1.1 rfl rfl (Nat.le_of_ble_eq_true rfl) ?_
  rintro _ h1 ⟨rfl, hK⟩
  obtain ⟨ob, e2⟩ := e2 h1 hK
  refine co_aload_n dL_law_525 rfl ?_
  refine co_aload_n dL_law_526 rfl ?_
  refine co_iload_n dL_law_527 rfl ?_
  refine co_iconst dL_law_528 ?_
  refine co_iadd dL_law_529 ?_
  refine r_sld dL_law_530 hL (by omega) ?_
  refine c_vQ dL_law_531 e2 (by decide) ob rfl rfl (Nat.le_of_ble_eq_true rfl) ?_
  rintro _ h2 ⟨rfl, hX⟩
  refine r_same (tgt := 1517) dL_law_534 rfl ?_
  exact k h2 hX
theorem lw_nail {G : gG} {l : Launch} {h : ph} {i : Int} (hL : gS G 8 ≤ 3072) (hi : 0 ≤ i ∧ i + 6 ≤ (gS G 8 : Int)) (hX : RX h 0 166) (k : ∀ h2 : ph, RX h2 0 166 → LwH G l 1517 i h2) : LwH G l 539 i h := by
  obtain ⟨sm, s, R⟩ := hX
  obtain ⟨z, K, e1, e2⟩ : Two G l mX10_nail 4 mX11_nail 2 0 166 [vI (scV G (i + 1).toNat), vI (scV G (i + 2).toNat)] h := tw_nail R (scV_r G _) (scV_r G _)
  unfold LwH at k ⊢
  refine co_aload_n dL_law_539 rfl ?_
  refine co_aload_n dL_law_540 rfl ?_
  refine co_iload_n dL_law_541 rfl ?_
  refine co_iconst dL_law_542 ?_
  refine co_iadd dL_law_543 ?_
  refine r_sld dL_law_544 hL (by omega) ?_
  refine co_aload_n dL_law_545 rfl ?_
  refine co_iload_n dL_law_546 rfl ?_
  refine co_iconst dL_law_547 ?_
  refine co_iadd dL_law_548 ?_
  refine r_sld dL_law_549 hL (by omega) ?_
  refine c_vQ dL_law_550 e1 (by decide) R.2.1.1.1 rfl rfl (Nat.le_of_ble_eq_true rfl) ?_
  rintro _ h1 ⟨rfl, hK⟩
  obtain ⟨ob, e2⟩ := e2 h1 hK
  refine co_aload_n dL_law_553 rfl ?_
  refine co_aload_n dL_law_554 rfl ?_
  refine co_iload_n dL_law_555 rfl ?_
  refine co_iconst dL_law_556 ?_
  refine co_iadd dL_law_557 ?_
  refine r_sld dL_law_558 hL (by omega) ?_
  refine co_aload_n dL_law_559 rfl ?_
  refine co_iload_n dL_law_560 rfl ?_
  refine co_iconst dL_law_561 ?_
  refine co_iadd dL_law_562 ?_
  refine r_sld dL_law_563 hL (by omega) ?_
  refine c_vQ dL_law_564 e2 (by decide) ob rfl rfl (Nat.le_of_ble_eq_true rfl) ?_
  rintro _ h2 ⟨rfl, hX⟩
  refine r_same (tgt := 1517) dL_law_567 rfl ?_
  exact k h2 hX
theorem lw_minute {G : gG} {l : Launch} {h : ph} {i : Int} (hL : gS G 8 ≤ 3072) (hi : 0 ≤ i ∧ i + 6 ≤ (gS G 8 : Int)) (hX : RX h 0 166) (k : ∀ h2 : ph, RX h2 0 166 → LwH G l 1517 i h2) : LwH G l 572 i h := by
  obtain ⟨sm, s, R⟩ := hX
  obtain ⟨z, K, e1, e2⟩ : Two G l mX10_minute 8 mX11_minute 8 0 166 [vI (scV G (i + 1).toNat)] h := tw_minute R (scV_r G _)
  unfold LwH at k ⊢
  refine co_aload_n dL_law_572 rfl ?_
  refine co_aload_n dL_law_573 rfl ?_
  refine co_iload_n dL_law_574 rfl ?_
  refine co_iconst dL_law_575 ?_
  refine co_iadd dL_law_576 ?_
  refine r_sld dL_law_577 hL (by omega) ?_
  refine c_vQ dL_law_578 e1 (by decide) R.2.1.1.1 rfl rfl (Nat.le_of_ble_eq_true rfl) ?_
  rintro _ h1 ⟨rfl, hK⟩
  obtain ⟨ob, e2⟩ := e2 h1 hK
  refine co_aload_n dL_law_581 rfl ?_
  refine co_aload_n dL_law_582 rfl ?_
  refine co_iload_n dL_law_583 rfl ?_
  refine co_iconst dL_law_584 ?_
  refine co_iadd dL_law_585 ?_
  refine r_sld dL_law_586 hL (by omega) ?_
  refine c_vQ dL_law_587 e2 (by decide) ob rfl rfl (Nat.le_of_ble_eq_true rfl) ?_
  rintro _ h2 ⟨rfl, hX⟩
  refine r_same (tgt := 1517) dL_law_590 rfl ?_
  exact k h2 hX
theorem lw_played {G : gG} {l : Launch} {h : ph} {i : Int} (hL : gS G 8 ≤ 3072) (hi : 0 ≤ i ∧ i + 6 ≤ (gS G 8 : Int)) (hX : RX h 0 166) (k : ∀ h2 : ph, RX h2 0 166 → LwH G l 1517 i h2) : LwH G l 595 i h := by
  obtain ⟨sm, s, R⟩ := hX
  obtain ⟨z, K, e1, e2⟩ : Two G l mX10_played 9 mX11_played 9 0 166 [vI (scV G (i + 1).toNat)] h := tw_played R (scV_r G _)
  unfold LwH at k ⊢
  refine co_aload_n dL_law_595 rfl ?_
  refine co_aload_n dL_law_596 rfl ?_
  refine co_iload_n dL_law_597 rfl ?_
  refine co_iconst dL_law_598 ?_
  refine co_iadd dL_law_599 ?_
  refine r_sld dL_law_600 hL (by omega) ?_
  refine c_vQ dL_law_601 e1 (by decide) R.2.1.1.1 rfl rfl (Nat.le_of_ble_eq_true rfl) ?_
  rintro _ h1 ⟨rfl, hK⟩
  obtain ⟨ob, e2⟩ := e2 h1 hK
  refine co_aload_n dL_law_604 rfl ?_
  refine co_aload_n dL_law_605 rfl ?_
  refine co_iload_n dL_law_606 rfl ?_
  refine co_iconst dL_law_607 ?_
  refine co_iadd dL_law_608 ?_
  refine r_sld dL_law_609 hL (by omega) ?_
  refine c_vQ dL_law_610 e2 (by decide) ob rfl rfl (Nat.le_of_ble_eq_true rfl) ?_
  rintro _ h2 ⟨rfl, hX⟩
  refine r_same (tgt := 1517) dL_law_613 rfl ?_
  exact k h2 hX
theorem lw_winters {G : gG} {l : Launch} {h : ph} {i : Int} (hL : gS G 8 ≤ 3072) (hi : 0 ≤ i ∧ i + 6 ≤ (gS G 8 : Int)) (hX : RX h 0 166) (k : ∀ h2 : ph, RX h2 0 166 → LwH G l 1517 i h2) : LwH G l 618 i h := by
  obtain ⟨sm, s, R⟩ := hX
  obtain ⟨z, K, e1, e2⟩ : Two G l mX10_winters 8 mX11_winters 8 0 166 [vI (scV G (i + 1).toNat), vI (scV G (i + 2).toNat)] h := tw_winters R (scV_r G _) (scV_r G _)
  unfold LwH at k ⊢
  refine co_aload_n dL_law_618 rfl ?_
  refine co_aload_n dL_law_619 rfl ?_
  refine co_iload_n dL_law_620 rfl ?_
  refine co_iconst dL_law_621 ?_
  refine co_iadd dL_law_622 ?_
  refine r_sld dL_law_623 hL (by omega) ?_
  refine co_aload_n dL_law_624 rfl ?_
  refine co_iload_n dL_law_625 rfl ?_
  refine co_iconst dL_law_626 ?_
  refine co_iadd dL_law_627 ?_
  refine r_sld dL_law_628 hL (by omega) ?_
  refine c_vQ dL_law_629 e1 (by decide) R.2.1.1.1 rfl rfl (Nat.le_of_ble_eq_true rfl) ?_
  rintro _ h1 ⟨rfl, hK⟩
  obtain ⟨ob, e2⟩ := e2 h1 hK
  refine co_aload_n dL_law_632 rfl ?_
  refine co_aload_n dL_law_633 rfl ?_
  refine co_iload_n dL_law_634 rfl ?_
  refine co_iconst dL_law_635 ?_
  refine co_iadd dL_law_636 ?_
  refine r_sld dL_law_637 hL (by omega) ?_
  refine co_aload_n dL_law_638 rfl ?_
  refine co_iload_n dL_law_639 rfl ?_
  refine co_iconst dL_law_640 ?_
  refine co_iadd dL_law_641 ?_
  refine r_sld dL_law_642 hL (by omega) ?_
  refine c_vQ dL_law_643 e2 (by decide) ob rfl rfl (Nat.le_of_ble_eq_true rfl) ?_
  rintro _ h2 ⟨rfl, hX⟩
  refine r_same (tgt := 1517) dL_law_646 rfl ?_
  exact k h2 hX
theorem lw_undo {G : gG} {l : Launch} {h : ph} {i : Int} (hL : gS G 8 ≤ 3072) (hi : 0 ≤ i ∧ i + 6 ≤ (gS G 8 : Int)) (hX : RX h 0 166) (k : ∀ h2 : ph, RX h2 0 166 → LwH G l 1517 i h2) : LwH G l 651 i h := by
  obtain ⟨sm, s, R⟩ := hX
  obtain ⟨z, K, e1, e2⟩ : Two G l mX10_undo 2 mX11_undo 1 0 166 [] h := tw_undo R 
  unfold LwH at k ⊢
  refine co_aload_n dL_law_651 rfl ?_
  refine c_vQ dL_law_652 e1 (by decide) R.2.1.1.1 rfl rfl (Nat.le_of_ble_eq_true rfl) ?_
  rintro _ h1 ⟨rfl, hK⟩
  obtain ⟨ob, e2⟩ := e2 h1 hK
  refine co_aload_n dL_law_655 rfl ?_
  refine c_vQ dL_law_656 e2 (by decide) ob rfl rfl (Nat.le_of_ble_eq_true rfl) ?_
  rintro _ h2 ⟨rfl, hX⟩
  refine r_same (tgt := 1517) dL_law_659 rfl ?_
  exact k h2 hX
theorem lw_ofHorse {G : gG} {l : Launch} {h : ph} {i : Int} (hL : gS G 8 ≤ 3072) (hi : 0 ≤ i ∧ i + 6 ≤ (gS G 8 : Int)) (hX : RX h 0 166) (k : ∀ h2 : ph, RX h2 0 166 → LwH G l 1517 i h2) : LwH G l 664 i h := by
  obtain ⟨sm, s, R⟩ := hX
  obtain ⟨z, K, e1, e2⟩ : Two G l mX10_ofHorse 6 mX11_ofHorse 5 0 166 [vI (scV G (i + 1).toNat), vI (scV G (i + 2).toNat)] h := tw_ofHorse R (scV_r G _) (scV_r G _)
  unfold LwH at k ⊢
  refine co_aload_n dL_law_664 rfl ?_
  refine co_aload_n dL_law_665 rfl ?_
  refine co_iload_n dL_law_666 rfl ?_
  refine co_iconst dL_law_667 ?_
  refine co_iadd dL_law_668 ?_
  refine r_sld dL_law_669 hL (by omega) ?_
  refine co_aload_n dL_law_670 rfl ?_
  refine co_iload_n dL_law_671 rfl ?_
  refine co_iconst dL_law_672 ?_
  refine co_iadd dL_law_673 ?_
  refine r_sld dL_law_674 hL (by omega) ?_
  refine c_vQ dL_law_675 e1 (by decide) R.2.1.1.1 rfl rfl (Nat.le_of_ble_eq_true rfl) ?_
  rintro _ h1 ⟨rfl, hK⟩
  obtain ⟨ob, e2⟩ := e2 h1 hK
  refine co_aload_n dL_law_678 rfl ?_
  refine co_aload_n dL_law_679 rfl ?_
  refine co_iload_n dL_law_680 rfl ?_
  refine co_iconst dL_law_681 ?_
  refine co_iadd dL_law_682 ?_
  refine r_sld dL_law_683 hL (by omega) ?_
  refine co_aload_n dL_law_684 rfl ?_
  refine co_iload_n dL_law_685 rfl ?_
  refine co_iconst dL_law_686 ?_
  refine co_iadd dL_law_687 ?_
  refine r_sld dL_law_688 hL (by omega) ?_
  refine c_vQ dL_law_689 e2 (by decide) ob rfl rfl (Nat.le_of_ble_eq_true rfl) ?_
  rintro _ h2 ⟨rfl, hX⟩
  refine r_same (tgt := 1517) dL_law_692 rfl ?_
  exact k h2 hX
theorem lw_ofBoy {G : gG} {l : Launch} {h : ph} {i : Int} (hL : gS G 8 ≤ 3072) (hi : 0 ≤ i ∧ i + 6 ≤ (gS G 8 : Int)) (hX : RX h 0 166) (k : ∀ h2 : ph, RX h2 0 166 → LwH G l 1517 i h2) : LwH G l 697 i h := by
  obtain ⟨sm, s, R⟩ := hX
  obtain ⟨z, K, e1, e2⟩ : Two G l mX10_ofBoy 6 mX11_ofBoy 5 0 166 [vI (scV G (i + 1).toNat), vI (scV G (i + 2).toNat)] h := tw_ofBoy R (scV_r G _) (scV_r G _)
  unfold LwH at k ⊢
  refine co_aload_n dL_law_697 rfl ?_
  refine co_aload_n dL_law_698 rfl ?_
  refine co_iload_n dL_law_699 rfl ?_
  refine co_iconst dL_law_700 ?_
  refine co_iadd dL_law_701 ?_
  refine r_sld dL_law_702 hL (by omega) ?_
  refine co_aload_n dL_law_703 rfl ?_
  refine co_iload_n dL_law_704 rfl ?_
  refine co_iconst dL_law_705 ?_
  refine co_iadd dL_law_706 ?_
  refine r_sld dL_law_707 hL (by omega) ?_
  refine c_vQ dL_law_708 e1 (by decide) R.2.1.1.1 rfl rfl (Nat.le_of_ble_eq_true rfl) ?_
  rintro _ h1 ⟨rfl, hK⟩
  obtain ⟨ob, e2⟩ := e2 h1 hK
  refine co_aload_n dL_law_711 rfl ?_
  refine co_aload_n dL_law_712 rfl ?_
  refine co_iload_n dL_law_713 rfl ?_
  refine co_iconst dL_law_714 ?_
  refine co_iadd dL_law_715 ?_
  refine r_sld dL_law_716 hL (by omega) ?_
  refine co_aload_n dL_law_717 rfl ?_
  refine co_iload_n dL_law_718 rfl ?_
  refine co_iconst dL_law_719 ?_
  refine co_iadd dL_law_720 ?_
  refine r_sld dL_law_721 hL (by omega) ?_
  refine c_vQ dL_law_722 e2 (by decide) ob rfl rfl (Nat.le_of_ble_eq_true rfl) ?_
  rintro _ h2 ⟨rfl, hX⟩
  refine r_same (tgt := 1517) dL_law_725 rfl ?_
  exact k h2 hX
theorem lw_is {G : gG} {l : Launch} {h : ph} {i : Int} (hL : gS G 8 ≤ 3072) (hi : 0 ≤ i ∧ i + 6 ≤ (gS G 8 : Int)) (hX : RX h 0 166) (k : ∀ h2 : ph, RX h2 0 166 → LwH G l 1517 i h2) : LwH G l 730 i h := by
  obtain ⟨sm, s, R⟩ := hX
  obtain ⟨z, K, e1, e2⟩ : Two G l mX10_is 6 mX11_is 5 0 166 [vI (scV G (i + 1).toNat)] h := tw_is R (scV_r G _)
  unfold LwH at k ⊢
  refine co_aload_n dL_law_730 rfl ?_
  refine co_aload_n dL_law_731 rfl ?_
  refine co_iload_n dL_law_732 rfl ?_
  refine co_iconst dL_law_733 ?_
  refine co_iadd dL_law_734 ?_
  refine r_sld dL_law_735 hL (by omega) ?_
  refine c_vQ dL_law_736 e1 (by decide) R.2.1.1.1 rfl rfl (Nat.le_of_ble_eq_true rfl) ?_
  rintro _ h1 ⟨rfl, hK⟩
  obtain ⟨ob, e2⟩ := e2 h1 hK
  refine co_aload_n dL_law_739 rfl ?_
  refine co_aload_n dL_law_740 rfl ?_
  refine co_iload_n dL_law_741 rfl ?_
  refine co_iconst dL_law_742 ?_
  refine co_iadd dL_law_743 ?_
  refine r_sld dL_law_744 hL (by omega) ?_
  refine c_vQ dL_law_745 e2 (by decide) ob rfl rfl (Nat.le_of_ble_eq_true rfl) ?_
  rintro _ h2 ⟨rfl, hX⟩
  refine r_same (tgt := 1517) dL_law_748 rfl ?_
  exact k h2 hX
theorem lw_book {G : gG} {l : Launch} {h : ph} {i : Int} (hL : gS G 8 ≤ 3072) (hi : 0 ≤ i ∧ i + 6 ≤ (gS G 8 : Int)) (hX : RX h 0 166) (k : ∀ h2 : ph, RX h2 0 166 → LwH G l 1517 i h2) : LwH G l 753 i h := by
  obtain ⟨sm, s, R⟩ := hX
  obtain ⟨z, K, e1, e2⟩ : Two G l mX10_book 2 mX11_book 2 0 166 [vI (scV G (i + 1).toNat), vI (scV G (i + 2).toNat)] h := tw_book R (scV_r G _) (scV_r G _)
  unfold LwH at k ⊢
  refine co_aload_n dL_law_753 rfl ?_
  refine co_aload_n dL_law_754 rfl ?_
  refine co_iload_n dL_law_755 rfl ?_
  refine co_iconst dL_law_756 ?_
  refine co_iadd dL_law_757 ?_
  refine r_sld dL_law_758 hL (by omega) ?_
  refine co_aload_n dL_law_759 rfl ?_
  refine co_iload_n dL_law_760 rfl ?_
  refine co_iconst dL_law_761 ?_
  refine co_iadd dL_law_762 ?_
  refine r_sld dL_law_763 hL (by omega) ?_
  refine c_vQ dL_law_764 e1 (by decide) R.2.1.1.1 rfl rfl (Nat.le_of_ble_eq_true rfl) ?_
  rintro _ h1 ⟨rfl, hK⟩
  obtain ⟨ob, e2⟩ := e2 h1 hK
  refine co_aload_n dL_law_767 rfl ?_
  refine co_aload_n dL_law_768 rfl ?_
  refine co_iload_n dL_law_769 rfl ?_
  refine co_iconst dL_law_770 ?_
  refine co_iadd dL_law_771 ?_
  refine r_sld dL_law_772 hL (by omega) ?_
  refine co_aload_n dL_law_773 rfl ?_
  refine co_iload_n dL_law_774 rfl ?_
  refine co_iconst dL_law_775 ?_
  refine co_iadd dL_law_776 ?_
  refine r_sld dL_law_777 hL (by omega) ?_
  refine c_vQ dL_law_778 e2 (by decide) ob rfl rfl (Nat.le_of_ble_eq_true rfl) ?_
  rintro _ h2 ⟨rfl, hX⟩
  refine r_same (tgt := 1517) dL_law_781 rfl ?_
  exact k h2 hX
theorem lw_rocking {G : gG} {l : Launch} {h : ph} {i : Int} (hL : gS G 8 ≤ 3072) (hi : 0 ≤ i ∧ i + 6 ≤ (gS G 8 : Int)) (hX : RX h 0 166) (k : ∀ h2 : ph, RX h2 0 166 → LwH G l 1517 i h2) : LwH G l 786 i h := by
  obtain ⟨sm, s, R⟩ := hX
  obtain ⟨z, K, e1, e2⟩ : Two G l mX10_rocking 4 mX11_rocking 4 0 166 [vI (scV G (i + 1).toNat)] h := tw_rocking R (scV_r G _)
  unfold LwH at k ⊢
  refine co_aload_n dL_law_786 rfl ?_
  refine co_aload_n dL_law_787 rfl ?_
  refine co_iload_n dL_law_788 rfl ?_
  refine co_iconst dL_law_789 ?_
  refine co_iadd dL_law_790 ?_
  refine r_sld dL_law_791 hL (by omega) ?_
  refine c_vQ dL_law_792 e1 (by decide) R.2.1.1.1 rfl rfl (Nat.le_of_ble_eq_true rfl) ?_
  rintro _ h1 ⟨rfl, hK⟩
  obtain ⟨ob, e2⟩ := e2 h1 hK
  refine co_aload_n dL_law_795 rfl ?_
  refine co_aload_n dL_law_796 rfl ?_
  refine co_iload_n dL_law_797 rfl ?_
  refine co_iconst dL_law_798 ?_
  refine co_iadd dL_law_799 ?_
  refine r_sld dL_law_800 hL (by omega) ?_
  refine c_vQ dL_law_801 e2 (by decide) ob rfl rfl (Nat.le_of_ble_eq_true rfl) ?_
  rintro _ h2 ⟨rfl, hX⟩
  refine r_same (tgt := 1517) dL_law_804 rfl ?_
  exact k h2 hX
theorem lw_together {G : gG} {l : Launch} {h : ph} {i : Int} (hL : gS G 8 ≤ 3072) (hi : 0 ≤ i ∧ i + 6 ≤ (gS G 8 : Int)) (hX : RX h 0 166) (k : ∀ h2 : ph, RX h2 0 166 → LwH G l 1517 i h2) : LwH G l 809 i h := by
  obtain ⟨sm, s, R⟩ := hX
  obtain ⟨z, K, e1, e2⟩ : Two G l mX10_together 3 mX11_together 3 0 166 [vI (scV G (i + 1).toNat)] h := tw_together R (scV_r G _)
  unfold LwH at k ⊢
  refine co_aload_n dL_law_809 rfl ?_
  refine co_aload_n dL_law_810 rfl ?_
  refine co_iload_n dL_law_811 rfl ?_
  refine co_iconst dL_law_812 ?_
  refine co_iadd dL_law_813 ?_
  refine r_sld dL_law_814 hL (by omega) ?_
  refine c_vQ dL_law_815 e1 (by decide) R.2.1.1.1 rfl rfl (Nat.le_of_ble_eq_true rfl) ?_
  rintro _ h1 ⟨rfl, hK⟩
  obtain ⟨ob, e2⟩ := e2 h1 hK
  refine co_aload_n dL_law_818 rfl ?_
  refine co_aload_n dL_law_819 rfl ?_
  refine co_iload_n dL_law_820 rfl ?_
  refine co_iconst dL_law_821 ?_
  refine co_iadd dL_law_822 ?_
  refine r_sld dL_law_823 hL (by omega) ?_
  refine c_vQ dL_law_824 e2 (by decide) ob rfl rfl (Nat.le_of_ble_eq_true rfl) ?_
  rintro _ h2 ⟨rfl, hX⟩
  refine r_same (tgt := 1517) dL_law_827 rfl ?_
  exact k h2 hX
theorem lw_foretold {G : gG} {l : Launch} {h : ph} {i : Int} (hL : gS G 8 ≤ 3072) (hi : 0 ≤ i ∧ i + 6 ≤ (gS G 8 : Int)) (hX : RX h 0 166) (k : ∀ h2 : ph, RX h2 0 166 → LwH G l 1517 i h2) : LwH G l 832 i h := by
  obtain ⟨sm, s, R⟩ := hX
  obtain ⟨z, K, e1, e2⟩ : Two G l mX10_foretold 8 mX11_foretold 8 0 166 [vI (scV G (i + 1).toNat), vI (scV G (i + 2).toNat), vI (scV G (i + 3).toNat)] h := tw_foretold R (scV_r G _) (scV_r G _) (scV_r G _)
  unfold LwH at k ⊢
  refine co_aload_n dL_law_832 rfl ?_
  refine co_aload_n dL_law_833 rfl ?_
  refine co_iload_n dL_law_834 rfl ?_
  refine co_iconst dL_law_835 ?_
  refine co_iadd dL_law_836 ?_
  refine r_sld dL_law_837 hL (by omega) ?_
  refine co_aload_n dL_law_838 rfl ?_
  refine co_iload_n dL_law_839 rfl ?_
  refine co_iconst dL_law_840 ?_
  refine co_iadd dL_law_841 ?_
  refine r_sld dL_law_842 hL (by omega) ?_
  refine co_aload_n dL_law_843 rfl ?_
  refine co_iload_n dL_law_844 rfl ?_
  refine co_iconst dL_law_845 ?_
  refine co_iadd dL_law_846 ?_
  refine r_sld dL_law_847 hL (by omega) ?_
  refine c_vQ dL_law_848 e1 (by decide) R.2.1.1.1 rfl rfl (Nat.le_of_ble_eq_true rfl) ?_
  rintro _ h1 ⟨rfl, hK⟩
  obtain ⟨ob, e2⟩ := e2 h1 hK
  refine co_aload_n dL_law_851 rfl ?_
  refine co_aload_n dL_law_852 rfl ?_
  refine co_iload_n dL_law_853 rfl ?_
  refine co_iconst dL_law_854 ?_
  refine co_iadd dL_law_855 ?_
  refine r_sld dL_law_856 hL (by omega) ?_
  refine co_aload_n dL_law_857 rfl ?_
  refine co_iload_n dL_law_858 rfl ?_
  refine co_iconst dL_law_859 ?_
  refine co_iadd dL_law_860 ?_
  refine r_sld dL_law_861 hL (by omega) ?_
  refine co_aload_n dL_law_862 rfl ?_
  refine co_iload_n dL_law_863 rfl ?_
  refine co_iconst dL_law_864 ?_
  refine co_iadd dL_law_865 ?_
  refine r_sld dL_law_866 hL (by omega) ?_
  refine c_vQ dL_law_867 e2 (by decide) ob rfl rfl (Nat.le_of_ble_eq_true rfl) ?_
  rintro _ h2 ⟨rfl, hX⟩
  refine r_same (tgt := 1517) dL_law_870 rfl ?_
  exact k h2 hX
theorem lw_firstSlide {G : gG} {l : Launch} {h : ph} {i : Int} (hL : gS G 8 ≤ 3072) (hi : 0 ≤ i ∧ i + 6 ≤ (gS G 8 : Int)) (hX : RX h 0 166) (k : ∀ h2 : ph, RX h2 0 166 → LwH G l 1517 i h2) : LwH G l 875 i h := by
  obtain ⟨sm, s, R⟩ := hX
  obtain ⟨z, K, e1, e2⟩ : Two G l mX10_firstSlide 8 mX11_firstSlide 7 0 166 [] h := tw_firstSlide R 
  unfold LwH at k ⊢
  refine co_aload_n dL_law_875 rfl ?_
  refine c_vQ dL_law_876 e1 (by decide) R.2.1.1.1 rfl rfl (Nat.le_of_ble_eq_true rfl) ?_
  rintro _ h1 ⟨rfl, hK⟩
  obtain ⟨ob, e2⟩ := e2 h1 hK
  refine co_aload_n dL_law_879 rfl ?_
  refine c_vQ dL_law_880 e2 (by decide) ob rfl rfl (Nat.le_of_ble_eq_true rfl) ?_
  rintro _ h2 ⟨rfl, hX⟩
  refine r_same (tgt := 1517) dL_law_883 rfl ?_
  exact k h2 hX
theorem lw_unmanned {G : gG} {l : Launch} {h : ph} {i : Int} (hL : gS G 8 ≤ 3072) (hi : 0 ≤ i ∧ i + 6 ≤ (gS G 8 : Int)) (hX : RX h 0 166) (k : ∀ h2 : ph, RX h2 0 166 → LwH G l 1517 i h2) : LwH G l 888 i h := by
  obtain ⟨sm, s, R⟩ := hX
  obtain ⟨z, K, e1, e2⟩ : Two G l mX10_unmanned 8 mX11_unmanned 7 0 166 [] h := tw_unmanned R 
  unfold LwH at k ⊢
  refine co_aload_n dL_law_888 rfl ?_
  refine c_vQ dL_law_889 e1 (by decide) R.2.1.1.1 rfl rfl (Nat.le_of_ble_eq_true rfl) ?_
  rintro _ h1 ⟨rfl, hK⟩
  obtain ⟨ob, e2⟩ := e2 h1 hK
  refine co_aload_n dL_law_892 rfl ?_
  refine c_vQ dL_law_893 e2 (by decide) ob rfl rfl (Nat.le_of_ble_eq_true rfl) ?_
  rintro _ h2 ⟨rfl, hX⟩
  refine r_same (tgt := 1517) dL_law_896 rfl ?_
  exact k h2 hX
theorem lw_safe {G : gG} {l : Launch} {h : ph} {i : Int} (hL : gS G 8 ≤ 3072) (hi : 0 ≤ i ∧ i + 6 ≤ (gS G 8 : Int)) (hX : RX h 0 166) (k : ∀ h2 : ph, RX h2 0 166 → LwH G l 1517 i h2) : LwH G l 901 i h := by
  obtain ⟨sm, s, R⟩ := hX
  obtain ⟨z, K, e1, e2⟩ : Two G l mX10_safe 5 mX11_safe 4 0 166 [vI (scV G (i + 1).toNat), vI (scV G (i + 2).toNat)] h := tw_safe R (scV_r G _) (scV_r G _)
  unfold LwH at k ⊢
  refine co_aload_n dL_law_901 rfl ?_
  refine co_aload_n dL_law_902 rfl ?_
  refine co_iload_n dL_law_903 rfl ?_
  refine co_iconst dL_law_904 ?_
  refine co_iadd dL_law_905 ?_
  refine r_sld dL_law_906 hL (by omega) ?_
  refine co_aload_n dL_law_907 rfl ?_
  refine co_iload_n dL_law_908 rfl ?_
  refine co_iconst dL_law_909 ?_
  refine co_iadd dL_law_910 ?_
  refine r_sld dL_law_911 hL (by omega) ?_
  refine c_vQ dL_law_912 e1 (by decide) R.2.1.1.1 rfl rfl (Nat.le_of_ble_eq_true rfl) ?_
  rintro _ h1 ⟨rfl, hK⟩
  obtain ⟨ob, e2⟩ := e2 h1 hK
  refine co_aload_n dL_law_915 rfl ?_
  refine co_aload_n dL_law_916 rfl ?_
  refine co_iload_n dL_law_917 rfl ?_
  refine co_iconst dL_law_918 ?_
  refine co_iadd dL_law_919 ?_
  refine r_sld dL_law_920 hL (by omega) ?_
  refine co_aload_n dL_law_921 rfl ?_
  refine co_iload_n dL_law_922 rfl ?_
  refine co_iconst dL_law_923 ?_
  refine co_iadd dL_law_924 ?_
  refine r_sld dL_law_925 hL (by omega) ?_
  refine c_vQ dL_law_926 e2 (by decide) ob rfl rfl (Nat.le_of_ble_eq_true rfl) ?_
  rintro _ h2 ⟨rfl, hX⟩
  refine r_same (tgt := 1517) dL_law_929 rfl ?_
  exact k h2 hX
theorem lw_heard {G : gG} {l : Launch} {h : ph} {i : Int} (hL : gS G 8 ≤ 3072) (hi : 0 ≤ i ∧ i + 6 ≤ (gS G 8 : Int)) (hX : RX h 0 166) (k : ∀ h2 : ph, RX h2 0 166 → LwH G l 1517 i h2) : LwH G l 934 i h := by
  obtain ⟨sm, s, R⟩ := hX
  obtain ⟨z, K, e1, e2⟩ : Two G l mX10_heard 2 mX11_heard 2 0 166 [vI (scV G (i + 1).toNat), vI (scV G (i + 2).toNat)] h := tw_heard R (scV_r G _) (scV_r G _)
  unfold LwH at k ⊢
  refine co_aload_n dL_law_934 rfl ?_
  refine co_aload_n dL_law_935 rfl ?_
  refine co_iload_n dL_law_936 rfl ?_
  refine co_iconst dL_law_937 ?_
  refine co_iadd dL_law_938 ?_
  refine r_sld dL_law_939 hL (by omega) ?_
  refine co_aload_n dL_law_940 rfl ?_
  refine co_iload_n dL_law_941 rfl ?_
  refine co_iconst dL_law_942 ?_
  refine co_iadd dL_law_943 ?_
  refine r_sld dL_law_944 hL (by omega) ?_
  refine c_vQ dL_law_945 e1 (by decide) R.2.1.1.1 rfl rfl (Nat.le_of_ble_eq_true rfl) ?_
  rintro _ h1 ⟨rfl, hK⟩
  obtain ⟨ob, e2⟩ := e2 h1 hK
  refine co_aload_n dL_law_948 rfl ?_
  refine co_aload_n dL_law_949 rfl ?_
  refine co_iload_n dL_law_950 rfl ?_
  refine co_iconst dL_law_951 ?_
  refine co_iadd dL_law_952 ?_
  refine r_sld dL_law_953 hL (by omega) ?_
  refine co_aload_n dL_law_954 rfl ?_
  refine co_iload_n dL_law_955 rfl ?_
  refine co_iconst dL_law_956 ?_
  refine co_iadd dL_law_957 ?_
  refine r_sld dL_law_958 hL (by omega) ?_
  refine c_vQ dL_law_959 e2 (by decide) ob rfl rfl (Nat.le_of_ble_eq_true rfl) ?_
  rintro _ h2 ⟨rfl, hX⟩
  refine r_same (tgt := 1517) dL_law_962 rfl ?_
  exact k h2 hX
theorem lw_rode {G : gG} {l : Launch} {h : ph} {i : Int} (hL : gS G 8 ≤ 3072) (hi : 0 ≤ i ∧ i + 6 ≤ (gS G 8 : Int)) (hX : RX h 0 166) (k : ∀ h2 : ph, RX h2 0 166 → LwH G l 1517 i h2) : LwH G l 967 i h := by
  obtain ⟨sm, s, R⟩ := hX
  obtain ⟨z, K, e1, e2⟩ : Two G l mX10_rode 5 mX11_rode 4 0 166 [vI (scV G (i + 1).toNat)] h := tw_rode R (scV_r G _)
  unfold LwH at k ⊢
  refine co_aload_n dL_law_967 rfl ?_
  refine co_aload_n dL_law_968 rfl ?_
  refine co_iload_n dL_law_969 rfl ?_
  refine co_iconst dL_law_970 ?_
  refine co_iadd dL_law_971 ?_
  refine r_sld dL_law_972 hL (by omega) ?_
  refine c_vQ dL_law_973 e1 (by decide) R.2.1.1.1 rfl rfl (Nat.le_of_ble_eq_true rfl) ?_
  rintro _ h1 ⟨rfl, hK⟩
  obtain ⟨ob, e2⟩ := e2 h1 hK
  refine co_aload_n dL_law_976 rfl ?_
  refine co_aload_n dL_law_977 rfl ?_
  refine co_iload_n dL_law_978 rfl ?_
  refine co_iconst dL_law_979 ?_
  refine co_iadd dL_law_980 ?_
  refine r_sld dL_law_981 hL (by omega) ?_
  refine c_vQ dL_law_982 e2 (by decide) ob rfl rfl (Nat.le_of_ble_eq_true rfl) ?_
  rintro _ h2 ⟨rfl, hX⟩
  refine r_same (tgt := 1517) dL_law_985 rfl ?_
  exact k h2 hX
theorem lw_listen {G : gG} {l : Launch} {h : ph} {i : Int} (hL : gS G 8 ≤ 3072) (hi : 0 ≤ i ∧ i + 6 ≤ (gS G 8 : Int)) (hX : RX h 0 166) (k : ∀ h2 : ph, RX h2 0 166 → LwH G l 1517 i h2) : LwH G l 990 i h := by
  obtain ⟨sm, s, R⟩ := hX
  obtain ⟨z, K, e1, e2⟩ : Two G l mX10_listen 5 mX11_listen 4 0 166 [vI (scV G (i + 1).toNat)] h := tw_listen R (scV_r G _)
  unfold LwH at k ⊢
  refine co_aload_n dL_law_990 rfl ?_
  refine co_aload_n dL_law_991 rfl ?_
  refine co_iload_n dL_law_992 rfl ?_
  refine co_iconst dL_law_993 ?_
  refine co_iadd dL_law_994 ?_
  refine r_sld dL_law_995 hL (by omega) ?_
  refine c_vQ dL_law_996 e1 (by decide) R.2.1.1.1 rfl rfl (Nat.le_of_ble_eq_true rfl) ?_
  rintro _ h1 ⟨rfl, hK⟩
  obtain ⟨ob, e2⟩ := e2 h1 hK
  refine co_aload_n dL_law_999 rfl ?_
  refine co_aload_n dL_law_1000 rfl ?_
  refine co_iload_n dL_law_1001 rfl ?_
  refine co_iconst dL_law_1002 ?_
  refine co_iadd dL_law_1003 ?_
  refine r_sld dL_law_1004 hL (by omega) ?_
  refine c_vQ dL_law_1005 e2 (by decide) ob rfl rfl (Nat.le_of_ble_eq_true rfl) ?_
  rintro _ h2 ⟨rfl, hX⟩
  refine r_same (tgt := 1517) dL_law_1008 rfl ?_
  exact k h2 hX
theorem lw_watch {G : gG} {l : Launch} {h : ph} {i : Int} (hL : gS G 8 ≤ 3072) (hi : 0 ≤ i ∧ i + 6 ≤ (gS G 8 : Int)) (hX : RX h 0 166) (k : ∀ h2 : ph, RX h2 0 166 → LwH G l 1517 i h2) : LwH G l 1013 i h := by
  obtain ⟨sm, s, R⟩ := hX
  obtain ⟨z, K, e1, e2⟩ : Two G l mX10_watch 2 mX11_watch 2 0 166 [vI (scV G (i + 1).toNat), vI (scV G (i + 2).toNat), vI (scV G (i + 3).toNat)] h := tw_watch R (scV_r G _) (scV_r G _) (scV_r G _)
  unfold LwH at k ⊢
  refine co_aload_n dL_law_1013 rfl ?_
  refine co_aload_n dL_law_1014 rfl ?_
  refine co_iload_n dL_law_1015 rfl ?_
  refine co_iconst dL_law_1016 ?_
  refine co_iadd dL_law_1017 ?_
  refine r_sld dL_law_1018 hL (by omega) ?_
  refine co_aload_n dL_law_1019 rfl ?_
  refine co_iload_n dL_law_1020 rfl ?_
  refine co_iconst dL_law_1021 ?_
  refine co_iadd dL_law_1022 ?_
  refine r_sld dL_law_1023 hL (by omega) ?_
  refine co_aload_n dL_law_1024 rfl ?_
  refine co_iload_n dL_law_1025 rfl ?_
  refine co_iconst dL_law_1026 ?_
  refine co_iadd dL_law_1027 ?_
  refine r_sld dL_law_1028 hL (by omega) ?_
  refine c_vQ dL_law_1029 e1 (by decide) R.2.1.1.1 rfl rfl (Nat.le_of_ble_eq_true rfl) ?_
  rintro _ h1 ⟨rfl, hK⟩
  obtain ⟨ob, e2⟩ := e2 h1 hK
  refine co_aload_n dL_law_1032 rfl ?_
  refine co_aload_n dL_law_1033 rfl ?_
  refine co_iload_n dL_law_1034 rfl ?_
  refine co_iconst dL_law_1035 ?_
  refine co_iadd dL_law_1036 ?_
  refine r_sld dL_law_1037 hL (by omega) ?_
  refine co_aload_n dL_law_1038 rfl ?_
  refine co_iload_n dL_law_1039 rfl ?_
  refine co_iconst dL_law_1040 ?_
  refine co_iadd dL_law_1041 ?_
  refine r_sld dL_law_1042 hL (by omega) ?_
  refine co_aload_n dL_law_1043 rfl ?_
  refine co_iload_n dL_law_1044 rfl ?_
  refine co_iconst dL_law_1045 ?_
  refine co_iadd dL_law_1046 ?_
  refine r_sld dL_law_1047 hL (by omega) ?_
  refine c_vQ dL_law_1048 e2 (by decide) ob rfl rfl (Nat.le_of_ble_eq_true rfl) ?_
  rintro _ h2 ⟨rfl, hX⟩
  refine r_same (tgt := 1517) dL_law_1051 rfl ?_
  exact k h2 hX
theorem lw_manned {G : gG} {l : Launch} {h : ph} {i : Int} (hL : gS G 8 ≤ 3072) (hi : 0 ≤ i ∧ i + 6 ≤ (gS G 8 : Int)) (hX : RX h 0 166) (k : ∀ h2 : ph, RX h2 0 166 → LwH G l 1517 i h2) : LwH G l 1056 i h := by
  obtain ⟨sm, s, R⟩ := hX
  obtain ⟨z, K, e1, e2⟩ : Two G l mX10_manned 5 mX11_manned 3 0 166 [vI (scV G (i + 1).toNat)] h := tw_manned R (scV_r G _)
  unfold LwH at k ⊢
  refine co_aload_n dL_law_1056 rfl ?_
  refine co_aload_n dL_law_1057 rfl ?_
  refine co_iload_n dL_law_1058 rfl ?_
  refine co_iconst dL_law_1059 ?_
  refine co_iadd dL_law_1060 ?_
  refine r_sld dL_law_1061 hL (by omega) ?_
  refine c_vQ dL_law_1062 e1 (by decide) R.2.1.1.1 rfl rfl (Nat.le_of_ble_eq_true rfl) ?_
  rintro _ h1 ⟨rfl, hK⟩
  obtain ⟨ob, e2⟩ := e2 h1 hK
  refine co_aload_n dL_law_1065 rfl ?_
  refine co_aload_n dL_law_1066 rfl ?_
  refine co_iload_n dL_law_1067 rfl ?_
  refine co_iconst dL_law_1068 ?_
  refine co_iadd dL_law_1069 ?_
  refine r_sld dL_law_1070 hL (by omega) ?_
  refine c_vQ dL_law_1071 e2 (by decide) ob rfl rfl (Nat.le_of_ble_eq_true rfl) ?_
  rintro _ h2 ⟨rfl, hX⟩
  refine r_same (tgt := 1517) dL_law_1074 rfl ?_
  exact k h2 hX
theorem lw_below {G : gG} {l : Launch} {h : ph} {i : Int} (hL : gS G 8 ≤ 3072) (hi : 0 ≤ i ∧ i + 6 ≤ (gS G 8 : Int)) (hX : RX h 0 166) (k : ∀ h2 : ph, RX h2 0 166 → LwH G l 1517 i h2) : LwH G l 1079 i h := by
  obtain ⟨sm, s, R⟩ := hX
  obtain ⟨z, K, e1, e2⟩ : TwoL G l mX10_below 4 mX11_below 2 0 166 [vI (scV G (i + 1).toNat), vI (scV G (i + 2).toNat), vI (scV G (i + 3).toNat), vI ((if scV G (i + 4).toNat = 0 then 0 else 1))] h := tw_below R (scV_r G _) (scV_r G _) (scV_r G _) (scV_b _)
  unfold LwH at k ⊢
  by_cases c9 : scV G (i + 4).toNat = 0
  · rw [if_pos c9] at e1 e2
    refine co_aload_n dL_law_1079 rfl ?_
    refine co_aload_n dL_law_1080 rfl ?_
    refine co_iload_n dL_law_1081 rfl ?_
    refine co_iconst dL_law_1082 ?_
    refine co_iadd dL_law_1083 ?_
    refine r_sld dL_law_1084 hL (by omega) ?_
    refine co_aload_n dL_law_1085 rfl ?_
    refine co_iload_n dL_law_1086 rfl ?_
    refine co_iconst dL_law_1087 ?_
    refine co_iadd dL_law_1088 ?_
    refine r_sld dL_law_1089 hL (by omega) ?_
    refine co_aload_n dL_law_1090 rfl ?_
    refine co_iload_n dL_law_1091 rfl ?_
    refine co_iconst dL_law_1092 ?_
    refine co_iadd dL_law_1093 ?_
    refine r_sld dL_law_1094 hL (by omega) ?_
    refine co_aload_n dL_law_1095 rfl ?_
    refine co_iload_n dL_law_1096 rfl ?_
    refine co_iconst dL_law_1097 ?_
    refine co_iadd dL_law_1098 ?_
    refine r_sld dL_law_1099 hL (by omega) ?_
    refine co_if_eq (tgt := 1107) dL_law_1100 rfl (scV_r G _) (fun _ => ?_) (fun q => absurd c9 q)
    refine co_iconst dL_law_1107 ?_
    refine c_vQ dL_law_1108 e1 (by decide) R.2.1.1.1 rfl rfl (Nat.le_of_ble_eq_true rfl) ?_
    rintro _ h1 ⟨rfl, hK⟩
    obtain ⟨ob, e2⟩ := e2 h1 hK
    refine co_aload_n dL_law_1111 rfl ?_
    refine co_aload_n dL_law_1112 rfl ?_
    refine co_iload_n dL_law_1113 rfl ?_
    refine co_iconst dL_law_1114 ?_
    refine co_iadd dL_law_1115 ?_
    refine r_sld dL_law_1116 hL (by omega) ?_
    refine co_aload_n dL_law_1117 rfl ?_
    refine co_iload_n dL_law_1118 rfl ?_
    refine co_iconst dL_law_1119 ?_
    refine co_iadd dL_law_1120 ?_
    refine r_sld dL_law_1121 hL (by omega) ?_
    refine co_aload_n dL_law_1122 rfl ?_
    refine co_iload_n dL_law_1123 rfl ?_
    refine co_iconst dL_law_1124 ?_
    refine co_iadd dL_law_1125 ?_
    refine r_sld dL_law_1126 hL (by omega) ?_
    refine co_aload_n dL_law_1127 rfl ?_
    refine co_iload_n dL_law_1128 rfl ?_
    refine co_iconst dL_law_1129 ?_
    refine co_iadd dL_law_1130 ?_
    refine r_sld dL_law_1131 hL (by omega) ?_
    refine co_if_eq (tgt := 1139) dL_law_1132 rfl (scV_r G _) (fun _ => ?_) (fun q => absurd c9 q)
    refine co_iconst dL_law_1139 ?_
    refine c_vQ dL_law_1140 e2 (by decide) ob rfl rfl (Nat.le_of_ble_eq_true rfl) ?_
    rintro _ h2 ⟨rfl, hX⟩
    refine r_lsame dL_law_1143 ?_
    refine co_if_eq (tgt := 1517) dL_law_1144 rfl (by decide) (fun _ => ?_) (fun q => absurd rfl q)
    exact k h2 hX
  · rw [if_neg c9] at e1 e2
    refine co_aload_n dL_law_1079 rfl ?_
    refine co_aload_n dL_law_1080 rfl ?_
    refine co_iload_n dL_law_1081 rfl ?_
    refine co_iconst dL_law_1082 ?_
    refine co_iadd dL_law_1083 ?_
    refine r_sld dL_law_1084 hL (by omega) ?_
    refine co_aload_n dL_law_1085 rfl ?_
    refine co_iload_n dL_law_1086 rfl ?_
    refine co_iconst dL_law_1087 ?_
    refine co_iadd dL_law_1088 ?_
    refine r_sld dL_law_1089 hL (by omega) ?_
    refine co_aload_n dL_law_1090 rfl ?_
    refine co_iload_n dL_law_1091 rfl ?_
    refine co_iconst dL_law_1092 ?_
    refine co_iadd dL_law_1093 ?_
    refine r_sld dL_law_1094 hL (by omega) ?_
    refine co_aload_n dL_law_1095 rfl ?_
    refine co_iload_n dL_law_1096 rfl ?_
    refine co_iconst dL_law_1097 ?_
    refine co_iadd dL_law_1098 ?_
    refine r_sld dL_law_1099 hL (by omega) ?_
    refine co_if_eq (tgt := 1107) dL_law_1100 rfl (scV_r G _) (fun q => absurd q c9) (fun _ => ?_)
    refine co_iconst dL_law_1103 ?_
    refine co_goto (tgt := 1108) dL_law_1104 rfl ?_
    refine c_vQ dL_law_1108 e1 (by decide) R.2.1.1.1 rfl rfl (Nat.le_of_ble_eq_true rfl) ?_
    rintro _ h1 ⟨rfl, hK⟩
    obtain ⟨ob, e2⟩ := e2 h1 hK
    refine co_aload_n dL_law_1111 rfl ?_
    refine co_aload_n dL_law_1112 rfl ?_
    refine co_iload_n dL_law_1113 rfl ?_
    refine co_iconst dL_law_1114 ?_
    refine co_iadd dL_law_1115 ?_
    refine r_sld dL_law_1116 hL (by omega) ?_
    refine co_aload_n dL_law_1117 rfl ?_
    refine co_iload_n dL_law_1118 rfl ?_
    refine co_iconst dL_law_1119 ?_
    refine co_iadd dL_law_1120 ?_
    refine r_sld dL_law_1121 hL (by omega) ?_
    refine co_aload_n dL_law_1122 rfl ?_
    refine co_iload_n dL_law_1123 rfl ?_
    refine co_iconst dL_law_1124 ?_
    refine co_iadd dL_law_1125 ?_
    refine r_sld dL_law_1126 hL (by omega) ?_
    refine co_aload_n dL_law_1127 rfl ?_
    refine co_iload_n dL_law_1128 rfl ?_
    refine co_iconst dL_law_1129 ?_
    refine co_iadd dL_law_1130 ?_
    refine r_sld dL_law_1131 hL (by omega) ?_
    refine co_if_eq (tgt := 1139) dL_law_1132 rfl (scV_r G _) (fun q => absurd q c9) (fun _ => ?_)
    refine co_iconst dL_law_1135 ?_
    refine co_goto (tgt := 1140) dL_law_1136 rfl ?_
    refine c_vQ dL_law_1140 e2 (by decide) ob rfl rfl (Nat.le_of_ble_eq_true rfl) ?_
    rintro _ h2 ⟨rfl, hX⟩
    refine r_lsame dL_law_1143 ?_
    refine co_if_eq (tgt := 1517) dL_law_1144 rfl (by decide) (fun _ => ?_) (fun q => absurd rfl q)
    exact k h2 hX
theorem lw_gale {G : gG} {l : Launch} {h : ph} {i : Int} (hL : gS G 8 ≤ 3072) (hi : 0 ≤ i ∧ i + 6 ≤ (gS G 8 : Int)) (hX : RX h 0 166) (k : ∀ h2 : ph, RX h2 0 166 → LwH G l 1517 i h2) : LwH G l 1149 i h := by
  obtain ⟨sm, s, R⟩ := hX
  obtain ⟨z, K, e1, e2⟩ : TwoL G l mX10_gale 4 mX11_gale 2 0 166 [vI (scV G (i + 1).toNat), vI (scV G (i + 2).toNat), vI (scV G (i + 3).toNat), vI ((if scV G (i + 4).toNat = 0 then 0 else 1))] h := tw_gale R (scV_r G _) (scV_r G _) (scV_r G _) (scV_b _)
  unfold LwH at k ⊢
  by_cases c9 : scV G (i + 4).toNat = 0
  · rw [if_pos c9] at e1 e2
    refine co_aload_n dL_law_1149 rfl ?_
    refine co_aload_n dL_law_1150 rfl ?_
    refine co_iload_n dL_law_1151 rfl ?_
    refine co_iconst dL_law_1152 ?_
    refine co_iadd dL_law_1153 ?_
    refine r_sld dL_law_1154 hL (by omega) ?_
    refine co_aload_n dL_law_1155 rfl ?_
    refine co_iload_n dL_law_1156 rfl ?_
    refine co_iconst dL_law_1157 ?_
    refine co_iadd dL_law_1158 ?_
    refine r_sld dL_law_1159 hL (by omega) ?_
    refine co_aload_n dL_law_1160 rfl ?_
    refine co_iload_n dL_law_1161 rfl ?_
    refine co_iconst dL_law_1162 ?_
    refine co_iadd dL_law_1163 ?_
    refine r_sld dL_law_1164 hL (by omega) ?_
    refine co_aload_n dL_law_1165 rfl ?_
    refine co_iload_n dL_law_1166 rfl ?_
    refine co_iconst dL_law_1167 ?_
    refine co_iadd dL_law_1168 ?_
    refine r_sld dL_law_1169 hL (by omega) ?_
    refine co_if_eq (tgt := 1177) dL_law_1170 rfl (scV_r G _) (fun _ => ?_) (fun q => absurd c9 q)
    refine co_iconst dL_law_1177 ?_
    refine c_vQ dL_law_1178 e1 (by decide) R.2.1.1.1 rfl rfl (Nat.le_of_ble_eq_true rfl) ?_
    rintro _ h1 ⟨rfl, hK⟩
    obtain ⟨ob, e2⟩ := e2 h1 hK
    refine co_aload_n dL_law_1181 rfl ?_
    refine co_aload_n dL_law_1182 rfl ?_
    refine co_iload_n dL_law_1183 rfl ?_
    refine co_iconst dL_law_1184 ?_
    refine co_iadd dL_law_1185 ?_
    refine r_sld dL_law_1186 hL (by omega) ?_
    refine co_aload_n dL_law_1187 rfl ?_
    refine co_iload_n dL_law_1188 rfl ?_
    refine co_iconst dL_law_1189 ?_
    refine co_iadd dL_law_1190 ?_
    refine r_sld dL_law_1191 hL (by omega) ?_
    refine co_aload_n dL_law_1192 rfl ?_
    refine co_iload_n dL_law_1193 rfl ?_
    refine co_iconst dL_law_1194 ?_
    refine co_iadd dL_law_1195 ?_
    refine r_sld dL_law_1196 hL (by omega) ?_
    refine co_aload_n dL_law_1197 rfl ?_
    refine co_iload_n dL_law_1198 rfl ?_
    refine co_iconst dL_law_1199 ?_
    refine co_iadd dL_law_1200 ?_
    refine r_sld dL_law_1201 hL (by omega) ?_
    refine co_if_eq (tgt := 1209) dL_law_1202 rfl (scV_r G _) (fun _ => ?_) (fun q => absurd c9 q)
    refine co_iconst dL_law_1209 ?_
    refine c_vQ dL_law_1210 e2 (by decide) ob rfl rfl (Nat.le_of_ble_eq_true rfl) ?_
    rintro _ h2 ⟨rfl, hX⟩
    refine r_lsame dL_law_1213 ?_
    refine co_if_eq (tgt := 1517) dL_law_1214 rfl (by decide) (fun _ => ?_) (fun q => absurd rfl q)
    exact k h2 hX
  · rw [if_neg c9] at e1 e2
    refine co_aload_n dL_law_1149 rfl ?_
    refine co_aload_n dL_law_1150 rfl ?_
    refine co_iload_n dL_law_1151 rfl ?_
    refine co_iconst dL_law_1152 ?_
    refine co_iadd dL_law_1153 ?_
    refine r_sld dL_law_1154 hL (by omega) ?_
    refine co_aload_n dL_law_1155 rfl ?_
    refine co_iload_n dL_law_1156 rfl ?_
    refine co_iconst dL_law_1157 ?_
    refine co_iadd dL_law_1158 ?_
    refine r_sld dL_law_1159 hL (by omega) ?_
    refine co_aload_n dL_law_1160 rfl ?_
    refine co_iload_n dL_law_1161 rfl ?_
    refine co_iconst dL_law_1162 ?_
    refine co_iadd dL_law_1163 ?_
    refine r_sld dL_law_1164 hL (by omega) ?_
    refine co_aload_n dL_law_1165 rfl ?_
    refine co_iload_n dL_law_1166 rfl ?_
    refine co_iconst dL_law_1167 ?_
    refine co_iadd dL_law_1168 ?_
    refine r_sld dL_law_1169 hL (by omega) ?_
    refine co_if_eq (tgt := 1177) dL_law_1170 rfl (scV_r G _) (fun q => absurd q c9) (fun _ => ?_)
    refine co_iconst dL_law_1173 ?_
    refine co_goto (tgt := 1178) dL_law_1174 rfl ?_
    refine c_vQ dL_law_1178 e1 (by decide) R.2.1.1.1 rfl rfl (Nat.le_of_ble_eq_true rfl) ?_
    rintro _ h1 ⟨rfl, hK⟩
    obtain ⟨ob, e2⟩ := e2 h1 hK
    refine co_aload_n dL_law_1181 rfl ?_
    refine co_aload_n dL_law_1182 rfl ?_
    refine co_iload_n dL_law_1183 rfl ?_
    refine co_iconst dL_law_1184 ?_
    refine co_iadd dL_law_1185 ?_
    refine r_sld dL_law_1186 hL (by omega) ?_
    refine co_aload_n dL_law_1187 rfl ?_
    refine co_iload_n dL_law_1188 rfl ?_
    refine co_iconst dL_law_1189 ?_
    refine co_iadd dL_law_1190 ?_
    refine r_sld dL_law_1191 hL (by omega) ?_
    refine co_aload_n dL_law_1192 rfl ?_
    refine co_iload_n dL_law_1193 rfl ?_
    refine co_iconst dL_law_1194 ?_
    refine co_iadd dL_law_1195 ?_
    refine r_sld dL_law_1196 hL (by omega) ?_
    refine co_aload_n dL_law_1197 rfl ?_
    refine co_iload_n dL_law_1198 rfl ?_
    refine co_iconst dL_law_1199 ?_
    refine co_iadd dL_law_1200 ?_
    refine r_sld dL_law_1201 hL (by omega) ?_
    refine co_if_eq (tgt := 1209) dL_law_1202 rfl (scV_r G _) (fun q => absurd q c9) (fun _ => ?_)
    refine co_iconst dL_law_1205 ?_
    refine co_goto (tgt := 1210) dL_law_1206 rfl ?_
    refine c_vQ dL_law_1210 e2 (by decide) ob rfl rfl (Nat.le_of_ble_eq_true rfl) ?_
    rintro _ h2 ⟨rfl, hX⟩
    refine r_lsame dL_law_1213 ?_
    refine co_if_eq (tgt := 1517) dL_law_1214 rfl (by decide) (fun _ => ?_) (fun q => absurd rfl q)
    exact k h2 hX
theorem lw_ropes {G : gG} {l : Launch} {h : ph} {i : Int} (hL : gS G 8 ≤ 3072) (hi : 0 ≤ i ∧ i + 6 ≤ (gS G 8 : Int)) (hX : RX h 0 166) (k : ∀ h2 : ph, RX h2 0 166 → LwH G l 1517 i h2) : LwH G l 1219 i h := by
  obtain ⟨sm, s, R⟩ := hX
  obtain ⟨z, K, e1, e2⟩ : Two G l mX10_ropes 3 mX11_ropes 2 0 166 [vI (scV G (i + 1).toNat)] h := tw_ropes R (scV_r G _)
  unfold LwH at k ⊢
  refine co_aload_n dL_law_1219 rfl ?_
  refine co_aload_n dL_law_1220 rfl ?_
  refine co_iload_n dL_law_1221 rfl ?_
  refine co_iconst dL_law_1222 ?_
  refine co_iadd dL_law_1223 ?_
  refine r_sld dL_law_1224 hL (by omega) ?_
  refine c_vQ dL_law_1225 e1 (by decide) R.2.1.1.1 rfl rfl (Nat.le_of_ble_eq_true rfl) ?_
  rintro _ h1 ⟨rfl, hK⟩
  obtain ⟨ob, e2⟩ := e2 h1 hK
  refine co_aload_n dL_law_1228 rfl ?_
  refine co_aload_n dL_law_1229 rfl ?_
  refine co_iload_n dL_law_1230 rfl ?_
  refine co_iconst dL_law_1231 ?_
  refine co_iadd dL_law_1232 ?_
  refine r_sld dL_law_1233 hL (by omega) ?_
  refine c_vQ dL_law_1234 e2 (by decide) ob rfl rfl (Nat.le_of_ble_eq_true rfl) ?_
  rintro _ h2 ⟨rfl, hX⟩
  refine r_same (tgt := 1517) dL_law_1237 rfl ?_
  exact k h2 hX
theorem lw_haul {G : gG} {l : Launch} {h : ph} {i : Int} (hL : gS G 8 ≤ 3072) (hi : 0 ≤ i ∧ i + 6 ≤ (gS G 8 : Int)) (hX : RX h 0 166) (k : ∀ h2 : ph, RX h2 0 166 → LwH G l 1517 i h2) : LwH G l 1242 i h := by
  obtain ⟨sm, s, R⟩ := hX
  obtain ⟨z, K, e1, e2⟩ : Two G l mX10_haul 2 mX11_haul 2 0 166 [vI (scV G (i + 1).toNat)] h := tw_haul R (scV_r G _)
  unfold LwH at k ⊢
  refine co_aload_n dL_law_1242 rfl ?_
  refine co_aload_n dL_law_1243 rfl ?_
  refine co_iload_n dL_law_1244 rfl ?_
  refine co_iconst dL_law_1245 ?_
  refine co_iadd dL_law_1246 ?_
  refine r_sld dL_law_1247 hL (by omega) ?_
  refine c_vQ dL_law_1248 e1 (by decide) R.2.1.1.1 rfl rfl (Nat.le_of_ble_eq_true rfl) ?_
  rintro _ h1 ⟨rfl, hK⟩
  obtain ⟨ob, e2⟩ := e2 h1 hK
  refine co_aload_n dL_law_1251 rfl ?_
  refine co_aload_n dL_law_1252 rfl ?_
  refine co_iload_n dL_law_1253 rfl ?_
  refine co_iconst dL_law_1254 ?_
  refine co_iadd dL_law_1255 ?_
  refine r_sld dL_law_1256 hL (by omega) ?_
  refine c_vQ dL_law_1257 e2 (by decide) ob rfl rfl (Nat.le_of_ble_eq_true rfl) ?_
  rintro _ h2 ⟨rfl, hX⟩
  refine r_same (tgt := 1517) dL_law_1260 rfl ?_
  exact k h2 hX
theorem lw_oilings {G : gG} {l : Launch} {h : ph} {i : Int} (hL : gS G 8 ≤ 3072) (hi : 0 ≤ i ∧ i + 6 ≤ (gS G 8 : Int)) (hX : RX h 0 166) (k : ∀ h2 : ph, RX h2 0 166 → LwH G l 1517 i h2) : LwH G l 1265 i h := by
  obtain ⟨sm, s, R⟩ := hX
  obtain ⟨z, K, e1, e2⟩ : Two G l mX10_oilings 3 mX11_oilings 2 0 166 [vI (scV G (i + 1).toNat), vI ((if scV G (i + 2).toNat = 0 then 0 else 1))] h := tw_oilings R (scV_r G _) (scV_b _)
  unfold LwH at k ⊢
  by_cases c9 : scV G (i + 2).toNat = 0
  · rw [if_pos c9] at e1 e2
    refine co_aload_n dL_law_1265 rfl ?_
    refine co_aload_n dL_law_1266 rfl ?_
    refine co_iload_n dL_law_1267 rfl ?_
    refine co_iconst dL_law_1268 ?_
    refine co_iadd dL_law_1269 ?_
    refine r_sld dL_law_1270 hL (by omega) ?_
    refine co_aload_n dL_law_1271 rfl ?_
    refine co_iload_n dL_law_1272 rfl ?_
    refine co_iconst dL_law_1273 ?_
    refine co_iadd dL_law_1274 ?_
    refine r_sld dL_law_1275 hL (by omega) ?_
    refine co_if_eq (tgt := 1283) dL_law_1276 rfl (scV_r G _) (fun _ => ?_) (fun q => absurd c9 q)
    refine co_iconst dL_law_1283 ?_
    refine c_vQ dL_law_1284 e1 (by decide) R.2.1.1.1 rfl rfl (Nat.le_of_ble_eq_true rfl) ?_
    rintro _ h1 ⟨rfl, hK⟩
    obtain ⟨ob, e2⟩ := e2 h1 hK
    refine co_aload_n dL_law_1287 rfl ?_
    refine co_aload_n dL_law_1288 rfl ?_
    refine co_iload_n dL_law_1289 rfl ?_
    refine co_iconst dL_law_1290 ?_
    refine co_iadd dL_law_1291 ?_
    refine r_sld dL_law_1292 hL (by omega) ?_
    refine co_aload_n dL_law_1293 rfl ?_
    refine co_iload_n dL_law_1294 rfl ?_
    refine co_iconst dL_law_1295 ?_
    refine co_iadd dL_law_1296 ?_
    refine r_sld dL_law_1297 hL (by omega) ?_
    refine co_if_eq (tgt := 1305) dL_law_1298 rfl (scV_r G _) (fun _ => ?_) (fun q => absurd c9 q)
    refine co_iconst dL_law_1305 ?_
    refine c_vQ dL_law_1306 e2 (by decide) ob rfl rfl (Nat.le_of_ble_eq_true rfl) ?_
    rintro _ h2 ⟨rfl, hX⟩
    refine r_same (tgt := 1517) dL_law_1309 rfl ?_
    exact k h2 hX
  · rw [if_neg c9] at e1 e2
    refine co_aload_n dL_law_1265 rfl ?_
    refine co_aload_n dL_law_1266 rfl ?_
    refine co_iload_n dL_law_1267 rfl ?_
    refine co_iconst dL_law_1268 ?_
    refine co_iadd dL_law_1269 ?_
    refine r_sld dL_law_1270 hL (by omega) ?_
    refine co_aload_n dL_law_1271 rfl ?_
    refine co_iload_n dL_law_1272 rfl ?_
    refine co_iconst dL_law_1273 ?_
    refine co_iadd dL_law_1274 ?_
    refine r_sld dL_law_1275 hL (by omega) ?_
    refine co_if_eq (tgt := 1283) dL_law_1276 rfl (scV_r G _) (fun q => absurd q c9) (fun _ => ?_)
    refine co_iconst dL_law_1279 ?_
    refine co_goto (tgt := 1284) dL_law_1280 rfl ?_
    refine c_vQ dL_law_1284 e1 (by decide) R.2.1.1.1 rfl rfl (Nat.le_of_ble_eq_true rfl) ?_
    rintro _ h1 ⟨rfl, hK⟩
    obtain ⟨ob, e2⟩ := e2 h1 hK
    refine co_aload_n dL_law_1287 rfl ?_
    refine co_aload_n dL_law_1288 rfl ?_
    refine co_iload_n dL_law_1289 rfl ?_
    refine co_iconst dL_law_1290 ?_
    refine co_iadd dL_law_1291 ?_
    refine r_sld dL_law_1292 hL (by omega) ?_
    refine co_aload_n dL_law_1293 rfl ?_
    refine co_iload_n dL_law_1294 rfl ?_
    refine co_iconst dL_law_1295 ?_
    refine co_iadd dL_law_1296 ?_
    refine r_sld dL_law_1297 hL (by omega) ?_
    refine co_if_eq (tgt := 1305) dL_law_1298 rfl (scV_r G _) (fun q => absurd q c9) (fun _ => ?_)
    refine co_iconst dL_law_1301 ?_
    refine co_goto (tgt := 1306) dL_law_1302 rfl ?_
    refine c_vQ dL_law_1306 e2 (by decide) ob rfl rfl (Nat.le_of_ble_eq_true rfl) ?_
    rintro _ h2 ⟨rfl, hX⟩
    refine r_same (tgt := 1517) dL_law_1309 rfl ?_
    exact k h2 hX
theorem lw_show {G : gG} {l : Launch} {h : ph} {i : Int} (hL : gS G 8 ≤ 3072) (hi : 0 ≤ i ∧ i + 6 ≤ (gS G 8 : Int)) (hX : RX h 0 166) (k : ∀ h2 : ph, RX h2 0 166 → LwH G l 1517 i h2) : LwH G l 1314 i h := by
  obtain ⟨sm, s, R⟩ := hX
  obtain ⟨z, K, e1, e2⟩ : Two G l mX10_show 6 mX11_show 5 0 166 [vI (scV G (i + 1).toNat)] h := tw_show R (scV_r G _)
  unfold LwH at k ⊢
  refine co_aload_n dL_law_1314 rfl ?_
  refine co_aload_n dL_law_1315 rfl ?_
  refine co_iload_n dL_law_1316 rfl ?_
  refine co_iconst dL_law_1317 ?_
  refine co_iadd dL_law_1318 ?_
  refine r_sld dL_law_1319 hL (by omega) ?_
  refine c_vQ dL_law_1320 e1 (by decide) R.2.1.1.1 rfl rfl (Nat.le_of_ble_eq_true rfl) ?_
  rintro _ h1 ⟨rfl, hK⟩
  obtain ⟨ob, e2⟩ := e2 h1 hK
  refine co_aload_n dL_law_1323 rfl ?_
  refine co_aload_n dL_law_1324 rfl ?_
  refine co_iload_n dL_law_1325 rfl ?_
  refine co_iconst dL_law_1326 ?_
  refine co_iadd dL_law_1327 ?_
  refine r_sld dL_law_1328 hL (by omega) ?_
  refine c_vQ dL_law_1329 e2 (by decide) ob rfl rfl (Nat.le_of_ble_eq_true rfl) ?_
  rintro _ h2 ⟨rfl, hX⟩
  refine r_same (tgt := 1517) dL_law_1332 rfl ?_
  exact k h2 hX
theorem lw_counted {G : gG} {l : Launch} {h : ph} {i : Int} (hL : gS G 8 ≤ 3072) (hi : 0 ≤ i ∧ i + 6 ≤ (gS G 8 : Int)) (hX : RX h 0 166) (k : ∀ h2 : ph, RX h2 0 166 → LwH G l 1517 i h2) : LwH G l 1337 i h := by
  obtain ⟨sm, s, R⟩ := hX
  obtain ⟨z, K, e1, e2⟩ : Two G l mX10_counted 2 mX11_counted 2 0 166 [vI (scV G (i + 1).toNat), vI (scV G (i + 2).toNat)] h := tw_counted R (scV_r G _) (scV_r G _)
  unfold LwH at k ⊢
  refine co_aload_n dL_law_1337 rfl ?_
  refine co_aload_n dL_law_1338 rfl ?_
  refine co_iload_n dL_law_1339 rfl ?_
  refine co_iconst dL_law_1340 ?_
  refine co_iadd dL_law_1341 ?_
  refine r_sld dL_law_1342 hL (by omega) ?_
  refine co_aload_n dL_law_1343 rfl ?_
  refine co_iload_n dL_law_1344 rfl ?_
  refine co_iconst dL_law_1345 ?_
  refine co_iadd dL_law_1346 ?_
  refine r_sld dL_law_1347 hL (by omega) ?_
  refine c_vQ dL_law_1348 e1 (by decide) R.2.1.1.1 rfl rfl (Nat.le_of_ble_eq_true rfl) ?_
  rintro _ h1 ⟨rfl, hK⟩
  obtain ⟨ob, e2⟩ := e2 h1 hK
  refine co_aload_n dL_law_1351 rfl ?_
  refine co_aload_n dL_law_1352 rfl ?_
  refine co_iload_n dL_law_1353 rfl ?_
  refine co_iconst dL_law_1354 ?_
  refine co_iadd dL_law_1355 ?_
  refine r_sld dL_law_1356 hL (by omega) ?_
  refine co_aload_n dL_law_1357 rfl ?_
  refine co_iload_n dL_law_1358 rfl ?_
  refine co_iconst dL_law_1359 ?_
  refine co_iadd dL_law_1360 ?_
  refine r_sld dL_law_1361 hL (by omega) ?_
  refine c_vQ dL_law_1362 e2 (by decide) ob rfl rfl (Nat.le_of_ble_eq_true rfl) ?_
  rintro _ h2 ⟨rfl, hX⟩
  refine r_same (tgt := 1517) dL_law_1365 rfl ?_
  exact k h2 hX
theorem lw_whose {G : gG} {l : Launch} {h : ph} {i : Int} (hL : gS G 8 ≤ 3072) (hi : 0 ≤ i ∧ i + 6 ≤ (gS G 8 : Int)) (hX : RX h 0 166) (k : ∀ h2 : ph, RX h2 0 166 → LwH G l 1517 i h2) : LwH G l 1370 i h := by
  obtain ⟨sm, s, R⟩ := hX
  obtain ⟨z, K, e1, e2⟩ : Two G l mX10_whose 6 mX11_whose 5 0 166 [] h := tw_whose R 
  unfold LwH at k ⊢
  refine co_aload_n dL_law_1370 rfl ?_
  refine c_vQ dL_law_1371 e1 (by decide) R.2.1.1.1 rfl rfl (Nat.le_of_ble_eq_true rfl) ?_
  rintro _ h1 ⟨rfl, hK⟩
  obtain ⟨ob, e2⟩ := e2 h1 hK
  refine co_aload_n dL_law_1374 rfl ?_
  refine c_vQ dL_law_1375 e2 (by decide) ob rfl rfl (Nat.le_of_ble_eq_true rfl) ?_
  rintro _ h2 ⟨rfl, hX⟩
  refine r_same (tgt := 1517) dL_law_1378 rfl ?_
  exact k h2 hX
theorem lw_slid {G : gG} {l : Launch} {h : ph} {i : Int} (hL : gS G 8 ≤ 3072) (hi : 0 ≤ i ∧ i + 6 ≤ (gS G 8 : Int)) (hX : RX h 0 166) (k : ∀ h2 : ph, RX h2 0 166 → LwH G l 1517 i h2) : LwH G l 1383 i h := by
  obtain ⟨sm, s, R⟩ := hX
  obtain ⟨z, K, e1, e2⟩ : Two G l mX10_slid 2 mX11_slid 2 0 166 [vI (scV G (i + 1).toNat)] h := tw_slid R (scV_r G _)
  unfold LwH at k ⊢
  refine co_aload_n dL_law_1383 rfl ?_
  refine co_aload_n dL_law_1384 rfl ?_
  refine co_iload_n dL_law_1385 rfl ?_
  refine co_iconst dL_law_1386 ?_
  refine co_iadd dL_law_1387 ?_
  refine r_sld dL_law_1388 hL (by omega) ?_
  refine c_vQ dL_law_1389 e1 (by decide) R.2.1.1.1 rfl rfl (Nat.le_of_ble_eq_true rfl) ?_
  rintro _ h1 ⟨rfl, hK⟩
  obtain ⟨ob, e2⟩ := e2 h1 hK
  refine co_aload_n dL_law_1392 rfl ?_
  refine co_aload_n dL_law_1393 rfl ?_
  refine co_iload_n dL_law_1394 rfl ?_
  refine co_iconst dL_law_1395 ?_
  refine co_iadd dL_law_1396 ?_
  refine r_sld dL_law_1397 hL (by omega) ?_
  refine c_vQ dL_law_1398 e2 (by decide) ob rfl rfl (Nat.le_of_ble_eq_true rfl) ?_
  rintro _ h2 ⟨rfl, hX⟩
  refine r_same (tgt := 1517) dL_law_1401 rfl ?_
  exact k h2 hX
theorem lw_inStep {G : gG} {l : Launch} {h : ph} {i : Int} (hL : gS G 8 ≤ 3072) (hi : 0 ≤ i ∧ i + 6 ≤ (gS G 8 : Int)) (hX : RX h 0 166) (k : ∀ h2 : ph, RX h2 0 166 → LwH G l 1517 i h2) : LwH G l 1406 i h := by
  obtain ⟨sm, s, R⟩ := hX
  obtain ⟨z, K, e1, e2⟩ : Two G l mX10_inStep 2 mX11_inStep 1 0 166 [] h := tw_inStep R 
  unfold LwH at k ⊢
  refine co_aload_n dL_law_1406 rfl ?_
  refine c_vQ dL_law_1407 e1 (by decide) R.2.1.1.1 rfl rfl (Nat.le_of_ble_eq_true rfl) ?_
  rintro _ h1 ⟨rfl, hK⟩
  obtain ⟨ob, e2⟩ := e2 h1 hK
  refine co_aload_n dL_law_1410 rfl ?_
  refine c_vQ dL_law_1411 e2 (by decide) ob rfl rfl (Nat.le_of_ble_eq_true rfl) ?_
  rintro _ h2 ⟨rfl, hX⟩
  refine r_same (tgt := 1517) dL_law_1414 rfl ?_
  exact k h2 hX
theorem lw_tiredest {G : gG} {l : Launch} {h : ph} {i : Int} (hL : gS G 8 ≤ 3072) (hi : 0 ≤ i ∧ i + 6 ≤ (gS G 8 : Int)) (hX : RX h 0 166) (k : ∀ h2 : ph, RX h2 0 166 → LwH G l 1517 i h2) : LwH G l 1419 i h := by
  obtain ⟨sm, s, R⟩ := hX
  obtain ⟨z, K, e1, e2⟩ : Two G l mX10_tiredest 2 mX11_tiredest 1 0 166 [] h := tw_tiredest R 
  unfold LwH at k ⊢
  refine co_aload_n dL_law_1419 rfl ?_
  refine c_vQ dL_law_1420 e1 (by decide) R.2.1.1.1 rfl rfl (Nat.le_of_ble_eq_true rfl) ?_
  rintro _ h1 ⟨rfl, hK⟩
  obtain ⟨ob, e2⟩ := e2 h1 hK
  refine co_aload_n dL_law_1423 rfl ?_
  refine c_vQ dL_law_1424 e2 (by decide) ob rfl rfl (Nat.le_of_ble_eq_true rfl) ?_
  rintro _ h2 ⟨rfl, hX⟩
  refine r_same (tgt := 1517) dL_law_1427 rfl ?_
  exact k h2 hX
theorem lw_veterans {G : gG} {l : Launch} {h : ph} {i : Int} (hL : gS G 8 ≤ 3072) (hi : 0 ≤ i ∧ i + 6 ≤ (gS G 8 : Int)) (hX : RX h 0 166) (k : ∀ h2 : ph, RX h2 0 166 → LwH G l 1517 i h2) : LwH G l 1432 i h := by
  obtain ⟨sm, s, R⟩ := hX
  obtain ⟨z, K, e1, e2⟩ : Two G l mX10_veterans 2 mX11_veterans 1 0 166 [vI (scV G (i + 1).toNat)] h := tw_veterans R (scV_r G _)
  unfold LwH at k ⊢
  refine co_aload_n dL_law_1432 rfl ?_
  refine co_aload_n dL_law_1433 rfl ?_
  refine co_iload_n dL_law_1434 rfl ?_
  refine co_iconst dL_law_1435 ?_
  refine co_iadd dL_law_1436 ?_
  refine r_sld dL_law_1437 hL (by omega) ?_
  refine c_vQ dL_law_1438 e1 (by decide) R.2.1.1.1 rfl rfl (Nat.le_of_ble_eq_true rfl) ?_
  rintro _ h1 ⟨rfl, hK⟩
  obtain ⟨ob, e2⟩ := e2 h1 hK
  refine co_aload_n dL_law_1441 rfl ?_
  refine co_aload_n dL_law_1442 rfl ?_
  refine co_iload_n dL_law_1443 rfl ?_
  refine co_iconst dL_law_1444 ?_
  refine co_iadd dL_law_1445 ?_
  refine r_sld dL_law_1446 hL (by omega) ?_
  refine c_vQ dL_law_1447 e2 (by decide) ob rfl rfl (Nat.le_of_ble_eq_true rfl) ?_
  rintro _ h2 ⟨rfl, hX⟩
  refine r_same (tgt := 1517) dL_law_1450 rfl ?_
  exact k h2 hX
theorem lw_lonely {G : gG} {l : Launch} {h : ph} {i : Int} (hL : gS G 8 ≤ 3072) (hi : 0 ≤ i ∧ i + 6 ≤ (gS G 8 : Int)) (hX : RX h 0 166) (k : ∀ h2 : ph, RX h2 0 166 → LwH G l 1517 i h2) : LwH G l 1455 i h := by
  obtain ⟨sm, s, R⟩ := hX
  obtain ⟨z, K, e1, e2⟩ : Two G l mX10_lonely 4 mX11_lonely 3 0 166 [] h := tw_lonely R 
  unfold LwH at k ⊢
  refine co_aload_n dL_law_1455 rfl ?_
  refine c_vQ dL_law_1456 e1 (by decide) R.2.1.1.1 rfl rfl (Nat.le_of_ble_eq_true rfl) ?_
  rintro _ h1 ⟨rfl, hK⟩
  obtain ⟨ob, e2⟩ := e2 h1 hK
  refine co_aload_n dL_law_1459 rfl ?_
  refine c_vQ dL_law_1460 e2 (by decide) ob rfl rfl (Nat.le_of_ble_eq_true rfl) ?_
  rintro _ h2 ⟨rfl, hX⟩
  refine r_same (tgt := 1517) dL_law_1463 rfl ?_
  exact k h2 hX
theorem lw_image {G : gG} {l : Launch} {h : ph} {i : Int} (hL : gS G 8 ≤ 3072) (hi : 0 ≤ i ∧ i + 6 ≤ (gS G 8 : Int)) (hX : RX h 0 166) (k : ∀ h2 : ph, RX h2 0 166 → LwH G l 1517 i h2) : LwH G l 1468 i h := by
  obtain ⟨sm, s, R⟩ := hX
  obtain ⟨z, K, e1, e2⟩ : Two G l mX10_image 3 mX11_image 1 0 166 [] h := tw_image R 
  unfold LwH at k ⊢
  refine co_aload_n dL_law_1468 rfl ?_
  refine c_vQ dL_law_1469 e1 (by decide) R.2.1.1.1 rfl rfl (Nat.le_of_ble_eq_true rfl) ?_
  rintro _ h1 ⟨rfl, hK⟩
  obtain ⟨ob, e2⟩ := e2 h1 hK
  refine co_aload_n dL_law_1472 rfl ?_
  refine c_vQ dL_law_1473 e2 (by decide) ob rfl rfl (Nat.le_of_ble_eq_true rfl) ?_
  rintro _ h2 ⟨rfl, hX⟩
  refine r_same (tgt := 1517) dL_law_1476 rfl ?_
  exact k h2 hX
theorem lw_back {G : gG} {l : Launch} {h : ph} {i : Int} (hL : gS G 8 ≤ 3072) (hi : 0 ≤ i ∧ i + 6 ≤ (gS G 8 : Int)) (hX : RX h 0 166) (k : ∀ h2 : ph, RX h2 0 166 → LwH G l 1517 i h2) : LwH G l 1481 i h := by
  obtain ⟨sm, s, R⟩ := hX
  obtain ⟨z, K, e1, e2⟩ : Two G l mX10_back 3 mX11_back 1 0 166 [] h := tw_back R 
  unfold LwH at k ⊢
  refine co_aload_n dL_law_1481 rfl ?_
  refine c_vQ dL_law_1482 e1 (by decide) R.2.1.1.1 rfl rfl (Nat.le_of_ble_eq_true rfl) ?_
  rintro _ h1 ⟨rfl, hK⟩
  obtain ⟨ob, e2⟩ := e2 h1 hK
  refine co_aload_n dL_law_1485 rfl ?_
  refine c_vQ dL_law_1486 e2 (by decide) ob rfl rfl (Nat.le_of_ble_eq_true rfl) ?_
  rintro _ h2 ⟨rfl, hX⟩
  refine r_same (tgt := 1517) dL_law_1489 rfl ?_
  exact k h2 hX
theorem lw_about {G : gG} {l : Launch} {h : ph} {i : Int} (hL : gS G 8 ≤ 3072) (hi : 0 ≤ i ∧ i + 6 ≤ (gS G 8 : Int)) (hX : RX h 0 166) (k : ∀ h2 : ph, RX h2 0 166 → LwH G l 1517 i h2) : LwH G l 1494 i h := by
  obtain ⟨sm, s, R⟩ := hX
  obtain ⟨z, K, e1, e2⟩ : Two G l mX10_about 1 mX11_about 1 0 166 [vI (scV G (i + 1).toNat)] h := tw_about R (scV_r G _)
  unfold LwH at k ⊢
  refine co_aload_n dL_law_1494 rfl ?_
  refine co_aload_n dL_law_1495 rfl ?_
  refine co_iload_n dL_law_1496 rfl ?_
  refine co_iconst dL_law_1497 ?_
  refine co_iadd dL_law_1498 ?_
  refine r_sld dL_law_1499 hL (by omega) ?_
  refine c_vQ dL_law_1500 e1 (by decide) R.2.1.1.1 rfl rfl (Nat.le_of_ble_eq_true rfl) ?_
  rintro _ h1 ⟨rfl, hK⟩
  obtain ⟨ob, e2⟩ := e2 h1 hK
  refine co_aload_n dL_law_1503 rfl ?_
  refine co_aload_n dL_law_1504 rfl ?_
  refine co_iload_n dL_law_1505 rfl ?_
  refine co_iconst dL_law_1506 ?_
  refine co_iadd dL_law_1507 ?_
  refine r_sld dL_law_1508 hL (by omega) ?_
  refine c_vQ dL_law_1509 e2 (by decide) ob rfl rfl (Nat.le_of_ble_eq_true rfl) ?_
  rintro _ h2 ⟨rfl, hX⟩
  refine r_same (tgt := 1517) dL_law_1512 rfl ?_
  exact k h2 hX
