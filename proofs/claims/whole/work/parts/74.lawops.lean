theorem lo_0 {N : Nat} {xs : Nat → Int32} (hN : N ≤ 3072) {i : Int} (h0 : 0 ≤ i) (h6 : i + 6 ≤ N) {μ : Mem} (h : REL μ) (k : ∀ ρ, REL ρ → AL N xs 1453 (LL i) [] ρ) : AL N xs 200 (LL i) [] μ := by
  refine l_aload (i := 1) dL_law_200 rfl ?_
  refine l_arg dL_law_201 dL_law_202 dL_law_203 dL_law_204 dL_law_205 hN (by omega) (by omega) ?_
  refine lV1i dL_law_206 lnL_13 okX8_type ⟨8, TX8, 11, rfl, rfl⟩ ⟨by decide, by decide⟩ (Nat.le_of_ble_eq_true rfl) (ro_type scr_in  h) (fun z ν hM => ?_)
  refine l_aload (i := 2) dL_law_209 rfl ?_
  refine l_arg dL_law_210 dL_law_211 dL_law_212 dL_law_213 dL_law_214 hN (by omega) (by omega) ?_
  refine lV1i dL_law_215 lnL_17 okX9_type ⟨9, TX9, 40, rfl, rfl⟩ ⟨by decide, by decide⟩ (Nat.le_of_ble_eq_true rfl) hM (fun w ρ hR => ?_)
  obtain ⟨rfl, hR⟩ := hR
  exact l_same 1453 dL_law_218 rfl (k ρ hR)
theorem lo_1 {N : Nat} {xs : Nat → Int32} (hN : N ≤ 3072) {i : Int} (h0 : 0 ≤ i) (h6 : i + 6 ≤ N) {μ : Mem} (h : REL μ) (k : ∀ ρ, REL ρ → AL N xs 1453 (LL i) [] ρ) : AL N xs 223 (LL i) [] μ := by
  refine l_aload (i := 1) dL_law_223 rfl ?_
  refine lV0i dL_law_224 lnL_18 okX8_wipe ⟨8, TX8, 11, rfl, rfl⟩ ⟨by decide, by decide⟩ (Nat.le_of_ble_eq_true rfl) (ro_wipe  h) (fun z ν hM => ?_)
  refine l_aload (i := 2) dL_law_227 rfl ?_
  refine lV0i dL_law_228 lnL_22 okX9_wipe ⟨9, TX9, 40, rfl, rfl⟩ ⟨by decide, by decide⟩ (Nat.le_of_ble_eq_true rfl) hM (fun w ρ hR => ?_)
  obtain ⟨rfl, hR⟩ := hR
  exact l_same 1453 dL_law_231 rfl (k ρ hR)
theorem lo_2 {N : Nat} {xs : Nat → Int32} (hN : N ≤ 3072) {i : Int} (h0 : 0 ≤ i) (h6 : i + 6 ≤ N) {μ : Mem} (h : REL μ) (k : ∀ ρ, REL ρ → AL N xs 1453 (LL i) [] ρ) : AL N xs 236 (LL i) [] μ := by
  refine l_aload (i := 1) dL_law_236 rfl ?_
  refine lV0i dL_law_237 lnL_23 okX8_fault ⟨8, TX8, 11, rfl, rfl⟩ ⟨by decide, by decide⟩ (Nat.le_of_ble_eq_true rfl) (ro_fault  h) (fun z ν hM => ?_)
  refine l_aload (i := 2) dL_law_240 rfl ?_
  refine lV0i dL_law_241 lnL_26 okX9_fault ⟨9, TX9, 40, rfl, rfl⟩ ⟨by decide, by decide⟩ (Nat.le_of_ble_eq_true rfl) hM (fun w ρ hR => ?_)
  obtain ⟨rfl, hR⟩ := hR
  exact l_same 1453 dL_law_244 rfl (k ρ hR)
theorem lo_3 {N : Nat} {xs : Nat → Int32} (hN : N ≤ 3072) {i : Int} (h0 : 0 ≤ i) (h6 : i + 6 ≤ N) {μ : Mem} (h : REL μ) (k : ∀ ρ, REL ρ → AL N xs 1453 (LL i) [] ρ) : AL N xs 249 (LL i) [] μ := by
  refine l_aload (i := 1) dL_law_249 rfl ?_
  refine l_arg dL_law_250 dL_law_251 dL_law_252 dL_law_253 dL_law_254 hN (by omega) (by omega) ?_
  refine l_arg dL_law_255 dL_law_256 dL_law_257 dL_law_258 dL_law_259 hN (by omega) (by omega) ?_
  refine lV2i dL_law_260 lnL_27 okX8_person ⟨8, TX8, 11, rfl, rfl⟩ ⟨by decide, by decide⟩ (Nat.le_of_ble_eq_true rfl) (ro_person scr_in scr_in  h) (fun z ν hM => ?_)
  refine l_aload (i := 2) dL_law_263 rfl ?_
  refine l_arg dL_law_264 dL_law_265 dL_law_266 dL_law_267 dL_law_268 hN (by omega) (by omega) ?_
  refine l_arg dL_law_269 dL_law_270 dL_law_271 dL_law_272 dL_law_273 hN (by omega) (by omega) ?_
  refine lV2i dL_law_274 lnL_31 okX9_person ⟨9, TX9, 40, rfl, rfl⟩ ⟨by decide, by decide⟩ (Nat.le_of_ble_eq_true rfl) hM (fun w ρ hR => ?_)
  obtain ⟨rfl, hR⟩ := hR
  exact l_same 1453 dL_law_277 rfl (k ρ hR)
theorem lo_4 {N : Nat} {xs : Nat → Int32} (hN : N ≤ 3072) {i : Int} (h0 : 0 ≤ i) (h6 : i + 6 ≤ N) {μ : Mem} (h : REL μ) (k : ∀ ρ, REL ρ → AL N xs 1453 (LL i) [] ρ) : AL N xs 282 (LL i) [] μ := by
  refine l_aload (i := 1) dL_law_282 rfl ?_
  refine l_arg dL_law_283 dL_law_284 dL_law_285 dL_law_286 dL_law_287 hN (by omega) (by omega) ?_
  refine lV1i dL_law_288 lnL_32 okX8_tale ⟨8, TX8, 11, rfl, rfl⟩ ⟨by decide, by decide⟩ (Nat.le_of_ble_eq_true rfl) (ro_tale scr_in  h) (fun z ν hM => ?_)
  refine l_aload (i := 2) dL_law_291 rfl ?_
  refine l_arg dL_law_292 dL_law_293 dL_law_294 dL_law_295 dL_law_296 hN (by omega) (by omega) ?_
  refine lV1i dL_law_297 lnL_35 okX9_tale ⟨9, TX9, 40, rfl, rfl⟩ ⟨by decide, by decide⟩ (Nat.le_of_ble_eq_true rfl) hM (fun w ρ hR => ?_)
  obtain ⟨rfl, hR⟩ := hR
  exact l_same 1453 dL_law_300 rfl (k ρ hR)
theorem lo_5 {N : Nat} {xs : Nat → Int32} (hN : N ≤ 3072) {i : Int} (h0 : 0 ≤ i) (h6 : i + 6 ≤ N) {μ : Mem} (h : REL μ) (k : ∀ ρ, REL ρ → AL N xs 1453 (LL i) [] ρ) : AL N xs 305 (LL i) [] μ := by
  refine l_aload (i := 1) dL_law_305 rfl ?_
  refine l_arg dL_law_306 dL_law_307 dL_law_308 dL_law_309 dL_law_310 hN (by omega) (by omega) ?_
  refine lV1i dL_law_311 lnL_36 okX8_law ⟨8, TX8, 11, rfl, rfl⟩ ⟨by decide, by decide⟩ (Nat.le_of_ble_eq_true rfl) (ro_law scr_in  h) (fun z ν hM => ?_)
  refine l_aload (i := 2) dL_law_314 rfl ?_
  refine l_arg dL_law_315 dL_law_316 dL_law_317 dL_law_318 dL_law_319 hN (by omega) (by omega) ?_
  refine lV1i dL_law_320 lnL_39 okX9_law ⟨9, TX9, 40, rfl, rfl⟩ ⟨by decide, by decide⟩ (Nat.le_of_ble_eq_true rfl) hM (fun w ρ hR => ?_)
  obtain ⟨rfl, hR⟩ := hR
  exact l_same 1453 dL_law_323 rfl (k ρ hR)
theorem lo_6 {N : Nat} {xs : Nat → Int32} (hN : N ≤ 3072) {i : Int} (h0 : 0 ≤ i) (h6 : i + 6 ≤ N) {μ : Mem} (h : REL μ) (k : ∀ ρ, REL ρ → AL N xs 1453 (LL i) [] ρ) : AL N xs 328 (LL i) [] μ := by
  refine l_aload (i := 1) dL_law_328 rfl ?_
  refine l_arg dL_law_329 dL_law_330 dL_law_331 dL_law_332 dL_law_333 hN (by omega) (by omega) ?_
  refine l_arg dL_law_334 dL_law_335 dL_law_336 dL_law_337 dL_law_338 hN (by omega) (by omega) ?_
  refine lV2i dL_law_339 lnL_40 okX8_holds ⟨8, TX8, 11, rfl, rfl⟩ ⟨by decide, by decide⟩ (Nat.le_of_ble_eq_true rfl) (ro_holds scr_in scr_in  h) (fun z ν hM => ?_)
  refine l_aload (i := 2) dL_law_342 rfl ?_
  refine l_arg dL_law_343 dL_law_344 dL_law_345 dL_law_346 dL_law_347 hN (by omega) (by omega) ?_
  refine l_arg dL_law_348 dL_law_349 dL_law_350 dL_law_351 dL_law_352 hN (by omega) (by omega) ?_
  refine lV2i dL_law_353 lnL_43 okX9_holds ⟨9, TX9, 40, rfl, rfl⟩ ⟨by decide, by decide⟩ (Nat.le_of_ble_eq_true rfl) hM (fun w ρ hR => ?_)
  obtain ⟨rfl, hR⟩ := hR
  exact l_same 1453 dL_law_356 rfl (k ρ hR)
theorem lo_7 {N : Nat} {xs : Nat → Int32} (hN : N ≤ 3072) {i : Int} (h0 : 0 ≤ i) (h6 : i + 6 ≤ N) {μ : Mem} (h : REL μ) (k : ∀ ρ, REL ρ → AL N xs 1453 (LL i) [] ρ) : AL N xs 361 (LL i) [] μ := by
  refine l_aload (i := 1) dL_law_361 rfl ?_
  refine l_arg dL_law_362 dL_law_363 dL_law_364 dL_law_365 dL_law_366 hN (by omega) (by omega) ?_
  refine l_arg dL_law_367 dL_law_368 dL_law_369 dL_law_370 dL_law_371 hN (by omega) (by omega) ?_
  refine lV2i dL_law_372 lnL_44 okX8_leaves ⟨8, TX8, 11, rfl, rfl⟩ ⟨by decide, by decide⟩ (Nat.le_of_ble_eq_true rfl) (ro_leaves scr_in scr_in  h) (fun z ν hM => ?_)
  refine l_aload (i := 2) dL_law_375 rfl ?_
  refine l_arg dL_law_376 dL_law_377 dL_law_378 dL_law_379 dL_law_380 hN (by omega) (by omega) ?_
  refine l_arg dL_law_381 dL_law_382 dL_law_383 dL_law_384 dL_law_385 hN (by omega) (by omega) ?_
  refine lV2i dL_law_386 lnL_47 okX9_leaves ⟨9, TX9, 40, rfl, rfl⟩ ⟨by decide, by decide⟩ (Nat.le_of_ble_eq_true rfl) hM (fun w ρ hR => ?_)
  obtain ⟨rfl, hR⟩ := hR
  exact l_same 1453 dL_law_389 rfl (k ρ hR)
theorem lo_8 {N : Nat} {xs : Nat → Int32} (hN : N ≤ 3072) {i : Int} (h0 : 0 ≤ i) (h6 : i + 6 ≤ N) {μ : Mem} (h : REL μ) (k : ∀ ρ, REL ρ → AL N xs 1453 (LL i) [] ρ) : AL N xs 394 (LL i) [] μ := by
  refine l_aload (i := 1) dL_law_394 rfl ?_
  refine l_arg dL_law_395 dL_law_396 dL_law_397 dL_law_398 dL_law_399 hN (by omega) (by omega) ?_
  refine l_arg dL_law_400 dL_law_401 dL_law_402 dL_law_403 dL_law_404 hN (by omega) (by omega) ?_
  refine lV2i dL_law_405 lnL_48 okX8_quarters ⟨8, TX8, 11, rfl, rfl⟩ ⟨by decide, by decide⟩ (Nat.le_of_ble_eq_true rfl) (ro_quarters scr_in scr_in  h) (fun z ν hM => ?_)
  refine l_aload (i := 2) dL_law_408 rfl ?_
  refine l_arg dL_law_409 dL_law_410 dL_law_411 dL_law_412 dL_law_413 hN (by omega) (by omega) ?_
  refine l_arg dL_law_414 dL_law_415 dL_law_416 dL_law_417 dL_law_418 hN (by omega) (by omega) ?_
  refine lV2i dL_law_419 lnL_51 okX9_quarters ⟨9, TX9, 40, rfl, rfl⟩ ⟨by decide, by decide⟩ (Nat.le_of_ble_eq_true rfl) hM (fun w ρ hR => ?_)
  obtain ⟨rfl, hR⟩ := hR
  exact l_same 1453 dL_law_422 rfl (k ρ hR)
theorem lo_9 {N : Nat} {xs : Nat → Int32} (hN : N ≤ 3072) {i : Int} (h0 : 0 ≤ i) (h6 : i + 6 ≤ N) {μ : Mem} (h : REL μ) (k : ∀ ρ, REL ρ → AL N xs 1453 (LL i) [] ρ) : AL N xs 427 (LL i) [] μ := by
  refine l_aload (i := 1) dL_law_427 rfl ?_
  refine l_arg dL_law_428 dL_law_429 dL_law_430 dL_law_431 dL_law_432 hN (by omega) (by omega) ?_
  refine l_arg dL_law_433 dL_law_434 dL_law_435 dL_law_436 dL_law_437 hN (by omega) (by omega) ?_
  refine l_arg dL_law_438 dL_law_439 dL_law_440 dL_law_441 dL_law_442 hN (by omega) (by omega) ?_
  refine lV3l dL_law_443 lnL_52 okX8_owes ⟨8, TX8, 11, rfl, rfl⟩ ⟨by decide, by decide⟩ (Nat.le_of_ble_eq_true rfl) (ro_owes scr_in scr_in scr_in  h) (fun z ν hM => ?_)
  refine l_aload (i := 2) dL_law_446 rfl ?_
  refine l_arg dL_law_447 dL_law_448 dL_law_449 dL_law_450 dL_law_451 hN (by omega) (by omega) ?_
  refine l_arg dL_law_452 dL_law_453 dL_law_454 dL_law_455 dL_law_456 hN (by omega) (by omega) ?_
  refine l_arg dL_law_457 dL_law_458 dL_law_459 dL_law_460 dL_law_461 hN (by omega) (by omega) ?_
  refine lV3l dL_law_462 lnL_56 okX9_owes ⟨9, TX9, 40, rfl, rfl⟩ ⟨by decide, by decide⟩ (Nat.le_of_ble_eq_true rfl) hM (fun w ρ hR => ?_)
  obtain ⟨rfl, hR⟩ := hR
  exact l_samel 1453 dL_law_465 dL_law_466 rfl (k ρ hR)
theorem lo_10 {N : Nat} {xs : Nat → Int32} (hN : N ≤ 3072) {i : Int} (h0 : 0 ≤ i) (h6 : i + 6 ≤ N) {μ : Mem} (h : REL μ) (k : ∀ ρ, REL ρ → AL N xs 1453 (LL i) [] ρ) : AL N xs 471 (LL i) [] μ := by
  refine l_aload (i := 1) dL_law_471 rfl ?_
  refine l_arg dL_law_472 dL_law_473 dL_law_474 dL_law_475 dL_law_476 hN (by omega) (by omega) ?_
  refine l_arg dL_law_477 dL_law_478 dL_law_479 dL_law_480 dL_law_481 hN (by omega) (by omega) ?_
  refine lV2l dL_law_482 lnL_57 okX8_amount ⟨8, TX8, 11, rfl, rfl⟩ ⟨by decide, by decide⟩ (Nat.le_of_ble_eq_true rfl) (ro_amount scr_in scr_in  h) (fun z ν hM => ?_)
  refine l_aload (i := 2) dL_law_485 rfl ?_
  refine l_arg dL_law_486 dL_law_487 dL_law_488 dL_law_489 dL_law_490 hN (by omega) (by omega) ?_
  refine l_arg dL_law_491 dL_law_492 dL_law_493 dL_law_494 dL_law_495 hN (by omega) (by omega) ?_
  refine lV2l dL_law_496 lnL_61 okX9_amount ⟨9, TX9, 40, rfl, rfl⟩ ⟨by decide, by decide⟩ (Nat.le_of_ble_eq_true rfl) hM (fun w ρ hR => ?_)
  obtain ⟨rfl, hR⟩ := hR
  exact l_samel 1453 dL_law_499 dL_law_500 rfl (k ρ hR)
theorem lo_11 {N : Nat} {xs : Nat → Int32} (hN : N ≤ 3072) {i : Int} (h0 : 0 ≤ i) (h6 : i + 6 ≤ N) {μ : Mem} (h : REL μ) (k : ∀ ρ, REL ρ → AL N xs 1453 (LL i) [] ρ) : AL N xs 505 (LL i) [] μ := by
  refine l_aload (i := 1) dL_law_505 rfl ?_
  refine l_arg dL_law_506 dL_law_507 dL_law_508 dL_law_509 dL_law_510 hN (by omega) (by omega) ?_
  refine l_arg dL_law_511 dL_law_512 dL_law_513 dL_law_514 dL_law_515 hN (by omega) (by omega) ?_
  refine lV2l dL_law_516 lnL_62 okX8_cost ⟨8, TX8, 11, rfl, rfl⟩ ⟨by decide, by decide⟩ (Nat.le_of_ble_eq_true rfl) (ro_cost scr_in scr_in  h) (fun z ν hM => ?_)
  refine l_aload (i := 2) dL_law_519 rfl ?_
  refine l_arg dL_law_520 dL_law_521 dL_law_522 dL_law_523 dL_law_524 hN (by omega) (by omega) ?_
  refine l_arg dL_law_525 dL_law_526 dL_law_527 dL_law_528 dL_law_529 hN (by omega) (by omega) ?_
  refine lV2l dL_law_530 lnL_65 okX9_cost ⟨9, TX9, 40, rfl, rfl⟩ ⟨by decide, by decide⟩ (Nat.le_of_ble_eq_true rfl) hM (fun w ρ hR => ?_)
  obtain ⟨rfl, hR⟩ := hR
  exact l_samel 1453 dL_law_533 dL_law_534 rfl (k ρ hR)
theorem lo_12 {N : Nat} {xs : Nat → Int32} (hN : N ≤ 3072) {i : Int} (h0 : 0 ≤ i) (h6 : i + 6 ≤ N) {μ : Mem} (h : REL μ) (k : ∀ ρ, REL ρ → AL N xs 1453 (LL i) [] ρ) : AL N xs 539 (LL i) [] μ := by
  refine l_aload (i := 1) dL_law_539 rfl ?_
  refine l_arg dL_law_540 dL_law_541 dL_law_542 dL_law_543 dL_law_544 hN (by omega) (by omega) ?_
  refine l_arg dL_law_545 dL_law_546 dL_law_547 dL_law_548 dL_law_549 hN (by omega) (by omega) ?_
  refine lV2l dL_law_550 lnL_66 okX8_best ⟨8, TX8, 11, rfl, rfl⟩ ⟨by decide, by decide⟩ (Nat.le_of_ble_eq_true rfl) (ro_best scr_in scr_in  h) (fun z ν hM => ?_)
  refine l_aload (i := 2) dL_law_553 rfl ?_
  refine l_arg dL_law_554 dL_law_555 dL_law_556 dL_law_557 dL_law_558 hN (by omega) (by omega) ?_
  refine l_arg dL_law_559 dL_law_560 dL_law_561 dL_law_562 dL_law_563 hN (by omega) (by omega) ?_
  refine lV2l dL_law_564 lnL_69 okX9_best ⟨9, TX9, 40, rfl, rfl⟩ ⟨by decide, by decide⟩ (Nat.le_of_ble_eq_true rfl) hM (fun w ρ hR => ?_)
  obtain ⟨rfl, hR⟩ := hR
  exact l_samel 1453 dL_law_567 dL_law_568 rfl (k ρ hR)
theorem lo_13 {N : Nat} {xs : Nat → Int32} (hN : N ≤ 3072) {i : Int} (h0 : 0 ≤ i) (h6 : i + 6 ≤ N) {μ : Mem} (h : REL μ) (k : ∀ ρ, REL ρ → AL N xs 1453 (LL i) [] ρ) : AL N xs 573 (LL i) [] μ := by
  refine l_aload (i := 1) dL_law_573 rfl ?_
  refine l_arg dL_law_574 dL_law_575 dL_law_576 dL_law_577 dL_law_578 hN (by omega) (by omega) ?_
  refine l_arg dL_law_579 dL_law_580 dL_law_581 dL_law_582 dL_law_583 hN (by omega) (by omega) ?_
  refine lV2i dL_law_584 lnL_70 okX8_rest ⟨8, TX8, 11, rfl, rfl⟩ ⟨by decide, by decide⟩ (Nat.le_of_ble_eq_true rfl) (ro_rest scr_in scr_in  h) (fun z ν hM => ?_)
  refine l_aload (i := 2) dL_law_587 rfl ?_
  refine l_arg dL_law_588 dL_law_589 dL_law_590 dL_law_591 dL_law_592 hN (by omega) (by omega) ?_
  refine l_arg dL_law_593 dL_law_594 dL_law_595 dL_law_596 dL_law_597 hN (by omega) (by omega) ?_
  refine lV2i dL_law_598 lnL_73 okX9_rest ⟨9, TX9, 40, rfl, rfl⟩ ⟨by decide, by decide⟩ (Nat.le_of_ble_eq_true rfl) hM (fun w ρ hR => ?_)
  obtain ⟨rfl, hR⟩ := hR
  exact l_same 1453 dL_law_601 rfl (k ρ hR)
theorem lo_14 {N : Nat} {xs : Nat → Int32} (hN : N ≤ 3072) {i : Int} (h0 : 0 ≤ i) (h6 : i + 6 ≤ N) {μ : Mem} (h : REL μ) (k : ∀ ρ, REL ρ → AL N xs 1453 (LL i) [] ρ) : AL N xs 606 (LL i) [] μ := by
  refine l_aload (i := 1) dL_law_606 rfl ?_
  refine l_arg dL_law_607 dL_law_608 dL_law_609 dL_law_610 dL_law_611 hN (by omega) (by omega) ?_
  refine l_arg dL_law_612 dL_law_613 dL_law_614 dL_law_615 dL_law_616 hN (by omega) (by omega) ?_
  refine lV2i dL_law_617 lnL_74 okX8_order ⟨8, TX8, 11, rfl, rfl⟩ ⟨by decide, by decide⟩ (Nat.le_of_ble_eq_true rfl) (ro_order scr_in scr_in  h) (fun z ν hM => ?_)
  refine l_aload (i := 2) dL_law_620 rfl ?_
  refine l_arg dL_law_621 dL_law_622 dL_law_623 dL_law_624 dL_law_625 hN (by omega) (by omega) ?_
  refine l_arg dL_law_626 dL_law_627 dL_law_628 dL_law_629 dL_law_630 hN (by omega) (by omega) ?_
  refine lV2i dL_law_631 lnL_77 okX9_order ⟨9, TX9, 40, rfl, rfl⟩ ⟨by decide, by decide⟩ (Nat.le_of_ble_eq_true rfl) hM (fun w ρ hR => ?_)
  obtain ⟨rfl, hR⟩ := hR
  exact l_same 1453 dL_law_634 rfl (k ρ hR)
theorem lo_15 {N : Nat} {xs : Nat → Int32} (hN : N ≤ 3072) {i : Int} (h0 : 0 ≤ i) (h6 : i + 6 ≤ N) {μ : Mem} (h : REL μ) (k : ∀ ρ, REL ρ → AL N xs 1453 (LL i) [] ρ) : AL N xs 639 (LL i) [] μ := by
  refine l_aload (i := 1) dL_law_639 rfl ?_
  refine l_arg dL_law_640 dL_law_641 dL_law_642 dL_law_643 dL_law_644 hN (by omega) (by omega) ?_
  refine lV1i dL_law_645 lnL_78 okX8_among ⟨8, TX8, 11, rfl, rfl⟩ ⟨by decide, by decide⟩ (Nat.le_of_ble_eq_true rfl) (ro_among scr_in  h) (fun z ν hM => ?_)
  refine l_aload (i := 2) dL_law_648 rfl ?_
  refine l_arg dL_law_649 dL_law_650 dL_law_651 dL_law_652 dL_law_653 hN (by omega) (by omega) ?_
  refine lV1i dL_law_654 lnL_81 okX9_among ⟨9, TX9, 40, rfl, rfl⟩ ⟨by decide, by decide⟩ (Nat.le_of_ble_eq_true rfl) hM (fun w ρ hR => ?_)
  obtain ⟨rfl, hR⟩ := hR
  exact l_same 1453 dL_law_657 rfl (k ρ hR)
theorem lo_16 {N : Nat} {xs : Nat → Int32} (hN : N ≤ 3072) {i : Int} (h0 : 0 ≤ i) (h6 : i + 6 ≤ N) {μ : Mem} (h : REL μ) (k : ∀ ρ, REL ρ → AL N xs 1453 (LL i) [] ρ) : AL N xs 662 (LL i) [] μ := by
  refine l_aload (i := 1) dL_law_662 rfl ?_
  refine l_arg dL_law_663 dL_law_664 dL_law_665 dL_law_666 dL_law_667 hN (by omega) (by omega) ?_
  refine l_arg dL_law_668 dL_law_669 dL_law_670 dL_law_671 dL_law_672 hN (by omega) (by omega) ?_
  refine l_arg dL_law_673 dL_law_674 dL_law_675 dL_law_676 dL_law_677 hN (by omega) (by omega) ?_
  refine lV3l dL_law_678 lnL_82 okX8_hire ⟨8, TX8, 11, rfl, rfl⟩ ⟨by decide, by decide⟩ (Nat.le_of_ble_eq_true rfl) (ro_hire scr_in scr_in scr_in  h) (fun z ν hM => ?_)
  refine l_aload (i := 2) dL_law_681 rfl ?_
  refine l_arg dL_law_682 dL_law_683 dL_law_684 dL_law_685 dL_law_686 hN (by omega) (by omega) ?_
  refine l_arg dL_law_687 dL_law_688 dL_law_689 dL_law_690 dL_law_691 hN (by omega) (by omega) ?_
  refine l_arg dL_law_692 dL_law_693 dL_law_694 dL_law_695 dL_law_696 hN (by omega) (by omega) ?_
  refine lV3l dL_law_697 lnL_85 okX9_hire ⟨9, TX9, 40, rfl, rfl⟩ ⟨by decide, by decide⟩ (Nat.le_of_ble_eq_true rfl) hM (fun w ρ hR => ?_)
  obtain ⟨rfl, hR⟩ := hR
  exact l_samel 1453 dL_law_700 dL_law_701 rfl (k ρ hR)
theorem lo_17 {N : Nat} {xs : Nat → Int32} (hN : N ≤ 3072) {i : Int} (h0 : 0 ≤ i) (h6 : i + 6 ≤ N) {μ : Mem} (h : REL μ) (k : ∀ ρ, REL ρ → AL N xs 1453 (LL i) [] ρ) : AL N xs 706 (LL i) [] μ := by
  refine l_aload (i := 1) dL_law_706 rfl ?_
  refine l_arg dL_law_707 dL_law_708 dL_law_709 dL_law_710 dL_law_711 hN (by omega) (by omega) ?_
  refine l_arg dL_law_712 dL_law_713 dL_law_714 dL_law_715 dL_law_716 hN (by omega) (by omega) ?_
  refine l_arg dL_law_717 dL_law_718 dL_law_719 dL_law_720 dL_law_721 hN (by omega) (by omega) ?_
  refine l_arg dL_law_722 dL_law_723 dL_law_724 dL_law_725 dL_law_726 hN (by omega) (by omega) ?_
  refine lV4l dL_law_727 lnL_86 okX8_other ⟨8, TX8, 11, rfl, rfl⟩ ⟨by decide, by decide⟩ (Nat.le_of_ble_eq_true rfl) (ro_other scr_in scr_in scr_in scr_in  h) (fun z ν hM => ?_)
  refine l_aload (i := 2) dL_law_730 rfl ?_
  refine l_arg dL_law_731 dL_law_732 dL_law_733 dL_law_734 dL_law_735 hN (by omega) (by omega) ?_
  refine l_arg dL_law_736 dL_law_737 dL_law_738 dL_law_739 dL_law_740 hN (by omega) (by omega) ?_
  refine l_arg dL_law_741 dL_law_742 dL_law_743 dL_law_744 dL_law_745 hN (by omega) (by omega) ?_
  refine l_arg dL_law_746 dL_law_747 dL_law_748 dL_law_749 dL_law_750 hN (by omega) (by omega) ?_
  refine lV4l dL_law_751 lnL_90 okX9_other ⟨9, TX9, 40, rfl, rfl⟩ ⟨by decide, by decide⟩ (Nat.le_of_ble_eq_true rfl) hM (fun w ρ hR => ?_)
  obtain ⟨rfl, hR⟩ := hR
  exact l_samel 1453 dL_law_754 dL_law_755 rfl (k ρ hR)
theorem lo_18 {N : Nat} {xs : Nat → Int32} (hN : N ≤ 3072) {i : Int} (h0 : 0 ≤ i) (h6 : i + 6 ≤ N) {μ : Mem} (h : REL μ) (k : ∀ ρ, REL ρ → AL N xs 1453 (LL i) [] ρ) : AL N xs 760 (LL i) [] μ := by
  refine l_aload (i := 1) dL_law_760 rfl ?_
  refine l_arg dL_law_761 dL_law_762 dL_law_763 dL_law_764 dL_law_765 hN (by omega) (by omega) ?_
  refine lV1i dL_law_766 lnL_91 okX8_lawFor ⟨8, TX8, 11, rfl, rfl⟩ ⟨by decide, by decide⟩ (Nat.le_of_ble_eq_true rfl) (ro_lawFor scr_in  h) (fun z ν hM => ?_)
  refine l_aload (i := 2) dL_law_769 rfl ?_
  refine l_arg dL_law_770 dL_law_771 dL_law_772 dL_law_773 dL_law_774 hN (by omega) (by omega) ?_
  refine lV1i dL_law_775 lnL_94 okX9_lawFor ⟨9, TX9, 40, rfl, rfl⟩ ⟨by decide, by decide⟩ (Nat.le_of_ble_eq_true rfl) hM (fun w ρ hR => ?_)
  obtain ⟨rfl, hR⟩ := hR
  exact l_same 1453 dL_law_778 rfl (k ρ hR)
theorem lo_19 {N : Nat} {xs : Nat → Int32} (hN : N ≤ 3072) {i : Int} (h0 : 0 ≤ i) (h6 : i + 6 ≤ N) {μ : Mem} (h : REL μ) (k : ∀ ρ, REL ρ → AL N xs 1453 (LL i) [] ρ) : AL N xs 783 (LL i) [] μ := by
  refine l_aload (i := 1) dL_law_783 rfl ?_
  refine l_arg dL_law_784 dL_law_785 dL_law_786 dL_law_787 dL_law_788 hN (by omega) (by omega) ?_
  refine lV1i dL_law_789 lnL_95 okX8_edge ⟨8, TX8, 11, rfl, rfl⟩ ⟨by decide, by decide⟩ (Nat.le_of_ble_eq_true rfl) (ro_edge scr_in  h) (fun z ν hM => ?_)
  refine l_aload (i := 2) dL_law_792 rfl ?_
  refine l_arg dL_law_793 dL_law_794 dL_law_795 dL_law_796 dL_law_797 hN (by omega) (by omega) ?_
  refine lV1i dL_law_798 lnL_98 okX9_edge ⟨9, TX9, 40, rfl, rfl⟩ ⟨by decide, by decide⟩ (Nat.le_of_ble_eq_true rfl) hM (fun w ρ hR => ?_)
  obtain ⟨rfl, hR⟩ := hR
  exact l_same 1453 dL_law_801 rfl (k ρ hR)
theorem lo_20 {N : Nat} {xs : Nat → Int32} (hN : N ≤ 3072) {i : Int} (h0 : 0 ≤ i) (h6 : i + 6 ≤ N) {μ : Mem} (h : REL μ) (k : ∀ ρ, REL ρ → AL N xs 1453 (LL i) [] ρ) : AL N xs 806 (LL i) [] μ := by
  refine l_aload (i := 1) dL_law_806 rfl ?_
  refine l_arg dL_law_807 dL_law_808 dL_law_809 dL_law_810 dL_law_811 hN (by omega) (by omega) ?_
  refine l_arg dL_law_812 dL_law_813 dL_law_814 dL_law_815 dL_law_816 hN (by omega) (by omega) ?_
  refine lV2i dL_law_817 lnL_99 okX8_weight ⟨8, TX8, 11, rfl, rfl⟩ ⟨by decide, by decide⟩ (Nat.le_of_ble_eq_true rfl) (ro_weight scr_in scr_in  h) (fun z ν hM => ?_)
  refine l_aload (i := 2) dL_law_820 rfl ?_
  refine l_arg dL_law_821 dL_law_822 dL_law_823 dL_law_824 dL_law_825 hN (by omega) (by omega) ?_
  refine l_arg dL_law_826 dL_law_827 dL_law_828 dL_law_829 dL_law_830 hN (by omega) (by omega) ?_
  refine lV2i dL_law_831 lnL_102 okX9_weight ⟨9, TX9, 40, rfl, rfl⟩ ⟨by decide, by decide⟩ (Nat.le_of_ble_eq_true rfl) hM (fun w ρ hR => ?_)
  obtain ⟨rfl, hR⟩ := hR
  exact l_same 1453 dL_law_834 rfl (k ρ hR)
theorem lo_21 {N : Nat} {xs : Nat → Int32} (hN : N ≤ 3072) {i : Int} (h0 : 0 ≤ i) (h6 : i + 6 ≤ N) {μ : Mem} (h : REL μ) (k : ∀ ρ, REL ρ → AL N xs 1453 (LL i) [] ρ) : AL N xs 839 (LL i) [] μ := by
  refine l_aload (i := 1) dL_law_839 rfl ?_
  refine l_arg dL_law_840 dL_law_841 dL_law_842 dL_law_843 dL_law_844 hN (by omega) (by omega) ?_
  refine l_arg dL_law_845 dL_law_846 dL_law_847 dL_law_848 dL_law_849 hN (by omega) (by omega) ?_
  refine lV2l dL_law_850 lnL_103 okX8_early ⟨8, TX8, 11, rfl, rfl⟩ ⟨by decide, by decide⟩ (Nat.le_of_ble_eq_true rfl) (ro_early scr_in scr_in  h) (fun z ν hM => ?_)
  refine l_aload (i := 2) dL_law_853 rfl ?_
  refine l_arg dL_law_854 dL_law_855 dL_law_856 dL_law_857 dL_law_858 hN (by omega) (by omega) ?_
  refine l_arg dL_law_859 dL_law_860 dL_law_861 dL_law_862 dL_law_863 hN (by omega) (by omega) ?_
  refine lV2l dL_law_864 lnL_106 okX9_early ⟨9, TX9, 40, rfl, rfl⟩ ⟨by decide, by decide⟩ (Nat.le_of_ble_eq_true rfl) hM (fun w ρ hR => ?_)
  obtain ⟨rfl, hR⟩ := hR
  exact l_samel 1453 dL_law_867 dL_law_868 rfl (k ρ hR)
theorem lo_22 {N : Nat} {xs : Nat → Int32} (hN : N ≤ 3072) {i : Int} (h0 : 0 ≤ i) (h6 : i + 6 ≤ N) {μ : Mem} (h : REL μ) (k : ∀ ρ, REL ρ → AL N xs 1453 (LL i) [] ρ) : AL N xs 873 (LL i) [] μ := by
  refine l_aload (i := 1) dL_law_873 rfl ?_
  refine l_arg dL_law_874 dL_law_875 dL_law_876 dL_law_877 dL_law_878 hN (by omega) (by omega) ?_
  refine lV1l dL_law_879 lnL_107 okX8_two ⟨8, TX8, 11, rfl, rfl⟩ ⟨by decide, by decide⟩ (Nat.le_of_ble_eq_true rfl) (ro_two scr_in  h) (fun z ν hM => ?_)
  refine l_aload (i := 2) dL_law_882 rfl ?_
  refine l_arg dL_law_883 dL_law_884 dL_law_885 dL_law_886 dL_law_887 hN (by omega) (by omega) ?_
  refine lV1l dL_law_888 lnL_111 okX9_two ⟨9, TX9, 40, rfl, rfl⟩ ⟨by decide, by decide⟩ (Nat.le_of_ble_eq_true rfl) hM (fun w ρ hR => ?_)
  obtain ⟨rfl, hR⟩ := hR
  exact l_samel 1453 dL_law_891 dL_law_892 rfl (k ρ hR)
theorem lo_23 {N : Nat} {xs : Nat → Int32} (hN : N ≤ 3072) {i : Int} (h0 : 0 ≤ i) (h6 : i + 6 ≤ N) {μ : Mem} (h : REL μ) (k : ∀ ρ, REL ρ → AL N xs 1453 (LL i) [] ρ) : AL N xs 897 (LL i) [] μ := by
  refine l_aload (i := 1) dL_law_897 rfl ?_
  refine l_arg dL_law_898 dL_law_899 dL_law_900 dL_law_901 dL_law_902 hN (by omega) (by omega) ?_
  refine lV1i dL_law_903 lnL_112 okX8_made ⟨8, TX8, 11, rfl, rfl⟩ ⟨by decide, by decide⟩ (Nat.le_of_ble_eq_true rfl) (ro_made scr_in  h) (fun z ν hM => ?_)
  refine l_aload (i := 2) dL_law_906 rfl ?_
  refine l_arg dL_law_907 dL_law_908 dL_law_909 dL_law_910 dL_law_911 hN (by omega) (by omega) ?_
  refine lV1i dL_law_912 lnL_115 okX9_made ⟨9, TX9, 40, rfl, rfl⟩ ⟨by decide, by decide⟩ (Nat.le_of_ble_eq_true rfl) hM (fun w ρ hR => ?_)
  obtain ⟨rfl, hR⟩ := hR
  exact l_same 1453 dL_law_915 rfl (k ρ hR)
theorem lo_24 {N : Nat} {xs : Nat → Int32} (hN : N ≤ 3072) {i : Int} (h0 : 0 ≤ i) (h6 : i + 6 ≤ N) {μ : Mem} (h : REL μ) (k : ∀ ρ, REL ρ → AL N xs 1453 (LL i) [] ρ) : AL N xs 920 (LL i) [] μ := by
  refine l_aload (i := 1) dL_law_920 rfl ?_
  refine l_arg dL_law_921 dL_law_922 dL_law_923 dL_law_924 dL_law_925 hN (by omega) (by omega) ?_
  refine l_arg dL_law_926 dL_law_927 dL_law_928 dL_law_929 dL_law_930 hN (by omega) (by omega) ?_
  refine l_arg dL_law_931 dL_law_932 dL_law_933 dL_law_934 dL_law_935 hN (by omega) (by omega) ?_
  refine lV3i dL_law_936 lnL_116 okX8_evenings ⟨8, TX8, 11, rfl, rfl⟩ ⟨by decide, by decide⟩ (Nat.le_of_ble_eq_true rfl) (ro_evenings scr_in scr_in scr_in  h) (fun z ν hM => ?_)
  refine l_aload (i := 2) dL_law_939 rfl ?_
  refine l_arg dL_law_940 dL_law_941 dL_law_942 dL_law_943 dL_law_944 hN (by omega) (by omega) ?_
  refine l_arg dL_law_945 dL_law_946 dL_law_947 dL_law_948 dL_law_949 hN (by omega) (by omega) ?_
  refine l_arg dL_law_950 dL_law_951 dL_law_952 dL_law_953 dL_law_954 hN (by omega) (by omega) ?_
  refine lV3i dL_law_955 lnL_120 okX9_evenings ⟨9, TX9, 40, rfl, rfl⟩ ⟨by decide, by decide⟩ (Nat.le_of_ble_eq_true rfl) hM (fun w ρ hR => ?_)
  obtain ⟨rfl, hR⟩ := hR
  exact l_same 1453 dL_law_958 rfl (k ρ hR)
theorem lo_25 {N : Nat} {xs : Nat → Int32} (hN : N ≤ 3072) {i : Int} (h0 : 0 ≤ i) (h6 : i + 6 ≤ N) {μ : Mem} (h : REL μ) (k : ∀ ρ, REL ρ → AL N xs 1453 (LL i) [] ρ) : AL N xs 963 (LL i) [] μ := by
  refine l_aload (i := 1) dL_law_963 rfl ?_
  refine l_arg dL_law_964 dL_law_965 dL_law_966 dL_law_967 dL_law_968 hN (by omega) (by omega) ?_
  refine l_arg dL_law_969 dL_law_970 dL_law_971 dL_law_972 dL_law_973 hN (by omega) (by omega) ?_
  refine l_arg dL_law_974 dL_law_975 dL_law_976 dL_law_977 dL_law_978 hN (by omega) (by omega) ?_
  refine l_arg dL_law_979 dL_law_980 dL_law_981 dL_law_982 dL_law_983 hN (by omega) (by omega) ?_
  refine l_arg dL_law_984 dL_law_985 dL_law_986 dL_law_987 dL_law_988 hN (by omega) (by omega) ?_
  refine lV5i dL_law_989 lnL_121 okX8_saw ⟨8, TX8, 11, rfl, rfl⟩ ⟨by decide, by decide⟩ (Nat.le_of_ble_eq_true rfl) (ro_saw scr_in scr_in scr_in scr_in scr_in  h) (fun z ν hM => ?_)
  refine l_aload (i := 2) dL_law_992 rfl ?_
  refine l_arg dL_law_993 dL_law_994 dL_law_995 dL_law_996 dL_law_997 hN (by omega) (by omega) ?_
  refine l_arg dL_law_998 dL_law_999 dL_law_1000 dL_law_1001 dL_law_1002 hN (by omega) (by omega) ?_
  refine l_arg dL_law_1003 dL_law_1004 dL_law_1005 dL_law_1006 dL_law_1007 hN (by omega) (by omega) ?_
  refine l_arg dL_law_1008 dL_law_1009 dL_law_1010 dL_law_1011 dL_law_1012 hN (by omega) (by omega) ?_
  refine l_arg dL_law_1013 dL_law_1014 dL_law_1015 dL_law_1016 dL_law_1017 hN (by omega) (by omega) ?_
  refine lV5i dL_law_1018 lnL_125 okX9_saw ⟨9, TX9, 40, rfl, rfl⟩ ⟨by decide, by decide⟩ (Nat.le_of_ble_eq_true rfl) hM (fun w ρ hR => ?_)
  obtain ⟨rfl, hR⟩ := hR
  exact l_same 1453 dL_law_1021 rfl (k ρ hR)
theorem lo_26 {N : Nat} {xs : Nat → Int32} (hN : N ≤ 3072) {i : Int} (h0 : 0 ≤ i) (h6 : i + 6 ≤ N) {μ : Mem} (h : REL μ) (k : ∀ ρ, REL ρ → AL N xs 1453 (LL i) [] ρ) : AL N xs 1026 (LL i) [] μ := by
  refine l_aload (i := 1) dL_law_1026 rfl ?_
  refine l_arg dL_law_1027 dL_law_1028 dL_law_1029 dL_law_1030 dL_law_1031 hN (by omega) (by omega) ?_
  refine l_arg dL_law_1032 dL_law_1033 dL_law_1034 dL_law_1035 dL_law_1036 hN (by omega) (by omega) ?_
  refine lV2i dL_law_1037 lnL_126 okX8_read ⟨8, TX8, 11, rfl, rfl⟩ ⟨by decide, by decide⟩ (Nat.le_of_ble_eq_true rfl) (ro_read scr_in scr_in  h) (fun z ν hM => ?_)
  refine l_aload (i := 2) dL_law_1040 rfl ?_
  refine l_arg dL_law_1041 dL_law_1042 dL_law_1043 dL_law_1044 dL_law_1045 hN (by omega) (by omega) ?_
  refine l_arg dL_law_1046 dL_law_1047 dL_law_1048 dL_law_1049 dL_law_1050 hN (by omega) (by omega) ?_
  refine lV2i dL_law_1051 lnL_129 okX9_read ⟨9, TX9, 40, rfl, rfl⟩ ⟨by decide, by decide⟩ (Nat.le_of_ble_eq_true rfl) hM (fun w ρ hR => ?_)
  obtain ⟨rfl, hR⟩ := hR
  exact l_same 1453 dL_law_1054 rfl (k ρ hR)
theorem lo_27 {N : Nat} {xs : Nat → Int32} (hN : N ≤ 3072) {i : Int} (h0 : 0 ≤ i) (h6 : i + 6 ≤ N) {μ : Mem} (h : REL μ) (k : ∀ ρ, REL ρ → AL N xs 1453 (LL i) [] ρ) : AL N xs 1059 (LL i) [] μ := by
  refine l_aload (i := 1) dL_law_1059 rfl ?_
  refine l_arg dL_law_1060 dL_law_1061 dL_law_1062 dL_law_1063 dL_law_1064 hN (by omega) (by omega) ?_
  refine l_arg dL_law_1065 dL_law_1066 dL_law_1067 dL_law_1068 dL_law_1069 hN (by omega) (by omega) ?_
  refine lV2i dL_law_1070 lnL_130 okX8_off ⟨8, TX8, 11, rfl, rfl⟩ ⟨by decide, by decide⟩ (Nat.le_of_ble_eq_true rfl) (ro_off scr_in scr_in  h) (fun z ν hM => ?_)
  refine l_aload (i := 2) dL_law_1073 rfl ?_
  refine l_arg dL_law_1074 dL_law_1075 dL_law_1076 dL_law_1077 dL_law_1078 hN (by omega) (by omega) ?_
  refine l_arg dL_law_1079 dL_law_1080 dL_law_1081 dL_law_1082 dL_law_1083 hN (by omega) (by omega) ?_
  refine lV2i dL_law_1084 lnL_133 okX9_off ⟨9, TX9, 40, rfl, rfl⟩ ⟨by decide, by decide⟩ (Nat.le_of_ble_eq_true rfl) hM (fun w ρ hR => ?_)
  obtain ⟨rfl, hR⟩ := hR
  exact l_same 1453 dL_law_1087 rfl (k ρ hR)
theorem lo_28 {N : Nat} {xs : Nat → Int32} (hN : N ≤ 3072) {i : Int} (h0 : 0 ≤ i) (h6 : i + 6 ≤ N) {μ : Mem} (h : REL μ) (k : ∀ ρ, REL ρ → AL N xs 1453 (LL i) [] ρ) : AL N xs 1092 (LL i) [] μ := by
  refine l_aload (i := 1) dL_law_1092 rfl ?_
  refine l_arg dL_law_1093 dL_law_1094 dL_law_1095 dL_law_1096 dL_law_1097 hN (by omega) (by omega) ?_
  refine lV1i dL_law_1098 lnL_134 okX8_guess ⟨8, TX8, 11, rfl, rfl⟩ ⟨by decide, by decide⟩ (Nat.le_of_ble_eq_true rfl) (ro_guess scr_in  h) (fun z ν hM => ?_)
  refine l_aload (i := 2) dL_law_1101 rfl ?_
  refine l_arg dL_law_1102 dL_law_1103 dL_law_1104 dL_law_1105 dL_law_1106 hN (by omega) (by omega) ?_
  refine lV1i dL_law_1107 lnL_137 okX9_guess ⟨9, TX9, 40, rfl, rfl⟩ ⟨by decide, by decide⟩ (Nat.le_of_ble_eq_true rfl) hM (fun w ρ hR => ?_)
  obtain ⟨rfl, hR⟩ := hR
  exact l_same 1453 dL_law_1110 rfl (k ρ hR)
theorem lo_29 {N : Nat} {xs : Nat → Int32} (hN : N ≤ 3072) {i : Int} (h0 : 0 ≤ i) (h6 : i + 6 ≤ N) {μ : Mem} (h : REL μ) (k : ∀ ρ, REL ρ → AL N xs 1453 (LL i) [] ρ) : AL N xs 1115 (LL i) [] μ := by
  refine l_aload (i := 1) dL_law_1115 rfl ?_
  refine l_arg dL_law_1116 dL_law_1117 dL_law_1118 dL_law_1119 dL_law_1120 hN (by omega) (by omega) ?_
  refine l_arg dL_law_1121 dL_law_1122 dL_law_1123 dL_law_1124 dL_law_1125 hN (by omega) (by omega) ?_
  refine l_arg dL_law_1126 dL_law_1127 dL_law_1128 dL_law_1129 dL_law_1130 hN (by omega) (by omega) ?_
  refine lV3i dL_law_1131 lnL_138 okX8_laughs ⟨8, TX8, 11, rfl, rfl⟩ ⟨by decide, by decide⟩ (Nat.le_of_ble_eq_true rfl) (ro_laughs scr_in scr_in scr_in  h) (fun z ν hM => ?_)
  refine l_aload (i := 2) dL_law_1134 rfl ?_
  refine l_arg dL_law_1135 dL_law_1136 dL_law_1137 dL_law_1138 dL_law_1139 hN (by omega) (by omega) ?_
  refine l_arg dL_law_1140 dL_law_1141 dL_law_1142 dL_law_1143 dL_law_1144 hN (by omega) (by omega) ?_
  refine l_arg dL_law_1145 dL_law_1146 dL_law_1147 dL_law_1148 dL_law_1149 hN (by omega) (by omega) ?_
  refine lV3i dL_law_1150 lnL_141 okX9_laughs ⟨9, TX9, 40, rfl, rfl⟩ ⟨by decide, by decide⟩ (Nat.le_of_ble_eq_true rfl) hM (fun w ρ hR => ?_)
  obtain ⟨rfl, hR⟩ := hR
  exact l_same 1453 dL_law_1153 rfl (k ρ hR)
theorem lo_30 {N : Nat} {xs : Nat → Int32} (hN : N ≤ 3072) {i : Int} (h0 : 0 ≤ i) (h6 : i + 6 ≤ N) {μ : Mem} (h : REL μ) (k : ∀ ρ, REL ρ → AL N xs 1453 (LL i) [] ρ) : AL N xs 1158 (LL i) [] μ := by
  refine l_aload (i := 1) dL_law_1158 rfl ?_
  refine l_arg dL_law_1159 dL_law_1160 dL_law_1161 dL_law_1162 dL_law_1163 hN (by omega) (by omega) ?_
  refine l_arg dL_law_1164 dL_law_1165 dL_law_1166 dL_law_1167 dL_law_1168 hN (by omega) (by omega) ?_
  refine l_arg dL_law_1169 dL_law_1170 dL_law_1171 dL_law_1172 dL_law_1173 hN (by omega) (by omega) ?_
  refine lV3i dL_law_1174 lnL_142 okX8_sheet ⟨8, TX8, 11, rfl, rfl⟩ ⟨by decide, by decide⟩ (Nat.le_of_ble_eq_true rfl) (ro_sheet scr_in scr_in scr_in  h) (fun z ν hM => ?_)
  refine l_aload (i := 2) dL_law_1177 rfl ?_
  refine l_arg dL_law_1178 dL_law_1179 dL_law_1180 dL_law_1181 dL_law_1182 hN (by omega) (by omega) ?_
  refine l_arg dL_law_1183 dL_law_1184 dL_law_1185 dL_law_1186 dL_law_1187 hN (by omega) (by omega) ?_
  refine l_arg dL_law_1188 dL_law_1189 dL_law_1190 dL_law_1191 dL_law_1192 hN (by omega) (by omega) ?_
  refine lV3i dL_law_1193 lnL_145 okX9_sheet ⟨9, TX9, 40, rfl, rfl⟩ ⟨by decide, by decide⟩ (Nat.le_of_ble_eq_true rfl) hM (fun w ρ hR => ?_)
  obtain ⟨rfl, hR⟩ := hR
  exact l_same 1453 dL_law_1196 rfl (k ρ hR)
theorem lo_31 {N : Nat} {xs : Nat → Int32} (hN : N ≤ 3072) {i : Int} (h0 : 0 ≤ i) (h6 : i + 6 ≤ N) {μ : Mem} (h : REL μ) (k : ∀ ρ, REL ρ → AL N xs 1453 (LL i) [] ρ) : AL N xs 1201 (LL i) [] μ := by
  refine l_aload (i := 1) dL_law_1201 rfl ?_
  refine l_arg dL_law_1202 dL_law_1203 dL_law_1204 dL_law_1205 dL_law_1206 hN (by omega) (by omega) ?_
  refine lV1i dL_law_1207 lnL_146 okX8_lose ⟨8, TX8, 11, rfl, rfl⟩ ⟨by decide, by decide⟩ (Nat.le_of_ble_eq_true rfl) (ro_lose scr_in  h) (fun z ν hM => ?_)
  refine l_aload (i := 2) dL_law_1210 rfl ?_
  refine l_arg dL_law_1211 dL_law_1212 dL_law_1213 dL_law_1214 dL_law_1215 hN (by omega) (by omega) ?_
  refine lV1i dL_law_1216 lnL_149 okX9_lose ⟨9, TX9, 40, rfl, rfl⟩ ⟨by decide, by decide⟩ (Nat.le_of_ble_eq_true rfl) hM (fun w ρ hR => ?_)
  obtain ⟨rfl, hR⟩ := hR
  exact l_same 1453 dL_law_1219 rfl (k ρ hR)
theorem lo_32 {N : Nat} {xs : Nat → Int32} (hN : N ≤ 3072) {i : Int} (h0 : 0 ≤ i) (h6 : i + 6 ≤ N) {μ : Mem} (h : REL μ) (k : ∀ ρ, REL ρ → AL N xs 1453 (LL i) [] ρ) : AL N xs 1224 (LL i) [] μ := by
  refine l_aload (i := 1) dL_law_1224 rfl ?_
  refine l_arg dL_law_1225 dL_law_1226 dL_law_1227 dL_law_1228 dL_law_1229 hN (by omega) (by omega) ?_
  refine l_arg dL_law_1230 dL_law_1231 dL_law_1232 dL_law_1233 dL_law_1234 hN (by omega) (by omega) ?_
  refine l_arg dL_law_1235 dL_law_1236 dL_law_1237 dL_law_1238 dL_law_1239 hN (by omega) (by omega) ?_
  refine l_arg dL_law_1240 dL_law_1241 dL_law_1242 dL_law_1243 dL_law_1244 hN (by omega) (by omega) ?_
  refine lV4i dL_law_1245 lnL_150 okX8_lay ⟨8, TX8, 11, rfl, rfl⟩ ⟨by decide, by decide⟩ (Nat.le_of_ble_eq_true rfl) (ro_lay scr_in scr_in scr_in scr_in  h) (fun z ν hM => ?_)
  refine l_aload (i := 2) dL_law_1248 rfl ?_
  refine l_arg dL_law_1249 dL_law_1250 dL_law_1251 dL_law_1252 dL_law_1253 hN (by omega) (by omega) ?_
  refine l_arg dL_law_1254 dL_law_1255 dL_law_1256 dL_law_1257 dL_law_1258 hN (by omega) (by omega) ?_
  refine l_arg dL_law_1259 dL_law_1260 dL_law_1261 dL_law_1262 dL_law_1263 hN (by omega) (by omega) ?_
  refine l_arg dL_law_1264 dL_law_1265 dL_law_1266 dL_law_1267 dL_law_1268 hN (by omega) (by omega) ?_
  refine lV4i dL_law_1269 lnL_154 okX9_lay ⟨9, TX9, 40, rfl, rfl⟩ ⟨by decide, by decide⟩ (Nat.le_of_ble_eq_true rfl) hM (fun w ρ hR => ?_)
  obtain ⟨rfl, hR⟩ := hR
  exact l_same 1453 dL_law_1272 rfl (k ρ hR)
theorem lo_33 {N : Nat} {xs : Nat → Int32} (hN : N ≤ 3072) {i : Int} (h0 : 0 ≤ i) (h6 : i + 6 ≤ N) {μ : Mem} (h : REL μ) (k : ∀ ρ, REL ρ → AL N xs 1453 (LL i) [] ρ) : AL N xs 1277 (LL i) [] μ := by
  refine l_aload (i := 1) dL_law_1277 rfl ?_
  refine l_arg dL_law_1278 dL_law_1279 dL_law_1280 dL_law_1281 dL_law_1282 hN (by omega) (by omega) ?_
  refine l_arg dL_law_1283 dL_law_1284 dL_law_1285 dL_law_1286 dL_law_1287 hN (by omega) (by omega) ?_
  refine l_arg dL_law_1288 dL_law_1289 dL_law_1290 dL_law_1291 dL_law_1292 hN (by omega) (by omega) ?_
  refine lV3i dL_law_1293 lnL_155 okX8_get ⟨8, TX8, 11, rfl, rfl⟩ ⟨by decide, by decide⟩ (Nat.le_of_ble_eq_true rfl) (ro_get scr_in scr_in scr_in  h) (fun z ν hM => ?_)
  refine l_aload (i := 2) dL_law_1296 rfl ?_
  refine l_arg dL_law_1297 dL_law_1298 dL_law_1299 dL_law_1300 dL_law_1301 hN (by omega) (by omega) ?_
  refine l_arg dL_law_1302 dL_law_1303 dL_law_1304 dL_law_1305 dL_law_1306 hN (by omega) (by omega) ?_
  refine l_arg dL_law_1307 dL_law_1308 dL_law_1309 dL_law_1310 dL_law_1311 hN (by omega) (by omega) ?_
  refine lV3i dL_law_1312 lnL_158 okX9_get ⟨9, TX9, 40, rfl, rfl⟩ ⟨by decide, by decide⟩ (Nat.le_of_ble_eq_true rfl) hM (fun w ρ hR => ?_)
  obtain ⟨rfl, hR⟩ := hR
  exact l_same 1453 dL_law_1315 rfl (k ρ hR)
theorem lo_34 {N : Nat} {xs : Nat → Int32} (hN : N ≤ 3072) {i : Int} (h0 : 0 ≤ i) (h6 : i + 6 ≤ N) {μ : Mem} (h : REL μ) (k : ∀ ρ, REL ρ → AL N xs 1453 (LL i) [] ρ) : AL N xs 1320 (LL i) [] μ := by
  refine l_aload (i := 1) dL_law_1320 rfl ?_
  refine l_arg dL_law_1321 dL_law_1322 dL_law_1323 dL_law_1324 dL_law_1325 hN (by omega) (by omega) ?_
  refine l_arg dL_law_1326 dL_law_1327 dL_law_1328 dL_law_1329 dL_law_1330 hN (by omega) (by omega) ?_
  refine l_arg dL_law_1331 dL_law_1332 dL_law_1333 dL_law_1334 dL_law_1335 hN (by omega) (by omega) ?_
  refine l_arg dL_law_1336 dL_law_1337 dL_law_1338 dL_law_1339 dL_law_1340 hN (by omega) (by omega) ?_
  refine l_arg dL_law_1341 dL_law_1342 dL_law_1343 dL_law_1344 dL_law_1345 hN (by omega) (by omega) ?_
  refine lV5i dL_law_1346 lnL_159 okX8_copy ⟨8, TX8, 11, rfl, rfl⟩ ⟨by decide, by decide⟩ (Nat.le_of_ble_eq_true rfl) (ro_copy scr_in scr_in scr_in scr_in scr_in  h) (fun z ν hM => ?_)
  refine l_aload (i := 2) dL_law_1349 rfl ?_
  refine l_arg dL_law_1350 dL_law_1351 dL_law_1352 dL_law_1353 dL_law_1354 hN (by omega) (by omega) ?_
  refine l_arg dL_law_1355 dL_law_1356 dL_law_1357 dL_law_1358 dL_law_1359 hN (by omega) (by omega) ?_
  refine l_arg dL_law_1360 dL_law_1361 dL_law_1362 dL_law_1363 dL_law_1364 hN (by omega) (by omega) ?_
  refine l_arg dL_law_1365 dL_law_1366 dL_law_1367 dL_law_1368 dL_law_1369 hN (by omega) (by omega) ?_
  refine l_arg dL_law_1370 dL_law_1371 dL_law_1372 dL_law_1373 dL_law_1374 hN (by omega) (by omega) ?_
  refine lV5i dL_law_1375 lnL_162 okX9_copy ⟨9, TX9, 40, rfl, rfl⟩ ⟨by decide, by decide⟩ (Nat.le_of_ble_eq_true rfl) hM (fun w ρ hR => ?_)
  obtain ⟨rfl, hR⟩ := hR
  exact l_same 1453 dL_law_1378 rfl (k ρ hR)
theorem lo_35 {N : Nat} {xs : Nat → Int32} (hN : N ≤ 3072) {i : Int} (h0 : 0 ≤ i) (h6 : i + 6 ≤ N) {μ : Mem} (h : REL μ) (k : ∀ ρ, REL ρ → AL N xs 1453 (LL i) [] ρ) : AL N xs 1383 (LL i) [] μ := by
  refine l_aload (i := 1) dL_law_1383 rfl ?_
  refine l_arg dL_law_1384 dL_law_1385 dL_law_1386 dL_law_1387 dL_law_1388 hN (by omega) (by omega) ?_
  refine l_arg dL_law_1389 dL_law_1390 dL_law_1391 dL_law_1392 dL_law_1393 hN (by omega) (by omega) ?_
  refine lV2i dL_law_1394 lnL_163 okX8_write ⟨8, TX8, 11, rfl, rfl⟩ ⟨by decide, by decide⟩ (Nat.le_of_ble_eq_true rfl) (ro_write scr_in scr_in  h) (fun z ν hM => ?_)
  refine l_aload (i := 2) dL_law_1397 rfl ?_
  refine l_arg dL_law_1398 dL_law_1399 dL_law_1400 dL_law_1401 dL_law_1402 hN (by omega) (by omega) ?_
  refine l_arg dL_law_1403 dL_law_1404 dL_law_1405 dL_law_1406 dL_law_1407 hN (by omega) (by omega) ?_
  refine lV2i dL_law_1408 lnL_166 okX9_write ⟨9, TX9, 40, rfl, rfl⟩ ⟨by decide, by decide⟩ (Nat.le_of_ble_eq_true rfl) hM (fun w ρ hR => ?_)
  obtain ⟨rfl, hR⟩ := hR
  exact l_same 1453 dL_law_1411 rfl (k ρ hR)
theorem lo_36 {N : Nat} {xs : Nat → Int32} (hN : N ≤ 3072) {i : Int} (h0 : 0 ≤ i) (h6 : i + 6 ≤ N) {μ : Mem} (h : REL μ) (k : ∀ ρ, REL ρ → AL N xs 1453 (LL i) [] ρ) : AL N xs 1416 (LL i) [] μ := by
  refine l_aload (i := 1) dL_law_1416 rfl ?_
  refine l_arg dL_law_1417 dL_law_1418 dL_law_1419 dL_law_1420 dL_law_1421 hN (by omega) (by omega) ?_
  refine lV1i dL_law_1422 lnL_167 okX8_count ⟨8, TX8, 11, rfl, rfl⟩ ⟨by decide, by decide⟩ (Nat.le_of_ble_eq_true rfl) (ro_count scr_in  h) (fun z ν hM => ?_)
  refine l_aload (i := 2) dL_law_1425 rfl ?_
  refine l_arg dL_law_1426 dL_law_1427 dL_law_1428 dL_law_1429 dL_law_1430 hN (by omega) (by omega) ?_
  refine lV1i dL_law_1431 lnL_170 okX9_count ⟨9, TX9, 40, rfl, rfl⟩ ⟨by decide, by decide⟩ (Nat.le_of_ble_eq_true rfl) hM (fun w ρ hR => ?_)
  obtain ⟨rfl, hR⟩ := hR
  exact l_same 1453 dL_law_1434 rfl (k ρ hR)
theorem lo_37 {N : Nat} {xs : Nat → Int32} (hN : N ≤ 3072) {i : Int} (h0 : 0 ≤ i) (h6 : i + 6 ≤ N) {μ : Mem} (h : REL μ) (k : ∀ ρ, REL ρ → AL N xs 1453 (LL i) [] ρ) : AL N xs 1439 (LL i) [] μ := by
  refine l_aload (i := 1) dL_law_1439 rfl ?_
  refine lV0l dL_law_1440 lnL_171 okX8_digest ⟨8, TX8, 11, rfl, rfl⟩ ⟨by decide, by decide⟩ (Nat.le_of_ble_eq_true rfl) (ro_digest  h) (fun z ν hM => ?_)
  refine l_aload (i := 2) dL_law_1443 rfl ?_
  refine lV0l dL_law_1444 lnL_175 okX9_digest ⟨9, TX9, 40, rfl, rfl⟩ ⟨by decide, by decide⟩ (Nat.le_of_ble_eq_true rfl) hM (fun w ρ hR => ?_)
  obtain ⟨rfl, hR⟩ := hR
  exact l_samel 1453 dL_law_1447 dL_law_1448 rfl (k ρ hR)
theorem and63 {x : Int} : 0 ≤ andI x 63 ∧ andI x 63 ≤ 63 := by
  unfold andI
  show 0 ≤ (Int32.ofInt x &&& Int32.ofInt 63).toBitVec.toInt ∧ (Int32.ofInt x &&& Int32.ofInt 63).toBitVec.toInt ≤ 63
  rw [Int32.toBitVec_and]
  have h : ((Int32.ofInt x).toBitVec &&& (Int32.ofInt 63).toBitVec).toNat ≤ 63 := by
    rw [BitVec.toNat_and]
    exact Nat.and_le_right
  rw [BitVec.toInt_eq_toNat_of_lt (by omega)]
  omega
theorem l_loop {N : Nat} {xs : Nat → Int32} (hN : N ≤ 3072) : ∀ (f : Nat) (i : Int), 0 ≤ i → i ≤ N + 5 → (N : Int) + 5 - i < f → ∀ μ, REL μ → AL N xs 18 (LL i) [] μ
  | 0, i, _, _, hm => by omega
  | f + 1, i, h0, h1, hm => by
    intro μ h
    refine l_iload (i := 3) dL_law_18 rfl ?_
    refine l_aload (i := 0) dL_law_19 rfl ?_
    refine l_slen dL_law_20 ?_
    refine l_bipush (z := 6) dL_law_21 (by decide) ?_
    refine l_isub dL_law_23 ?_
    refine l_icmp_gt 1459 dL_law_24 rfl (by omega) (by omega) (fun c => ?_) (fun c => ?_)
    · refine l_iconst dL_law_1459 ?_
      exact l_ret dL_law_1460
    · refine l_aload (i := 0) dL_law_27 rfl ?_
      refine l_iload (i := 3) dL_law_28 rfl ?_
      refine l_sld dL_law_29 h0 (by omega) hN ?_
      refine l_bipush (z := 63) dL_law_30 (by decide) ?_
      refine l_iand dL_law_32 ?_
      have hk : ∀ ρ, REL ρ → AL N xs 1453 (LL i) [] ρ := fun ρ hR => by
        refine l_iinc (i := 3) dL_law_1453 rfl (by decide) (fun j hj => by cases (show j = 2 by omega); rfl) ?_
        refine l_goto 18 dL_law_1456 rfl ?_
        exact l_loop hN f (i + 6) (by omega) (by omega) (by omega) ρ hR
      have ha := and63 (x := (xs i.toNat).toInt)
      generalize andI (xs i.toNat).toInt 63 = a at ha ⊢
      have h6 : i + 6 ≤ N := by omega
      by_cases hc : a ≤ 37
      · have : a = 0 ∨ a = 1 ∨ a = 2 ∨ a = 3 ∨ a = 4 ∨ a = 5 ∨ a = 6 ∨ a = 7 ∨ a = 8 ∨ a = 9 ∨ a = 10 ∨ a = 11 ∨ a = 12 ∨ a = 13 ∨ a = 14 ∨ a = 15 ∨ a = 16 ∨ a = 17 ∨ a = 18 ∨ a = 19 ∨ a = 20 ∨ a = 21 ∨ a = 22 ∨ a = 23 ∨ a = 24 ∨ a = 25 ∨ a = 26 ∨ a = 27 ∨ a = 28 ∨ a = 29 ∨ a = 30 ∨ a = 31 ∨ a = 32 ∨ a = 33 ∨ a = 34 ∨ a = 35 ∨ a = 36 ∨ a = 37 := by omega
        rcases this with rfl | rfl | rfl | rfl | rfl | rfl | rfl | rfl | rfl | rfl | rfl | rfl | rfl | rfl | rfl | rfl | rfl | rfl | rfl | rfl | rfl | rfl | rfl | rfl | rfl | rfl | rfl | rfl | rfl | rfl | rfl | rfl | rfl | rfl | rfl | rfl | rfl | rfl
        · exact l_tableIn 200 dL_law_33 (by decide) (by decide) (by decide) rfl rfl (lo_0 hN h0 h6 h hk)
        · exact l_tableIn 223 dL_law_33 (by decide) (by decide) (by decide) rfl rfl (lo_1 hN h0 h6 h hk)
        · exact l_tableIn 236 dL_law_33 (by decide) (by decide) (by decide) rfl rfl (lo_2 hN h0 h6 h hk)
        · exact l_tableIn 249 dL_law_33 (by decide) (by decide) (by decide) rfl rfl (lo_3 hN h0 h6 h hk)
        · exact l_tableIn 282 dL_law_33 (by decide) (by decide) (by decide) rfl rfl (lo_4 hN h0 h6 h hk)
        · exact l_tableIn 305 dL_law_33 (by decide) (by decide) (by decide) rfl rfl (lo_5 hN h0 h6 h hk)
        · exact l_tableIn 328 dL_law_33 (by decide) (by decide) (by decide) rfl rfl (lo_6 hN h0 h6 h hk)
        · exact l_tableIn 361 dL_law_33 (by decide) (by decide) (by decide) rfl rfl (lo_7 hN h0 h6 h hk)
        · exact l_tableIn 394 dL_law_33 (by decide) (by decide) (by decide) rfl rfl (lo_8 hN h0 h6 h hk)
        · exact l_tableIn 427 dL_law_33 (by decide) (by decide) (by decide) rfl rfl (lo_9 hN h0 h6 h hk)
        · exact l_tableIn 471 dL_law_33 (by decide) (by decide) (by decide) rfl rfl (lo_10 hN h0 h6 h hk)
        · exact l_tableIn 505 dL_law_33 (by decide) (by decide) (by decide) rfl rfl (lo_11 hN h0 h6 h hk)
        · exact l_tableIn 539 dL_law_33 (by decide) (by decide) (by decide) rfl rfl (lo_12 hN h0 h6 h hk)
        · exact l_tableIn 573 dL_law_33 (by decide) (by decide) (by decide) rfl rfl (lo_13 hN h0 h6 h hk)
        · exact l_tableIn 606 dL_law_33 (by decide) (by decide) (by decide) rfl rfl (lo_14 hN h0 h6 h hk)
        · exact l_tableIn 639 dL_law_33 (by decide) (by decide) (by decide) rfl rfl (lo_15 hN h0 h6 h hk)
        · exact l_tableIn 662 dL_law_33 (by decide) (by decide) (by decide) rfl rfl (lo_16 hN h0 h6 h hk)
        · exact l_tableIn 706 dL_law_33 (by decide) (by decide) (by decide) rfl rfl (lo_17 hN h0 h6 h hk)
        · exact l_tableIn 760 dL_law_33 (by decide) (by decide) (by decide) rfl rfl (lo_18 hN h0 h6 h hk)
        · exact l_tableIn 783 dL_law_33 (by decide) (by decide) (by decide) rfl rfl (lo_19 hN h0 h6 h hk)
        · exact l_tableIn 806 dL_law_33 (by decide) (by decide) (by decide) rfl rfl (lo_20 hN h0 h6 h hk)
        · exact l_tableIn 839 dL_law_33 (by decide) (by decide) (by decide) rfl rfl (lo_21 hN h0 h6 h hk)
        · exact l_tableIn 873 dL_law_33 (by decide) (by decide) (by decide) rfl rfl (lo_22 hN h0 h6 h hk)
        · exact l_tableIn 897 dL_law_33 (by decide) (by decide) (by decide) rfl rfl (lo_23 hN h0 h6 h hk)
        · exact l_tableIn 920 dL_law_33 (by decide) (by decide) (by decide) rfl rfl (lo_24 hN h0 h6 h hk)
        · exact l_tableIn 963 dL_law_33 (by decide) (by decide) (by decide) rfl rfl (lo_25 hN h0 h6 h hk)
        · exact l_tableIn 1026 dL_law_33 (by decide) (by decide) (by decide) rfl rfl (lo_26 hN h0 h6 h hk)
        · exact l_tableIn 1059 dL_law_33 (by decide) (by decide) (by decide) rfl rfl (lo_27 hN h0 h6 h hk)
        · exact l_tableIn 1092 dL_law_33 (by decide) (by decide) (by decide) rfl rfl (lo_28 hN h0 h6 h hk)
        · exact l_tableIn 1115 dL_law_33 (by decide) (by decide) (by decide) rfl rfl (lo_29 hN h0 h6 h hk)
        · exact l_tableIn 1158 dL_law_33 (by decide) (by decide) (by decide) rfl rfl (lo_30 hN h0 h6 h hk)
        · exact l_tableIn 1201 dL_law_33 (by decide) (by decide) (by decide) rfl rfl (lo_31 hN h0 h6 h hk)
        · exact l_tableIn 1224 dL_law_33 (by decide) (by decide) (by decide) rfl rfl (lo_32 hN h0 h6 h hk)
        · exact l_tableIn 1277 dL_law_33 (by decide) (by decide) (by decide) rfl rfl (lo_33 hN h0 h6 h hk)
        · exact l_tableIn 1320 dL_law_33 (by decide) (by decide) (by decide) rfl rfl (lo_34 hN h0 h6 h hk)
        · exact l_tableIn 1383 dL_law_33 (by decide) (by decide) (by decide) rfl rfl (lo_35 hN h0 h6 h hk)
        · exact l_tableIn 1416 dL_law_33 (by decide) (by decide) (by decide) rfl rfl (lo_36 hN h0 h6 h hk)
        · exact l_tableIn 1439 dL_law_33 (by decide) (by decide) (by decide) rfl rfl (lo_37 hN h0 h6 h hk)
      · exact l_tableOut 1453 dL_law_33 (by omega) (by omega) rfl (hk μ h)
