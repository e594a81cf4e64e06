/-! the law's 44 cases -/
section LC
variable {l : Launch} {L : Nat} {xs : Nat → Int32} {i n cnt mc : Nat} {M : Mm}
abbrev lwLs (i : Nat) : List (Option Value) := [some (.ref 1003), some (.ref 0), some (.ref 105), some (.int (nI i))]
theorem Jx.fin {M1 M2 : Mm} (h : Jx M1 M2) (hb : oB M1 M2) : Jx M2 M2 := by
  obtain ⟨n, cnt, mc, h⟩ := h
  exact ⟨n, cnt, mc, h.eq hb.x eqB.rf⟩
theorem cmp_self (x : Int64) : lg_cmp x x = 0 := by
  unfold lg_cmp
  simp
theorem ldc_in : Jvm.Cond.constantLong yL_law.cls 18 4294967295 ∈ lw_tbl := List.mem_append_right _ (List.mem_of_getElem? (i := 1434) (by decide +kernel))
theorem lc_row (hL : L ≤ 3072) (hi : i + 6 ≤ L) (h : J n cnt mc M M) (kk : ∀ M2, Jx M2 M2 → LW l L xs 1543 (lwLs i) [] M2) : LW l L xs 224 (lwLs i) [] M := by
  refine lj_aload_n (i := 1) dL_law_224 rfl rfl ?_
  refine lj_arg (kn := 1) (i := i) rfl dL_law_225 dL_law_226 dL_law_227 dL_law_228 dL_law_229 rfl rfl (by omega) hL ?_
  refine lj_arg (kn := 2) (i := i) rfl dL_law_230 dL_law_231 dL_law_232 dL_law_233 dL_law_234 rfl rfl (by omega) hL ?_
  refine lj_arg (kn := 3) (i := i) rfl dL_law_235 dL_law_236 dL_law_237 dL_law_238 dL_law_239 rfl rfl (by omega) hL ?_
  refine lj_cV ck_L_13 (m_X7_row) sh_0 rfl (by decide) (by decide) rfl rfl (Nat.le_of_ble_eq_true rfl) dL_law_240 (fun r M1 hq => ?_)
  obtain ⟨v, rfl, hc⟩ := hq
  have h1 : J n cnt mc M M1 := h.eq eqA.rf (fa_row hc).x
  refine lj_aload_n (i := 2) dL_law_243 rfl rfl ?_
  refine lj_arg (kn := 1) (i := i) rfl dL_law_244 dL_law_245 dL_law_246 dL_law_247 dL_law_248 rfl rfl (by omega) hL ?_
  refine lj_arg (kn := 2) (i := i) rfl dL_law_249 dL_law_250 dL_law_251 dL_law_252 dL_law_253 rfl rfl (by omega) hL ?_
  refine lj_arg (kn := 3) (i := i) rfl dL_law_254 dL_law_255 dL_law_256 dL_law_257 dL_law_258 rfl rfl (by omega) hL ?_
  refine lj_cV ck_L_17 (m_X8_row) sh_105 rfl (by decide) (by decide) rfl rfl (Nat.le_of_ble_eq_true rfl) dL_law_259 (fun r M2 hq => ?_)
  obtain ⟨w, rfl, hm⟩ := hq
  obtain ⟨e9, h2⟩ := st_row h1 hc hm
  refine lj_icmp_eq (tgt := 1543) dL_law_262 (by decide) (fun _ => ?_) (fun hne => absurd e9 hne)
  exact kk M2 (h2.fin (fb_row hm))
theorem lc_set (hL : L ≤ 3072) (hi : i + 6 ≤ L) (h : J n cnt mc M M) (kk : ∀ M2, Jx M2 M2 → LW l L xs 1543 (lwLs i) [] M2) : LW l L xs 267 (lwLs i) [] M := by
  refine lj_aload_n (i := 1) dL_law_267 rfl rfl ?_
  refine lj_arg (kn := 1) (i := i) rfl dL_law_268 dL_law_269 dL_law_270 dL_law_271 dL_law_272 rfl rfl (by omega) hL ?_
  refine lj_arg (kn := 2) (i := i) rfl dL_law_273 dL_law_274 dL_law_275 dL_law_276 dL_law_277 rfl rfl (by omega) hL ?_
  refine lj_arg (kn := 3) (i := i) rfl dL_law_278 dL_law_279 dL_law_280 dL_law_281 dL_law_282 rfl rfl (by omega) hL ?_
  refine lj_i2l dL_law_283 ?_
  refine lj_bipush (v := 32) dL_law_284 (by decide) ?_
  refine lj_lshl dL_law_286 ?_
  refine lj_arg (kn := 4) (i := i) rfl dL_law_287 dL_law_288 dL_law_289 dL_law_290 dL_law_291 rfl rfl (by omega) hL ?_
  refine lj_i2l dL_law_292 ?_
  refine lj_ldc2 ldc_in dL_law_293 ?_
  refine lj_land dL_law_296 ?_
  refine lj_lor dL_law_297 ?_
  refine lj_topl (fun x ex => ?_)
  refine lj_cV ck_L_20 (m_X7_set h.sz) sh_0 rfl (by decide) (by decide) rfl rfl (Nat.le_of_ble_eq_true rfl) dL_law_298 (fun r M1 hq => ?_)
  obtain ⟨v, rfl, hc⟩ := hq
  have h1 : J n cnt mc M M1 := h.eq eqA.rf (fa_set hc).x
  refine lj_aload_n (i := 2) dL_law_301 rfl rfl ?_
  refine lj_arg (kn := 1) (i := i) rfl dL_law_302 dL_law_303 dL_law_304 dL_law_305 dL_law_306 rfl rfl (by omega) hL ?_
  refine lj_arg (kn := 2) (i := i) rfl dL_law_307 dL_law_308 dL_law_309 dL_law_310 dL_law_311 rfl rfl (by omega) hL ?_
  refine lj_arg (kn := 3) (i := i) rfl dL_law_312 dL_law_313 dL_law_314 dL_law_315 dL_law_316 rfl rfl (by omega) hL ?_
  refine lj_i2l dL_law_317 ?_
  refine lj_bipush (v := 32) dL_law_318 (by decide) ?_
  refine lj_lshl dL_law_320 ?_
  refine lj_arg (kn := 4) (i := i) rfl dL_law_321 dL_law_322 dL_law_323 dL_law_324 dL_law_325 rfl rfl (by omega) hL ?_
  refine lj_i2l dL_law_326 ?_
  refine lj_ldc2 ldc_in dL_law_327 ?_
  refine lj_land dL_law_330 ?_
  refine lj_lor dL_law_331 ?_
  rw [← ex]
  refine lj_cV ck_L_24 (m_X8_set h1.sz8) sh_105 rfl (by decide) (by decide) rfl rfl (Nat.le_of_ble_eq_true rfl) dL_law_332 (fun r M2 hq => ?_)
  obtain ⟨w, rfl, hm⟩ := hq
  obtain ⟨e9, h2⟩ := st_set h1 hc hm
  refine lj_icmp_eq (tgt := 1543) dL_law_335 (by decide) (fun _ => ?_) (fun hne => absurd e9 hne)
  exact kk M2 (h2.fin (fb_set hm))
theorem lc_copy (hL : L ≤ 3072) (hi : i + 6 ≤ L) (h : J n cnt mc M M) (kk : ∀ M2, Jx M2 M2 → LW l L xs 1543 (lwLs i) [] M2) : LW l L xs 340 (lwLs i) [] M := by
  refine lj_aload_n (i := 1) dL_law_340 rfl rfl ?_
  refine lj_arg (kn := 1) (i := i) rfl dL_law_341 dL_law_342 dL_law_343 dL_law_344 dL_law_345 rfl rfl (by omega) hL ?_
  refine lj_arg (kn := 2) (i := i) rfl dL_law_346 dL_law_347 dL_law_348 dL_law_349 dL_law_350 rfl rfl (by omega) hL ?_
  refine lj_arg (kn := 3) (i := i) rfl dL_law_351 dL_law_352 dL_law_353 dL_law_354 dL_law_355 rfl rfl (by omega) hL ?_
  refine lj_arg (kn := 4) (i := i) rfl dL_law_356 dL_law_357 dL_law_358 dL_law_359 dL_law_360 rfl rfl (by omega) hL ?_
  refine lj_arg (kn := 5) (i := i) rfl dL_law_361 dL_law_362 dL_law_363 dL_law_364 dL_law_365 rfl rfl (by omega) hL ?_
  refine lj_cV ck_L_25 (m_X7_copy h.sz) sh_0 rfl (by decide) (by decide) rfl rfl (Nat.le_of_ble_eq_true rfl) dL_law_366 (fun r M1 hq => ?_)
  obtain ⟨v, rfl, hc⟩ := hq
  have h1 : J n cnt mc M M1 := h.eq eqA.rf (fa_copy hc).x
  refine lj_aload_n (i := 2) dL_law_369 rfl rfl ?_
  refine lj_arg (kn := 1) (i := i) rfl dL_law_370 dL_law_371 dL_law_372 dL_law_373 dL_law_374 rfl rfl (by omega) hL ?_
  refine lj_arg (kn := 2) (i := i) rfl dL_law_375 dL_law_376 dL_law_377 dL_law_378 dL_law_379 rfl rfl (by omega) hL ?_
  refine lj_arg (kn := 3) (i := i) rfl dL_law_380 dL_law_381 dL_law_382 dL_law_383 dL_law_384 rfl rfl (by omega) hL ?_
  refine lj_arg (kn := 4) (i := i) rfl dL_law_385 dL_law_386 dL_law_387 dL_law_388 dL_law_389 rfl rfl (by omega) hL ?_
  refine lj_arg (kn := 5) (i := i) rfl dL_law_390 dL_law_391 dL_law_392 dL_law_393 dL_law_394 rfl rfl (by omega) hL ?_
  refine lj_cV ck_L_29 (m_X8_copy h1.sz8) sh_105 rfl (by decide) (by decide) rfl rfl (Nat.le_of_ble_eq_true rfl) dL_law_395 (fun r M2 hq => ?_)
  obtain ⟨w, rfl, hm⟩ := hq
  obtain ⟨e9, h2⟩ := st_copy h1 hc hm
  refine lj_icmp_eq (tgt := 1543) dL_law_398 (by decide) (fun _ => ?_) (fun hne => absurd e9 hne)
  exact kk M2 (h2.fin (fb_copy hm))
theorem lc_element (hL : L ≤ 3072) (hi : i + 6 ≤ L) (h : J n cnt mc M M) (kk : ∀ M2, Jx M2 M2 → LW l L xs 1543 (lwLs i) [] M2) : LW l L xs 403 (lwLs i) [] M := by
  refine lj_aload_n (i := 1) dL_law_403 rfl rfl ?_
  refine lj_arg (kn := 1) (i := i) rfl dL_law_404 dL_law_405 dL_law_406 dL_law_407 dL_law_408 rfl rfl (by omega) hL ?_
  refine lj_arg (kn := 2) (i := i) rfl dL_law_409 dL_law_410 dL_law_411 dL_law_412 dL_law_413 rfl rfl (by omega) hL ?_
  refine lj_cV ck_L_30 (m_X7_element h.sz) sh_0 rfl (by decide) (by decide) rfl rfl (Nat.le_of_ble_eq_true rfl) dL_law_414 (fun r M1 hq => ?_)
  obtain ⟨rfl, rfl⟩ := hq
  refine lj_aload_n (i := 2) dL_law_417 rfl rfl ?_
  refine lj_arg (kn := 1) (i := i) rfl dL_law_418 dL_law_419 dL_law_420 dL_law_421 dL_law_422 rfl rfl (by omega) hL ?_
  refine lj_arg (kn := 2) (i := i) rfl dL_law_423 dL_law_424 dL_law_425 dL_law_426 dL_law_427 rfl rfl (by omega) hL ?_
  refine lj_cV ck_L_34 (m_X8_element h.sz8) sh_105 rfl (by decide) (by decide) rfl rfl (Nat.le_of_ble_eq_true rfl) dL_law_428 (fun r M2 hq => ?_)
  obtain ⟨rfl, rfl⟩ := hq
  refine lj_lcmp dL_law_431 ?_
  rw [← st_element h]
  exact lj_if_eq (tgt := 1543) dL_law_432 (by decide) (fun _ => kk _ h.x) (fun hne => absurd (cmp_self _) hne)
theorem lc_show (hL : L ≤ 3072) (hi : i + 6 ≤ L) (h : J n cnt mc M M) (kk : ∀ M2, Jx M2 M2 → LW l L xs 1543 (lwLs i) [] M2) : LW l L xs 437 (lwLs i) [] M := by
  refine lj_aload_n (i := 1) dL_law_437 rfl rfl ?_
  refine lj_arg (kn := 1) (i := i) rfl dL_law_438 dL_law_439 dL_law_440 dL_law_441 dL_law_442 rfl rfl (by omega) hL ?_
  refine lj_arg (kn := 2) (i := i) rfl dL_law_443 dL_law_444 dL_law_445 dL_law_446 dL_law_447 rfl rfl (by omega) hL ?_
  refine lj_cV ck_L_35 (m_X7_show) sh_0 rfl (by decide) (by decide) rfl rfl (Nat.le_of_ble_eq_true rfl) dL_law_448 (fun r M1 hq => ?_)
  obtain ⟨v, rfl, hc⟩ := hq
  have h1 : J n cnt mc M M1 := h.eq eqA.rf (fa_show hc).x
  refine lj_aload_n (i := 2) dL_law_451 rfl rfl ?_
  refine lj_arg (kn := 1) (i := i) rfl dL_law_452 dL_law_453 dL_law_454 dL_law_455 dL_law_456 rfl rfl (by omega) hL ?_
  refine lj_arg (kn := 2) (i := i) rfl dL_law_457 dL_law_458 dL_law_459 dL_law_460 dL_law_461 rfl rfl (by omega) hL ?_
  refine lj_cV ck_L_39 (m_X8_show) sh_105 rfl (by decide) (by decide) rfl rfl (Nat.le_of_ble_eq_true rfl) dL_law_462 (fun r M2 hq => ?_)
  obtain ⟨w, rfl, hm⟩ := hq
  obtain ⟨e9, h2⟩ := st_show h1 hc hm
  refine lj_icmp_eq (tgt := 1543) dL_law_465 (by decide) (fun _ => ?_) (fun hne => absurd e9 hne)
  exact kk M2 (h2.fin (fb_show hm))
theorem lc_holds (hL : L ≤ 3072) (hi : i + 6 ≤ L) (h : J n cnt mc M M) (kk : ∀ M2, Jx M2 M2 → LW l L xs 1543 (lwLs i) [] M2) : LW l L xs 470 (lwLs i) [] M := by
  refine lj_aload_n (i := 1) dL_law_470 rfl rfl ?_
  refine lj_arg (kn := 1) (i := i) rfl dL_law_471 dL_law_472 dL_law_473 dL_law_474 dL_law_475 rfl rfl (by omega) hL ?_
  refine lj_cV ck_L_40 (m_X7_holds) sh_0 rfl (by decide) (by decide) rfl rfl (Nat.le_of_ble_eq_true rfl) dL_law_476 (fun r M1 hq => ?_)
  obtain ⟨v, rfl, hc⟩ := hq
  have h1 : J n cnt mc M M1 := h.eq eqA.rf (fa_holds hc).x
  refine lj_aload_n (i := 2) dL_law_479 rfl rfl ?_
  refine lj_arg (kn := 1) (i := i) rfl dL_law_480 dL_law_481 dL_law_482 dL_law_483 dL_law_484 rfl rfl (by omega) hL ?_
  refine lj_cV ck_L_44 (m_X8_holds) sh_105 rfl (by decide) (by decide) rfl rfl (Nat.le_of_ble_eq_true rfl) dL_law_485 (fun r M2 hq => ?_)
  obtain ⟨w, rfl, hm⟩ := hq
  obtain ⟨e9, h2⟩ := st_holds h1 hc hm
  refine lj_icmp_eq (tgt := 1543) dL_law_488 (by decide) (fun _ => ?_) (fun hne => absurd e9 hne)
  exact kk M2 (h2.fin (fb_holds hm))
theorem lc_says (hL : L ≤ 3072) (hi : i + 6 ≤ L) (h : J n cnt mc M M) (kk : ∀ M2, Jx M2 M2 → LW l L xs 1543 (lwLs i) [] M2) : LW l L xs 493 (lwLs i) [] M := by
  refine lj_aload_n (i := 1) dL_law_493 rfl rfl ?_
  refine lj_arg (kn := 1) (i := i) rfl dL_law_494 dL_law_495 dL_law_496 dL_law_497 dL_law_498 rfl rfl (by omega) hL ?_
  refine lj_arg (kn := 2) (i := i) rfl dL_law_499 dL_law_500 dL_law_501 dL_law_502 dL_law_503 rfl rfl (by omega) hL ?_
  refine lj_cV ck_L_45 (m_X7_says h.hn h.n30) sh_0 rfl (by decide) (by decide) rfl rfl (Nat.le_of_ble_eq_true rfl) dL_law_504 (fun r M1 hq => ?_)
  obtain ⟨v, rfl, hc⟩ := hq
  have h1 : J n cnt mc M M1 := h.eq eqA.rf (fa_says hc).x
  refine lj_aload_n (i := 2) dL_law_507 rfl rfl ?_
  refine lj_arg (kn := 1) (i := i) rfl dL_law_508 dL_law_509 dL_law_510 dL_law_511 dL_law_512 rfl rfl (by omega) hL ?_
  refine lj_arg (kn := 2) (i := i) rfl dL_law_513 dL_law_514 dL_law_515 dL_law_516 dL_law_517 rfl rfl (by omega) hL ?_
  refine lj_cV ck_L_48 (m_X8_says h1.1.g h1.hel) sh_105 rfl (by decide) (by decide) rfl rfl (Nat.le_of_ble_eq_true rfl) dL_law_518 (fun r M2 hq => ?_)
  obtain ⟨w, rfl, hm⟩ := hq
  obtain ⟨e9, h2⟩ := st_says h1 hc hm
  refine lj_icmp_eq (tgt := 1543) dL_law_521 (by decide) (fun _ => ?_) (fun hne => absurd e9 hne)
  exact kk M2 (h2.fin (fb_says hm))
theorem lc_person (hL : L ≤ 3072) (hi : i + 6 ≤ L) (h : J n cnt mc M M) (kk : ∀ M2, Jx M2 M2 → LW l L xs 1543 (lwLs i) [] M2) : LW l L xs 526 (lwLs i) [] M := by
  refine lj_aload_n (i := 1) dL_law_526 rfl rfl ?_
  refine lj_arg (kn := 1) (i := i) rfl dL_law_527 dL_law_528 dL_law_529 dL_law_530 dL_law_531 rfl rfl (by omega) hL ?_
  refine lj_arg (kn := 2) (i := i) rfl dL_law_532 dL_law_533 dL_law_534 dL_law_535 dL_law_536 rfl rfl (by omega) hL ?_
  refine lj_arg (kn := 3) (i := i) rfl dL_law_537 dL_law_538 dL_law_539 dL_law_540 dL_law_541 rfl rfl (by omega) hL ?_
  refine lj_arg (kn := 4) (i := i) rfl dL_law_542 dL_law_543 dL_law_544 dL_law_545 dL_law_546 rfl rfl (by omega) hL ?_
  refine lj_arg (kn := 5) (i := i) rfl dL_law_547 dL_law_548 dL_law_549 dL_law_550 dL_law_551 rfl rfl (by omega) hL ?_
  refine lj_cV ck_L_49 (m_X7_person h.hn h.n30) sh_0 rfl (by decide) (by decide) rfl rfl (Nat.le_of_ble_eq_true rfl) dL_law_552 (fun r M1 hq => ?_)
  obtain ⟨v, rfl, hc⟩ := hq
  have h1 : J n cnt mc M M1 := h.eq eqA.rf (fa_person hc).x
  refine lj_aload_n (i := 2) dL_law_555 rfl rfl ?_
  refine lj_arg (kn := 1) (i := i) rfl dL_law_556 dL_law_557 dL_law_558 dL_law_559 dL_law_560 rfl rfl (by omega) hL ?_
  refine lj_arg (kn := 2) (i := i) rfl dL_law_561 dL_law_562 dL_law_563 dL_law_564 dL_law_565 rfl rfl (by omega) hL ?_
  refine lj_arg (kn := 3) (i := i) rfl dL_law_566 dL_law_567 dL_law_568 dL_law_569 dL_law_570 rfl rfl (by omega) hL ?_
  refine lj_arg (kn := 4) (i := i) rfl dL_law_571 dL_law_572 dL_law_573 dL_law_574 dL_law_575 rfl rfl (by omega) hL ?_
  refine lj_arg (kn := 5) (i := i) rfl dL_law_576 dL_law_577 dL_law_578 dL_law_579 dL_law_580 rfl rfl (by omega) hL ?_
  refine lj_cV ck_L_52 (m_X8_person h1.bn h1.n30) sh_105 rfl (by decide) (by decide) rfl rfl (Nat.le_of_ble_eq_true rfl) dL_law_581 (fun r M2 hq => ?_)
  obtain ⟨w, rfl, hm⟩ := hq
  obtain ⟨e9, h2⟩ := st_person h1 hc hm
  refine lj_icmp_eq (tgt := 1543) dL_law_584 (by decide) (fun _ => ?_) (fun hne => absurd e9 hne)
  exact kk M2 (h2.fin (fb_person hm))
theorem lc_people (hL : L ≤ 3072) (hi : i + 6 ≤ L) (h : J n cnt mc M M) (kk : ∀ M2, Jx M2 M2 → LW l L xs 1543 (lwLs i) [] M2) : LW l L xs 589 (lwLs i) [] M := by
  refine lj_aload_n (i := 1) dL_law_589 rfl rfl ?_
  refine lj_arg (kn := 1) (i := i) rfl dL_law_590 dL_law_591 dL_law_592 dL_law_593 dL_law_594 rfl rfl (by omega) hL ?_
  refine lj_arg (kn := 2) (i := i) rfl dL_law_595 dL_law_596 dL_law_597 dL_law_598 dL_law_599 rfl rfl (by omega) hL ?_
  refine lj_arg (kn := 3) (i := i) rfl dL_law_600 dL_law_601 dL_law_602 dL_law_603 dL_law_604 rfl rfl (by omega) hL ?_
  refine lj_cV ck_L_53 (m_X7_people h.sz h.hn h.n30) sh_0 rfl (by decide) (by decide) rfl rfl (Nat.le_of_ble_eq_true rfl) dL_law_605 (fun r M1 hq => ?_)
  obtain ⟨v, rfl, hc⟩ := hq
  have h1 : J n cnt mc M M1 := h.eq eqA.rf (fa_people hc).x
  refine lj_aload_n (i := 2) dL_law_608 rfl rfl ?_
  refine lj_arg (kn := 1) (i := i) rfl dL_law_609 dL_law_610 dL_law_611 dL_law_612 dL_law_613 rfl rfl (by omega) hL ?_
  refine lj_arg (kn := 2) (i := i) rfl dL_law_614 dL_law_615 dL_law_616 dL_law_617 dL_law_618 rfl rfl (by omega) hL ?_
  refine lj_arg (kn := 3) (i := i) rfl dL_law_619 dL_law_620 dL_law_621 dL_law_622 dL_law_623 rfl rfl (by omega) hL ?_
  refine lj_cV ck_L_56 (m_X8_people h1.sz8 h1.bn h1.n30) sh_105 rfl (by decide) (by decide) rfl rfl (Nat.le_of_ble_eq_true rfl) dL_law_624 (fun r M2 hq => ?_)
  obtain ⟨w, rfl, hm⟩ := hq
  obtain ⟨e9, h2⟩ := st_people h1 hc hm
  refine lj_icmp_eq (tgt := 1543) dL_law_627 (by decide) (fun _ => ?_) (fun hne => absurd e9 hne)
  exact kk M2 (h2.fin (fb_people hm))
theorem lc_personOf (hL : L ≤ 3072) (hi : i + 6 ≤ L) (h : J n cnt mc M M) (kk : ∀ M2, Jx M2 M2 → LW l L xs 1543 (lwLs i) [] M2) : LW l L xs 632 (lwLs i) [] M := by
  refine lj_aload_n (i := 1) dL_law_632 rfl rfl ?_
  refine lj_arg (kn := 1) (i := i) rfl dL_law_633 dL_law_634 dL_law_635 dL_law_636 dL_law_637 rfl rfl (by omega) hL ?_
  refine lj_arg (kn := 2) (i := i) rfl dL_law_638 dL_law_639 dL_law_640 dL_law_641 dL_law_642 rfl rfl (by omega) hL ?_
  refine lj_cV ck_L_57 (m_X7_personOf h.hn h.n30) sh_0 rfl (by decide) (by decide) rfl rfl (Nat.le_of_ble_eq_true rfl) dL_law_643 (fun r M1 hq => ?_)
  obtain ⟨v, rfl, hc⟩ := hq
  have h1 : J n cnt mc M M1 := h.eq eqA.rf (fa_personOf hc).x
  refine lj_aload_n (i := 2) dL_law_646 rfl rfl ?_
  refine lj_arg (kn := 1) (i := i) rfl dL_law_647 dL_law_648 dL_law_649 dL_law_650 dL_law_651 rfl rfl (by omega) hL ?_
  refine lj_arg (kn := 2) (i := i) rfl dL_law_652 dL_law_653 dL_law_654 dL_law_655 dL_law_656 rfl rfl (by omega) hL ?_
  refine lj_cV ck_L_60 (m_X8_personOf h1.bn h1.n30) sh_105 rfl (by decide) (by decide) rfl rfl (Nat.le_of_ble_eq_true rfl) dL_law_657 (fun r M2 hq => ?_)
  obtain ⟨w, rfl, hm⟩ := hq
  obtain ⟨e9, h2⟩ := st_personOf h1 hc hm
  refine lj_icmp_eq (tgt := 1543) dL_law_660 (by decide) (fun _ => ?_) (fun hne => absurd e9 hne)
  exact kk M2 (h2.fin (fb_personOf hm))
theorem lc_move (hL : L ≤ 3072) (hi : i + 6 ≤ L) (h : J n cnt mc M M) (kk : ∀ M2, Jx M2 M2 → LW l L xs 1543 (lwLs i) [] M2) : LW l L xs 665 (lwLs i) [] M := by
  refine lj_aload_n (i := 1) dL_law_665 rfl rfl ?_
  refine lj_arg (kn := 1) (i := i) rfl dL_law_666 dL_law_667 dL_law_668 dL_law_669 dL_law_670 rfl rfl (by omega) hL ?_
  refine lj_arg (kn := 2) (i := i) rfl dL_law_671 dL_law_672 dL_law_673 dL_law_674 dL_law_675 rfl rfl (by omega) hL ?_
  refine lj_cV ck_L_61 (m_X7_move h.hn h.n30) sh_0 rfl (by decide) (by decide) rfl rfl (Nat.le_of_ble_eq_true rfl) dL_law_676 (fun r M1 hq => ?_)
  obtain ⟨v, rfl, hc⟩ := hq
  have h1 : J n cnt mc M M1 := h.eq eqA.rf (fa_move hc).x
  refine lj_aload_n (i := 2) dL_law_679 rfl rfl ?_
  refine lj_arg (kn := 1) (i := i) rfl dL_law_680 dL_law_681 dL_law_682 dL_law_683 dL_law_684 rfl rfl (by omega) hL ?_
  refine lj_arg (kn := 2) (i := i) rfl dL_law_685 dL_law_686 dL_law_687 dL_law_688 dL_law_689 rfl rfl (by omega) hL ?_
  refine lj_cV ck_L_64 (m_X8_move h1.bn h1.n30) sh_105 rfl (by decide) (by decide) rfl rfl (Nat.le_of_ble_eq_true rfl) dL_law_690 (fun r M2 hq => ?_)
  obtain ⟨w, rfl, hm⟩ := hq
  obtain ⟨e9, h2⟩ := st_move h1 hc hm
  refine lj_icmp_eq (tgt := 1543) dL_law_693 (by decide) (fun _ => ?_) (fun hne => absurd e9 hne)
  exact kk M2 (h2.fin (fb_move hm))
theorem lc_alter (hL : L ≤ 3072) (hi : i + 6 ≤ L) (h : J n cnt mc M M) (kk : ∀ M2, Jx M2 M2 → LW l L xs 1543 (lwLs i) [] M2) : LW l L xs 698 (lwLs i) [] M := by
  refine lj_aload_n (i := 1) dL_law_698 rfl rfl ?_
  refine lj_arg (kn := 1) (i := i) rfl dL_law_699 dL_law_700 dL_law_701 dL_law_702 dL_law_703 rfl rfl (by omega) hL ?_
  refine lj_arg (kn := 2) (i := i) rfl dL_law_704 dL_law_705 dL_law_706 dL_law_707 dL_law_708 rfl rfl (by omega) hL ?_
  refine lj_arg (kn := 3) (i := i) rfl dL_law_709 dL_law_710 dL_law_711 dL_law_712 dL_law_713 rfl rfl (by omega) hL ?_
  refine lj_cV ck_L_65 (m_X7_alter h.hn h.n30) sh_0 rfl (by decide) (by decide) rfl rfl (Nat.le_of_ble_eq_true rfl) dL_law_714 (fun r M1 hq => ?_)
  obtain ⟨v, rfl, hc⟩ := hq
  have h1 : J n cnt mc M M1 := h.eq eqA.rf (fa_alter hc).x
  refine lj_aload_n (i := 2) dL_law_717 rfl rfl ?_
  refine lj_arg (kn := 1) (i := i) rfl dL_law_718 dL_law_719 dL_law_720 dL_law_721 dL_law_722 rfl rfl (by omega) hL ?_
  refine lj_arg (kn := 2) (i := i) rfl dL_law_723 dL_law_724 dL_law_725 dL_law_726 dL_law_727 rfl rfl (by omega) hL ?_
  refine lj_arg (kn := 3) (i := i) rfl dL_law_728 dL_law_729 dL_law_730 dL_law_731 dL_law_732 rfl rfl (by omega) hL ?_
  refine lj_cV ck_L_68 (m_X8_alter h1.bn h1.n30) sh_105 rfl (by decide) (by decide) rfl rfl (Nat.le_of_ble_eq_true rfl) dL_law_733 (fun r M2 hq => ?_)
  obtain ⟨w, rfl, hm⟩ := hq
  obtain ⟨e9, h2⟩ := st_alter h1 hc hm
  refine lj_icmp_eq (tgt := 1543) dL_law_736 (by decide) (fun _ => ?_) (fun hne => absurd e9 hne)
  exact kk M2 (h2.fin (fb_alter hm))
theorem lc_glove (hL : L ≤ 3072) (hi : i + 6 ≤ L) (h : J n cnt mc M M) (kk : ∀ M2, Jx M2 M2 → LW l L xs 1543 (lwLs i) [] M2) : LW l L xs 741 (lwLs i) [] M := by
  refine lj_aload_n (i := 1) dL_law_741 rfl rfl ?_
  refine lj_arg (kn := 1) (i := i) rfl dL_law_742 dL_law_743 dL_law_744 dL_law_745 dL_law_746 rfl rfl (by omega) hL ?_
  refine lj_arg (kn := 2) (i := i) rfl dL_law_747 dL_law_748 dL_law_749 dL_law_750 dL_law_751 rfl rfl (by omega) hL ?_
  refine lj_if_eq (tgt := 759) dL_law_752 (by decide) (fun c7 => ?_) (fun c7 => ?_)
  ·
    refine lj_iconst (v := 0) dL_law_759 (by decide) ?_
    refine lj_cV ck_L_69 (m_X7_glove (g := False) h.hn h.n30) sh_0 rfl (by decide) (by decide) rfl (by rw [b01_f id]; rfl) (Nat.le_of_ble_eq_true rfl) dL_law_760 (fun r M1 hq => ?_)
    obtain ⟨v, rfl, hc⟩ := hq
    have h1 : J n cnt mc M M1 := h.eq eqA.rf (fa_glove hc).x
    refine lj_aload_n (i := 2) dL_law_763 rfl rfl ?_
    refine lj_arg (kn := 1) (i := i) rfl dL_law_764 dL_law_765 dL_law_766 dL_law_767 dL_law_768 rfl rfl (by omega) hL ?_
    refine lj_arg (kn := 2) (i := i) rfl dL_law_769 dL_law_770 dL_law_771 dL_law_772 dL_law_773 rfl rfl (by omega) hL ?_
    refine lj_if_eq (tgt := 781) dL_law_774 (by decide) (fun _ => ?_) (fun c8 => absurd c7 c8)
    refine lj_iconst (v := 0) dL_law_781 (by decide) ?_
    refine lj_cV ck_L_73 (m_X8_glove (g := False) h1.bn h1.n30) sh_105 rfl (by decide) (by decide) rfl (by rw [b01_f id]; rfl) (Nat.le_of_ble_eq_true rfl) dL_law_782 (fun r M2 hq => ?_)
    obtain ⟨w, rfl, hm⟩ := hq
    obtain ⟨e9, h2⟩ := st_glove h1 hc hm
    refine lj_icmp_eq (tgt := 1543) dL_law_785 (by decide) (fun _ => ?_) (fun hne => absurd e9 hne)
    exact kk M2 (h2.fin (fb_glove hm))
  ·
    refine lj_iconst (v := 1) dL_law_755 (by decide) ?_
    refine lj_goto (tgt := 760) dL_law_756 (by decide) ?_
    refine lj_cV ck_L_69 (m_X7_glove (g := True) h.hn h.n30) sh_0 rfl (by decide) (by decide) rfl (by rw [b01_t trivial]; rfl) (Nat.le_of_ble_eq_true rfl) dL_law_760 (fun r M1 hq => ?_)
    obtain ⟨v, rfl, hc⟩ := hq
    have h1 : J n cnt mc M M1 := h.eq eqA.rf (fa_glove hc).x
    refine lj_aload_n (i := 2) dL_law_763 rfl rfl ?_
    refine lj_arg (kn := 1) (i := i) rfl dL_law_764 dL_law_765 dL_law_766 dL_law_767 dL_law_768 rfl rfl (by omega) hL ?_
    refine lj_arg (kn := 2) (i := i) rfl dL_law_769 dL_law_770 dL_law_771 dL_law_772 dL_law_773 rfl rfl (by omega) hL ?_
    refine lj_if_eq (tgt := 781) dL_law_774 (by decide) (fun c8 => absurd c8 c7) (fun _ => ?_)
    refine lj_iconst (v := 1) dL_law_777 (by decide) ?_
    refine lj_goto (tgt := 782) dL_law_778 (by decide) ?_
    refine lj_cV ck_L_73 (m_X8_glove (g := True) h1.bn h1.n30) sh_105 rfl (by decide) (by decide) rfl (by rw [b01_t trivial]; rfl) (Nat.le_of_ble_eq_true rfl) dL_law_782 (fun r M2 hq => ?_)
    obtain ⟨w, rfl, hm⟩ := hq
    obtain ⟨e9, h2⟩ := st_glove h1 hc hm
    refine lj_icmp_eq (tgt := 1543) dL_law_785 (by decide) (fun _ => ?_) (fun hne => absurd e9 hne)
    exact kk M2 (h2.fin (fb_glove hm))
theorem lc_laws (hL : L ≤ 3072) (hi : i + 6 ≤ L) (h : J n cnt mc M M) (kk : ∀ M2, Jx M2 M2 → LW l L xs 1543 (lwLs i) [] M2) : LW l L xs 790 (lwLs i) [] M := by
  refine lj_aload_n (i := 1) dL_law_790 rfl rfl ?_
  refine lj_arg (kn := 1) (i := i) rfl dL_law_791 dL_law_792 dL_law_793 dL_law_794 dL_law_795 rfl rfl (by omega) hL ?_
  refine lj_cV ck_L_74 (m_X7_laws h.sz h.ac h.c6) sh_0 rfl (by decide) (by decide) rfl rfl (Nat.le_of_ble_eq_true rfl) dL_law_796 (fun r M1 hq => ?_)
  obtain ⟨v, rfl, hc⟩ := hq
  have h1 : J n cnt mc M M1 := h.eq eqA.rf (fa_laws h.c6 hc).x
  refine lj_aload_n (i := 2) dL_law_799 rfl rfl ?_
  refine lj_arg (kn := 1) (i := i) rfl dL_law_800 dL_law_801 dL_law_802 dL_law_803 dL_law_804 rfl rfl (by omega) hL ?_
  refine lj_cV ck_L_77 (m_X8_laws h1.sz8 h1.bc h1.c6 h1.2.2.2.2.2.2.2.2) sh_105 rfl (by decide) (by decide) rfl rfl (Nat.le_of_ble_eq_true rfl) dL_law_805 (fun r M2 hq => ?_)
  obtain ⟨w, rfl, hm⟩ := hq
  obtain ⟨e9, h2⟩ := st_laws h1 hc hm
  refine lj_icmp_eq (tgt := 1543) dL_law_808 (by decide) (fun _ => ?_) (fun hne => absurd e9 hne)
  exact kk M2 (h2.fin (fb_laws hm))
theorem lc_fault (hL : L ≤ 3072) (hi : i + 6 ≤ L) (h : J n cnt mc M M) (kk : ∀ M2, Jx M2 M2 → LW l L xs 1543 (lwLs i) [] M2) : LW l L xs 813 (lwLs i) [] M := by
  refine lj_aload_n (i := 1) dL_law_813 rfl rfl ?_
  refine lj_cV ck_L_78 (m_X7_fault) sh_0 rfl (by decide) (by decide) rfl rfl (Nat.le_of_ble_eq_true rfl) dL_law_814 (fun r M1 hq => ?_)
  obtain ⟨rfl, rfl⟩ := hq
  refine lj_aload_n (i := 2) dL_law_817 rfl rfl ?_
  refine lj_cV ck_L_82 (m_X8_fault) sh_105 rfl (by decide) (by decide) rfl rfl (Nat.le_of_ble_eq_true rfl) dL_law_818 (fun r M2 hq => ?_)
  obtain ⟨rfl, rfl⟩ := hq
  exact lj_icmp_eq (tgt := 1543) dL_law_821 (by decide) (fun _ => kk _ h.x) (fun hne => absurd h.2.2.2.2.1.2 hne)
theorem lc_law (hL : L ≤ 3072) (hi : i + 6 ≤ L) (h : J n cnt mc M M) (kk : ∀ M2, Jx M2 M2 → LW l L xs 1543 (lwLs i) [] M2) : LW l L xs 826 (lwLs i) [] M := by
  refine lj_aload_n (i := 1) dL_law_826 rfl rfl ?_
  refine lj_arg (kn := 1) (i := i) rfl dL_law_827 dL_law_828 dL_law_829 dL_law_830 dL_law_831 rfl rfl (by omega) hL ?_
  refine lj_arg (kn := 2) (i := i) rfl dL_law_832 dL_law_833 dL_law_834 dL_law_835 dL_law_836 rfl rfl (by omega) hL ?_
  refine lj_cV ck_L_83 (m_X7_law h.ac h.c6) sh_0 rfl (by decide) (by decide) rfl rfl (Nat.le_of_ble_eq_true rfl) dL_law_837 (fun r M1 hq => ?_)
  obtain ⟨v, rfl, hc⟩ := hq
  have h1 : J n cnt mc M M1 := h.eq eqA.rf (fa_law hc).x
  refine lj_aload_n (i := 2) dL_law_840 rfl rfl ?_
  refine lj_arg (kn := 1) (i := i) rfl dL_law_841 dL_law_842 dL_law_843 dL_law_844 dL_law_845 rfl rfl (by omega) hL ?_
  refine lj_arg (kn := 2) (i := i) rfl dL_law_846 dL_law_847 dL_law_848 dL_law_849 dL_law_850 rfl rfl (by omega) hL ?_
  refine lj_cV ck_L_86 (m_X8_law h1.bc h1.c6) sh_105 rfl (by decide) (by decide) rfl rfl (Nat.le_of_ble_eq_true rfl) dL_law_851 (fun r M2 hq => ?_)
  obtain ⟨w, rfl, hm⟩ := hq
  obtain ⟨e9, h2⟩ := st_law h1 hc hm
  refine lj_icmp_eq (tgt := 1543) dL_law_854 (by decide) (fun _ => ?_) (fun hne => absurd e9 hne)
  exact kk M2 (h2.fin (fb_law hm))
theorem lc_force (hL : L ≤ 3072) (hi : i + 6 ≤ L) (h : J n cnt mc M M) (kk : ∀ M2, Jx M2 M2 → LW l L xs 1543 (lwLs i) [] M2) : LW l L xs 859 (lwLs i) [] M := by
  refine lj_aload_n (i := 1) dL_law_859 rfl rfl ?_
  refine lj_arg (kn := 1) (i := i) rfl dL_law_860 dL_law_861 dL_law_862 dL_law_863 dL_law_864 rfl rfl (by omega) hL ?_
  refine lj_cV ck_L_87 (m_X7_force) sh_0 rfl (by decide) (by decide) rfl rfl (Nat.le_of_ble_eq_true rfl) dL_law_865 (fun r M1 hq => ?_)
  obtain ⟨v, rfl, hc⟩ := hq
  have h1 : J n cnt mc M M1 := h.eq eqA.rf (fa_force hc).x
  refine lj_aload_n (i := 2) dL_law_868 rfl rfl ?_
  refine lj_arg (kn := 1) (i := i) rfl dL_law_869 dL_law_870 dL_law_871 dL_law_872 dL_law_873 rfl rfl (by omega) hL ?_
  refine lj_cV ck_L_90 (m_X8_force) sh_105 rfl (by decide) (by decide) rfl rfl (Nat.le_of_ble_eq_true rfl) dL_law_874 (fun r M2 hq => ?_)
  obtain ⟨w, rfl, hm⟩ := hq
  obtain ⟨e9, h2⟩ := st_force h1 hc hm
  refine lj_icmp_eq (tgt := 1543) dL_law_877 (by decide) (fun _ => ?_) (fun hne => absurd e9 hne)
  exact kk M2 (h2.fin (fb_force hm))
theorem lc_seed (hL : L ≤ 3072) (hi : i + 6 ≤ L) (h : J n cnt mc M M) (kk : ∀ M2, Jx M2 M2 → LW l L xs 1543 (lwLs i) [] M2) : LW l L xs 882 (lwLs i) [] M := by
  refine lj_aload_n (i := 1) dL_law_882 rfl rfl ?_
  refine lj_arg (kn := 1) (i := i) rfl dL_law_883 dL_law_884 dL_law_885 dL_law_886 dL_law_887 rfl rfl (by omega) hL ?_
  refine lj_cV ck_L_91 (m_X7_seed) sh_0 rfl (by decide) (by decide) rfl rfl (Nat.le_of_ble_eq_true rfl) dL_law_888 (fun r M1 hq => ?_)
  obtain ⟨v, rfl, hc⟩ := hq
  have h1 : J n cnt mc M M1 := h.eq eqA.rf (fa_seed hc).x
  refine lj_aload_n (i := 2) dL_law_891 rfl rfl ?_
  refine lj_arg (kn := 1) (i := i) rfl dL_law_892 dL_law_893 dL_law_894 dL_law_895 dL_law_896 rfl rfl (by omega) hL ?_
  refine lj_cV ck_L_94 (m_X8_seed) sh_105 rfl (by decide) (by decide) rfl rfl (Nat.le_of_ble_eq_true rfl) dL_law_897 (fun r M2 hq => ?_)
  obtain ⟨w, rfl, hm⟩ := hq
  obtain ⟨e9, h2⟩ := st_seed h1 hc hm
  refine lj_icmp_eq (tgt := 1543) dL_law_900 (by decide) (fun _ => ?_) (fun hne => absurd e9 hne)
  exact kk M2 (h2.fin (fb_seed hm))
theorem lc_tick (hL : L ≤ 3072) (hi : i + 6 ≤ L) (h : J n cnt mc M M) (kk : ∀ M2, Jx M2 M2 → LW l L xs 1543 (lwLs i) [] M2) : LW l L xs 905 (lwLs i) [] M := by
  refine lj_aload_n (i := 1) dL_law_905 rfl rfl ?_
  refine lj_arg (kn := 1) (i := i) rfl dL_law_906 dL_law_907 dL_law_908 dL_law_909 dL_law_910 rfl rfl (by omega) hL ?_
  refine lj_cV ck_L_95 (m_X7_tick h.hn h.n30 h.ac h.c6) sh_0 rfl (by decide) (by decide) rfl rfl (Nat.le_of_ble_eq_true rfl) dL_law_911 (fun r M1 hq => ?_)
  obtain ⟨v, rfl, hc⟩ := hq
  have h1 : J n cnt mc M M1 := h.eq eqA.rf (fa_tick h.hn hc).x
  refine lj_aload_n (i := 2) dL_law_914 rfl rfl ?_
  refine lj_arg (kn := 1) (i := i) rfl dL_law_915 dL_law_916 dL_law_917 dL_law_918 dL_law_919 rfl rfl (by omega) hL ?_
  refine lj_cV ck_L_98 (m_X8_tick_ h1.1.g h1.fo) sh_105 rfl (by decide) (by decide) rfl rfl (Nat.le_of_ble_eq_true rfl) dL_law_920 (fun r M2 hq => ?_)
  obtain ⟨w, rfl, hm⟩ := hq
  obtain ⟨e9, h2⟩ := st_tick h1 hc hm
  refine lj_icmp_eq (tgt := 1543) dL_law_923 (by decide) (fun _ => ?_) (fun hne => absurd e9 hne)
  exact kk M2 (h2.fin (fb_tick hm))
theorem lc_begin (hL : L ≤ 3072) (hi : i + 6 ≤ L) (h : J n cnt mc M M) (kk : ∀ M2, Jx M2 M2 → LW l L xs 1543 (lwLs i) [] M2) : LW l L xs 928 (lwLs i) [] M := by
  refine lj_aload_n (i := 1) dL_law_928 rfl rfl ?_
  refine lj_arg (kn := 1) (i := i) rfl dL_law_929 dL_law_930 dL_law_931 dL_law_932 dL_law_933 rfl rfl (by omega) hL ?_
  refine lj_cV ck_L_99 (m_X7_begin h.hn h.n30) sh_0 rfl (by decide) (by decide) rfl rfl (Nat.le_of_ble_eq_true rfl) dL_law_934 (fun r M1 hq => ?_)
  obtain ⟨v, rfl, hc⟩ := hq
  have h1 : J n cnt mc M M1 := h.eq eqA.rf (fa_begin hc).x
  refine lj_aload_n (i := 2) dL_law_937 rfl rfl ?_
  refine lj_arg (kn := 1) (i := i) rfl dL_law_938 dL_law_939 dL_law_940 dL_law_941 dL_law_942 rfl rfl (by omega) hL ?_
  refine lj_cV ck_L_102 (m_X8_begin h1.bn h1.n30) sh_105 rfl (by decide) (by decide) rfl rfl (Nat.le_of_ble_eq_true rfl) dL_law_943 (fun r M2 hq => ?_)
  obtain ⟨w, rfl, hm⟩ := hq
  obtain ⟨e9, h2⟩ := st_begin h1 hc hm
  refine lj_icmp_eq (tgt := 1543) dL_law_946 (by decide) (fun _ => ?_) (fun hne => absurd e9 hne)
  exact kk M2 (h2.fin (fb_begin hm))
theorem lc_hush (hL : L ≤ 3072) (hi : i + 6 ≤ L) (h : J n cnt mc M M) (kk : ∀ M2, Jx M2 M2 → LW l L xs 1543 (lwLs i) [] M2) : LW l L xs 951 (lwLs i) [] M := by
  refine lj_aload_n (i := 1) dL_law_951 rfl rfl ?_
  refine lj_cV ck_L_103 (m_X7_hush h.hn h.n30) sh_0 rfl (by decide) (by decide) rfl rfl (Nat.le_of_ble_eq_true rfl) dL_law_952 (fun r M1 hq => ?_)
  obtain ⟨v, rfl, hc⟩ := hq
  have h1 : J n cnt mc M M1 := h.eq eqA.rf (fa_hush hc).x
  refine lj_aload_n (i := 2) dL_law_955 rfl rfl ?_
  refine lj_cV ck_L_106 (m_X8_hush h1.bn h1.n30) sh_105 rfl (by decide) (by decide) rfl rfl (Nat.le_of_ble_eq_true rfl) dL_law_956 (fun r M2 hq => ?_)
  obtain ⟨rfl, rfl⟩ := hq
  obtain ⟨e9, h2⟩ := st_hush h1 hc ⟨rfl, rfl⟩
  exact lj_icmp_eq (tgt := 1543) dL_law_959 (by decide) (fun _ => kk _ (h2.fin fb_hush)) (fun hne => absurd e9 hne)
theorem lc_heard (hL : L ≤ 3072) (hi : i + 6 ≤ L) (h : J n cnt mc M M) (kk : ∀ M2, Jx M2 M2 → LW l L xs 1543 (lwLs i) [] M2) : LW l L xs 964 (lwLs i) [] M := by
  refine lj_aload_n (i := 1) dL_law_964 rfl rfl ?_
  refine lj_arg (kn := 1) (i := i) rfl dL_law_965 dL_law_966 dL_law_967 dL_law_968 dL_law_969 rfl rfl (by omega) hL ?_
  refine lj_cV ck_L_107 (m_X7_heard h.hn h.n30) sh_0 rfl (by decide) (by decide) rfl rfl (Nat.le_of_ble_eq_true rfl) dL_law_970 (fun r M1 hq => ?_)
  obtain ⟨v, rfl, hc⟩ := hq
  have h1 : J n cnt mc M M1 := h.eq eqA.rf (fa_heard hc).x
  refine lj_aload_n (i := 2) dL_law_973 rfl rfl ?_
  refine lj_arg (kn := 1) (i := i) rfl dL_law_974 dL_law_975 dL_law_976 dL_law_977 dL_law_978 rfl rfl (by omega) hL ?_
  refine lj_cV ck_L_110 (m_X8_heard h1.bn h1.n30 h1.1.g.2.2.1) sh_105 rfl (by decide) (by decide) rfl rfl (Nat.le_of_ble_eq_true rfl) dL_law_979 (fun r M2 hq => ?_)
  obtain ⟨w, rfl, hm⟩ := hq
  obtain ⟨e9, h2⟩ := st_heard h1 hc hm
  refine lj_icmp_eq (tgt := 1543) dL_law_982 (by decide) (fun _ => ?_) (fun hne => absurd e9 hne)
  exact kk M2 (h2.fin (fb_heard hm))
theorem lc_beside (hL : L ≤ 3072) (hi : i + 6 ≤ L) (h : J n cnt mc M M) (kk : ∀ M2, Jx M2 M2 → LW l L xs 1543 (lwLs i) [] M2) : LW l L xs 987 (lwLs i) [] M := by
  refine lj_aload_n (i := 1) dL_law_987 rfl rfl ?_
  refine lj_arg (kn := 1) (i := i) rfl dL_law_988 dL_law_989 dL_law_990 dL_law_991 dL_law_992 rfl rfl (by omega) hL ?_
  refine lj_cV ck_L_111 (m_X7_beside h.hn h.n30) sh_0 rfl (by decide) (by decide) rfl rfl (Nat.le_of_ble_eq_true rfl) dL_law_993 (fun r M1 hq => ?_)
  obtain ⟨v, rfl, hc⟩ := hq
  have h1 : J n cnt mc M M1 := h.eq eqA.rf (fa_beside hc).x
  refine lj_aload_n (i := 2) dL_law_996 rfl rfl ?_
  refine lj_arg (kn := 1) (i := i) rfl dL_law_997 dL_law_998 dL_law_999 dL_law_1000 dL_law_1001 rfl rfl (by omega) hL ?_
  refine lj_cV ck_L_114 (m_X8_beside h1.bn h1.n30) sh_105 rfl (by decide) (by decide) rfl rfl (Nat.le_of_ble_eq_true rfl) dL_law_1002 (fun r M2 hq => ?_)
  obtain ⟨w, rfl, hm⟩ := hq
  obtain ⟨e9, h2⟩ := st_beside h1 hc hm
  refine lj_icmp_eq (tgt := 1543) dL_law_1005 (by decide) (fun _ => ?_) (fun hne => absurd e9 hne)
  exact kk M2 (h2.fin (fb_beside hm))
theorem lc_many (hL : L ≤ 3072) (hi : i + 6 ≤ L) (h : J n cnt mc M M) (kk : ∀ M2, Jx M2 M2 → LW l L xs 1543 (lwLs i) [] M2) : LW l L xs 1010 (lwLs i) [] M := by
  refine lj_aload_n (i := 1) dL_law_1010 rfl rfl ?_
  refine lj_arg (kn := 1) (i := i) rfl dL_law_1011 dL_law_1012 dL_law_1013 dL_law_1014 dL_law_1015 rfl rfl (by omega) hL ?_
  refine lj_cV ck_L_115 (m_X7_many h.hn h.n30) sh_0 rfl (by decide) (by decide) rfl rfl (Nat.le_of_ble_eq_true rfl) dL_law_1016 (fun r M1 hq => ?_)
  obtain ⟨v, rfl, hc⟩ := hq
  have h1 : J n cnt mc M M1 := h.eq eqA.rf (fa_many hc).x
  refine lj_aload_n (i := 2) dL_law_1019 rfl rfl ?_
  refine lj_arg (kn := 1) (i := i) rfl dL_law_1020 dL_law_1021 dL_law_1022 dL_law_1023 dL_law_1024 rfl rfl (by omega) hL ?_
  refine lj_cV ck_L_118 (m_X8_many h1.bn h1.n30) sh_105 rfl (by decide) (by decide) rfl rfl (Nat.le_of_ble_eq_true rfl) dL_law_1025 (fun r M2 hq => ?_)
  obtain ⟨w, rfl, hm⟩ := hq
  obtain ⟨e9, h2⟩ := st_many h1 hc hm
  refine lj_icmp_eq (tgt := 1543) dL_law_1028 (by decide) (fun _ => ?_) (fun hne => absurd e9 hne)
  exact kk M2 (h2.fin (fb_many hm))
theorem lc_hits (hL : L ≤ 3072) (hi : i + 6 ≤ L) (h : J n cnt mc M M) (kk : ∀ M2, Jx M2 M2 → LW l L xs 1543 (lwLs i) [] M2) : LW l L xs 1033 (lwLs i) [] M := by
  refine lj_aload_n (i := 1) dL_law_1033 rfl rfl ?_
  refine lj_cV ck_L_119 (m_X7_hits) sh_0 rfl (by decide) (by decide) rfl rfl (Nat.le_of_ble_eq_true rfl) dL_law_1034 (fun r M1 hq => ?_)
  obtain ⟨rfl, rfl⟩ := hq
  refine lj_aload_n (i := 2) dL_law_1037 rfl rfl ?_
  refine lj_cV ck_L_122 (m_X8_hits) sh_105 rfl (by decide) (by decide) rfl rfl (Nat.le_of_ble_eq_true rfl) dL_law_1038 (fun r M2 hq => ?_)
  obtain ⟨rfl, rfl⟩ := hq
  exact lj_icmp_eq (tgt := 1543) dL_law_1041 (by decide) (fun _ => kk _ h.x) (fun hne => absurd h.1.2.2.2.2.2.2.1 hne)
theorem lc_step (hL : L ≤ 3072) (hi : i + 6 ≤ L) (h : J n cnt mc M M) (kk : ∀ M2, Jx M2 M2 → LW l L xs 1543 (lwLs i) [] M2) : LW l L xs 1046 (lwLs i) [] M := by
  refine lj_aload_n (i := 1) dL_law_1046 rfl rfl ?_
  refine lj_cV ck_L_123 (m_X7_step) sh_0 rfl (by decide) (by decide) rfl rfl (Nat.le_of_ble_eq_true rfl) dL_law_1047 (fun r M1 hq => ?_)
  obtain ⟨rfl, rfl⟩ := hq
  refine lj_aload_n (i := 2) dL_law_1050 rfl rfl ?_
  refine lj_cV ck_L_126 (m_X8_step) sh_105 rfl (by decide) (by decide) rfl rfl (Nat.le_of_ble_eq_true rfl) dL_law_1051 (fun r M2 hq => ?_)
  obtain ⟨rfl, rfl⟩ := hq
  exact lj_icmp_eq (tgt := 1543) dL_law_1054 (by decide) (fun _ => kk _ h.x) (fun hne => absurd (st_step h) hne)
theorem lc_length (hL : L ≤ 3072) (hi : i + 6 ≤ L) (h : J n cnt mc M M) (kk : ∀ M2, Jx M2 M2 → LW l L xs 1543 (lwLs i) [] M2) : LW l L xs 1059 (lwLs i) [] M := by
  refine lj_aload_n (i := 1) dL_law_1059 rfl rfl ?_
  refine lj_arg (kn := 1) (i := i) rfl dL_law_1060 dL_law_1061 dL_law_1062 dL_law_1063 dL_law_1064 rfl rfl (by omega) hL ?_
  refine lj_arg (kn := 2) (i := i) rfl dL_law_1065 dL_law_1066 dL_law_1067 dL_law_1068 dL_law_1069 rfl rfl (by omega) hL ?_
  refine lj_cV ck_L_127 (m_X7_length h.hn h.n30 h.ac h.c6) sh_0 rfl (by decide) (by decide) rfl rfl (Nat.le_of_ble_eq_true rfl) dL_law_1070 (fun r M1 hq => ?_)
  obtain ⟨v, rfl, hc⟩ := hq
  have h1 : J n cnt mc M M1 := h.eq eqA.rf (fa_length h.hn hc).x
  refine lj_aload_n (i := 2) dL_law_1073 rfl rfl ?_
  refine lj_arg (kn := 1) (i := i) rfl dL_law_1074 dL_law_1075 dL_law_1076 dL_law_1077 dL_law_1078 rfl rfl (by omega) hL ?_
  refine lj_arg (kn := 2) (i := i) rfl dL_law_1079 dL_law_1080 dL_law_1081 dL_law_1082 dL_law_1083 rfl rfl (by omega) hL ?_
  refine lj_cV ck_L_130 (m_X8_length h1.1.g h1.bc h1.c6) sh_105 rfl (by decide) (by decide) rfl rfl (Nat.le_of_ble_eq_true rfl) dL_law_1084 (fun r M2 hq => ?_)
  obtain ⟨w, rfl, hm⟩ := hq
  obtain ⟨e9, h2⟩ := st_length h1 hc hm
  refine lj_icmp_eq (tgt := 1543) dL_law_1087 (by decide) (fun _ => ?_) (fun hne => absurd e9 hne)
  exact kk M2 (h2.fin (fb_length hm))
theorem lc_joined (hL : L ≤ 3072) (hi : i + 6 ≤ L) (h : J n cnt mc M M) (kk : ∀ M2, Jx M2 M2 → LW l L xs 1543 (lwLs i) [] M2) : LW l L xs 1092 (lwLs i) [] M := by
  refine lj_aload_n (i := 1) dL_law_1092 rfl rfl ?_
  refine lj_arg (kn := 1) (i := i) rfl dL_law_1093 dL_law_1094 dL_law_1095 dL_law_1096 dL_law_1097 rfl rfl (by omega) hL ?_
  refine lj_arg (kn := 2) (i := i) rfl dL_law_1098 dL_law_1099 dL_law_1100 dL_law_1101 dL_law_1102 rfl rfl (by omega) hL ?_
  refine lj_cV ck_L_131 (m_X7_joined h.hn h.n30 h.ac h.c6) sh_0 rfl (by decide) (by decide) rfl rfl (Nat.le_of_ble_eq_true rfl) dL_law_1103 (fun r M1 hq => ?_)
  obtain ⟨v, rfl, hc⟩ := hq
  have h1 : J n cnt mc M M1 := h.eq eqA.rf (fa_joined h.hn hc).x
  refine lj_aload_n (i := 2) dL_law_1106 rfl rfl ?_
  refine lj_arg (kn := 1) (i := i) rfl dL_law_1107 dL_law_1108 dL_law_1109 dL_law_1110 dL_law_1111 rfl rfl (by omega) hL ?_
  refine lj_arg (kn := 2) (i := i) rfl dL_law_1112 dL_law_1113 dL_law_1114 dL_law_1115 dL_law_1116 rfl rfl (by omega) hL ?_
  refine lj_cV ck_L_134 (m_X8_joined h1.1.g h1.bc h1.c6) sh_105 rfl (by decide) (by decide) rfl rfl (Nat.le_of_ble_eq_true rfl) dL_law_1117 (fun r M2 hq => ?_)
  obtain ⟨w, rfl, hm⟩ := hq
  obtain ⟨e9, h2⟩ := st_joined h1 hc hm
  refine lj_icmp_eq (tgt := 1543) dL_law_1120 (by decide) (fun _ => ?_) (fun hne => absurd e9 hne)
  exact kk M2 (h2.fin (fb_joined hm))
theorem lc_tally (hL : L ≤ 3072) (hi : i + 6 ≤ L) (h : J n cnt mc M M) (kk : ∀ M2, Jx M2 M2 → LW l L xs 1543 (lwLs i) [] M2) : LW l L xs 1125 (lwLs i) [] M := by
  refine lj_aload_n (i := 1) dL_law_1125 rfl rfl ?_
  refine lj_arg (kn := 1) (i := i) rfl dL_law_1126 dL_law_1127 dL_law_1128 dL_law_1129 dL_law_1130 rfl rfl (by omega) hL ?_
  refine lj_arg (kn := 2) (i := i) rfl dL_law_1131 dL_law_1132 dL_law_1133 dL_law_1134 dL_law_1135 rfl rfl (by omega) hL ?_
  refine lj_arg (kn := 3) (i := i) rfl dL_law_1136 dL_law_1137 dL_law_1138 dL_law_1139 dL_law_1140 rfl rfl (by omega) hL ?_
  refine lj_cV ck_L_135 (m_X7_tally h.hn h.n30 h.ac h.c6) sh_0 rfl (by decide) (by decide) rfl rfl (Nat.le_of_ble_eq_true rfl) dL_law_1141 (fun r M1 hq => ?_)
  obtain ⟨v, rfl, hc⟩ := hq
  have h1 : J n cnt mc M M1 := h.eq eqA.rf (fa_tally h.hn hc).x
  refine lj_aload_n (i := 2) dL_law_1144 rfl rfl ?_
  refine lj_arg (kn := 1) (i := i) rfl dL_law_1145 dL_law_1146 dL_law_1147 dL_law_1148 dL_law_1149 rfl rfl (by omega) hL ?_
  refine lj_arg (kn := 2) (i := i) rfl dL_law_1150 dL_law_1151 dL_law_1152 dL_law_1153 dL_law_1154 rfl rfl (by omega) hL ?_
  refine lj_arg (kn := 3) (i := i) rfl dL_law_1155 dL_law_1156 dL_law_1157 dL_law_1158 dL_law_1159 rfl rfl (by omega) hL ?_
  refine lj_cV ck_L_138 (m_X8_tally h1.1.g h1.bc h1.c6) sh_105 rfl (by decide) (by decide) rfl rfl (Nat.le_of_ble_eq_true rfl) dL_law_1160 (fun r M2 hq => ?_)
  obtain ⟨w, rfl, hm⟩ := hq
  obtain ⟨e9, h2⟩ := st_tally h1 hc hm
  refine lj_icmp_eq (tgt := 1543) dL_law_1163 (by decide) (fun _ => ?_) (fun hne => absurd e9 hne)
  exact kk M2 (h2.fin (fb_tally hm))
theorem lc_grows (hL : L ≤ 3072) (hi : i + 6 ≤ L) (h : J n cnt mc M M) (kk : ∀ M2, Jx M2 M2 → LW l L xs 1543 (lwLs i) [] M2) : LW l L xs 1168 (lwLs i) [] M := by
  refine lj_aload_n (i := 1) dL_law_1168 rfl rfl ?_
  refine lj_arg (kn := 1) (i := i) rfl dL_law_1169 dL_law_1170 dL_law_1171 dL_law_1172 dL_law_1173 rfl rfl (by omega) hL ?_
  refine lj_cV ck_L_139 (m_X7_grows h.hn h.n30 h.ac h.c6) sh_0 rfl (by decide) (by decide) rfl rfl (Nat.le_of_ble_eq_true rfl) dL_law_1174 (fun r M1 hq => ?_)
  obtain ⟨v, rfl, hc⟩ := hq
  have h1 : J n cnt mc M M1 := h.eq eqA.rf (fa_grows h.hn hc).x
  refine lj_aload_n (i := 2) dL_law_1177 rfl rfl ?_
  refine lj_arg (kn := 1) (i := i) rfl dL_law_1178 dL_law_1179 dL_law_1180 dL_law_1181 dL_law_1182 rfl rfl (by omega) hL ?_
  refine lj_cV ck_L_142 (m_X8_grows h1.1.g h1.fo) sh_105 rfl (by decide) (by decide) rfl rfl (Nat.le_of_ble_eq_true rfl) dL_law_1183 (fun r M2 hq => ?_)
  obtain ⟨w, rfl, hm⟩ := hq
  obtain ⟨e9, h2⟩ := st_grows h1 hc hm
  refine lj_icmp_eq (tgt := 1543) dL_law_1186 (by decide) (fun _ => ?_) (fun hne => absurd e9 hne)
  exact kk M2 (h2.fin (fb_grows h1.e36 hm))
theorem lc_few (hL : L ≤ 3072) (hi : i + 6 ≤ L) (h : J n cnt mc M M) (kk : ∀ M2, Jx M2 M2 → LW l L xs 1543 (lwLs i) [] M2) : LW l L xs 1191 (lwLs i) [] M := by
  refine lj_aload_n (i := 1) dL_law_1191 rfl rfl ?_
  refine lj_arg (kn := 1) (i := i) rfl dL_law_1192 dL_law_1193 dL_law_1194 dL_law_1195 dL_law_1196 rfl rfl (by omega) hL ?_
  refine lj_cV ck_L_143 (m_X7_few (E := cE n M M (xs (i + 1))) h.hn h.n30 h.ac h.c6 (fun a b X v X' hX hY => h.fec hX hY)) sh_0 rfl (by decide) (by decide) rfl rfl (Nat.le_of_ble_eq_true rfl) dL_law_1197 (fun r M1 hq => ?_)
  obtain ⟨v, rfl, hc⟩ := hq
  have h1 : J n cnt mc M M1 := h.eq eqA.rf (fa_few hc).x
  refine lj_aload_n (i := 2) dL_law_1200 rfl rfl ?_
  refine lj_arg (kn := 1) (i := i) rfl dL_law_1201 dL_law_1202 dL_law_1203 dL_law_1204 dL_law_1205 rfl rfl (by omega) hL ?_
  refine lj_cV ck_L_146 (m_X8_few (E := aE n M1) h1.1.g h1.fo (fun a b X v X' _ _ hX hY => h1.fem hX hY)) sh_105 rfl (by decide) (by decide) rfl rfl (Nat.le_of_ble_eq_true rfl) dL_law_1206 (fun r M2 hq => ?_)
  obtain ⟨w, rfl, hm⟩ := hq
  obtain ⟨e9, h2⟩ := st_few h1 (h1.few h).1 (h1.few h).2.1 (h1.few h).2.2 hc hm
  refine lj_icmp_eq (tgt := 1543) dL_law_1209 (by decide) (fun _ => ?_) (fun hne => absurd e9 hne)
  exact kk M2 (h2.fin (fb_few hm))
theorem lc_front (hL : L ≤ 3072) (hi : i + 6 ≤ L) (h : J n cnt mc M M) (kk : ∀ M2, Jx M2 M2 → LW l L xs 1543 (lwLs i) [] M2) : LW l L xs 1214 (lwLs i) [] M := by
  refine lj_aload_n (i := 1) dL_law_1214 rfl rfl ?_
  refine lj_arg (kn := 1) (i := i) rfl dL_law_1215 dL_law_1216 dL_law_1217 dL_law_1218 dL_law_1219 rfl rfl (by omega) hL ?_
  refine lj_cV ck_L_147 (m_X7_front h.hn h.n30 h.ac h.c6) sh_0 rfl (by decide) (by decide) rfl rfl (Nat.le_of_ble_eq_true rfl) dL_law_1220 (fun r M1 hq => ?_)
  obtain ⟨v, rfl, hc⟩ := hq
  have h1 : J n cnt mc M M1 := h.eq eqA.rf (fa_front h.hn hc).x
  refine lj_aload_n (i := 2) dL_law_1223 rfl rfl ?_
  refine lj_arg (kn := 1) (i := i) rfl dL_law_1224 dL_law_1225 dL_law_1226 dL_law_1227 dL_law_1228 rfl rfl (by omega) hL ?_
  refine lj_cV ck_L_150 (m_X8_front h1.1.g h1.bc h1.c6) sh_105 rfl (by decide) (by decide) rfl rfl (Nat.le_of_ble_eq_true rfl) dL_law_1229 (fun r M2 hq => ?_)
  obtain ⟨w, rfl, hm⟩ := hq
  obtain ⟨e9, h2⟩ := st_front h1 hc hm
  refine lj_icmp_eq (tgt := 1543) dL_law_1232 (by decide) (fun _ => ?_) (fun hne => absurd e9 hne)
  exact kk M2 (h2.fin (fb_front hm))
theorem lc_micro (hL : L ≤ 3072) (hi : i + 6 ≤ L) (h : J n cnt mc M M) (kk : ∀ M2, Jx M2 M2 → LW l L xs 1543 (lwLs i) [] M2) : LW l L xs 1237 (lwLs i) [] M := by
  refine lj_aload_n (i := 1) dL_law_1237 rfl rfl ?_
  refine lj_arg (kn := 1) (i := i) rfl dL_law_1238 dL_law_1239 dL_law_1240 dL_law_1241 dL_law_1242 rfl rfl (by omega) hL ?_
  refine lj_cV ck_L_151 (m_X7_micro h.2.2.1.1 h.2.2.1.2.2.1) sh_0 rfl (by decide) (by decide) rfl rfl (Nat.le_of_ble_eq_true rfl) dL_law_1243 (fun r M1 hq => ?_)
  obtain ⟨v, rfl, hc⟩ := hq
  have h1 : J n cnt mc M M1 := h.eq eqA.rf (fa_micro hc).x
  refine lj_aload_n (i := 2) dL_law_1246 rfl rfl ?_
  refine lj_arg (kn := 1) (i := i) rfl dL_law_1247 dL_law_1248 dL_law_1249 dL_law_1250 dL_law_1251 rfl rfl (by omega) hL ?_
  refine lj_cV ck_L_154 (m_X8_micro h1.2.2.1.2.1 h1.2.2.1.2.2.1) sh_105 rfl (by decide) (by decide) rfl rfl (Nat.le_of_ble_eq_true rfl) dL_law_1252 (fun r M2 hq => ?_)
  obtain ⟨w, rfl, hm⟩ := hq
  obtain ⟨e9, h2⟩ := st_micro h1 hc hm
  refine lj_icmp_eq (tgt := 1543) dL_law_1255 (by decide) (fun _ => ?_) (fun hne => absurd e9 hne)
  exact kk M2 (h2.fin (fb_micro hm))
theorem lc_sum (hL : L ≤ 3072) (hi : i + 6 ≤ L) (h : J n cnt mc M M) (kk : ∀ M2, Jx M2 M2 → LW l L xs 1543 (lwLs i) [] M2) : LW l L xs 1260 (lwLs i) [] M := by
  refine lj_aload_n (i := 1) dL_law_1260 rfl rfl ?_
  refine lj_arg (kn := 1) (i := i) rfl dL_law_1261 dL_law_1262 dL_law_1263 dL_law_1264 dL_law_1265 rfl rfl (by omega) hL ?_
  refine lj_cV ck_L_155 (m_X7_sum h.hn h.n30 h.2.2.1.1 h.2.2.1.2.2.1) sh_0 rfl (by decide) (by decide) rfl rfl (Nat.le_of_ble_eq_true rfl) dL_law_1266 (fun r M1 hq => ?_)
  obtain ⟨v, rfl, hc⟩ := hq
  have h1 : J n cnt mc M M1 := h.eq eqA.rf (fa_sum hc).x
  refine lj_aload_n (i := 2) dL_law_1269 rfl rfl ?_
  refine lj_arg (kn := 1) (i := i) rfl dL_law_1270 dL_law_1271 dL_law_1272 dL_law_1273 dL_law_1274 rfl rfl (by omega) hL ?_
  refine lj_cV ck_L_158 (m_X8_sum h1.bn h1.n30 h1.1.g.2.2.1 h1.2.2.1.2.1 h1.2.2.1.2.2.1 (fun q hq => (h1.2.2.1.2.2.2 q hq).2)) sh_105 rfl (by decide) (by decide) rfl rfl (Nat.le_of_ble_eq_true rfl) dL_law_1275 (fun r M2 hq => ?_)
  obtain ⟨w, rfl, hm⟩ := hq
  obtain ⟨e9, h2⟩ := st_sum h1 hc hm
  refine lj_icmp_eq (tgt := 1543) dL_law_1278 (by decide) (fun _ => ?_) (fun hne => absurd e9 hne)
  exact kk M2 (h2.fin (fb_sum hm))
theorem lc_gloved (hL : L ≤ 3072) (hi : i + 6 ≤ L) (h : J n cnt mc M M) (kk : ∀ M2, Jx M2 M2 → LW l L xs 1543 (lwLs i) [] M2) : LW l L xs 1283 (lwLs i) [] M := by
  refine lj_aload_n (i := 1) dL_law_1283 rfl rfl ?_
  refine lj_arg (kn := 1) (i := i) rfl dL_law_1284 dL_law_1285 dL_law_1286 dL_law_1287 dL_law_1288 rfl rfl (by omega) hL ?_
  refine lj_cV ck_L_159 (m_X7_gloved h.hn h.n30 h.2.2.1.1 h.2.2.1.2.2.1) sh_0 rfl (by decide) (by decide) rfl rfl (Nat.le_of_ble_eq_true rfl) dL_law_1289 (fun r M1 hq => ?_)
  obtain ⟨v, rfl, hc⟩ := hq
  have h1 : J n cnt mc M M1 := h.eq eqA.rf (fa_gloved hc).x
  refine lj_aload_n (i := 2) dL_law_1292 rfl rfl ?_
  refine lj_arg (kn := 1) (i := i) rfl dL_law_1293 dL_law_1294 dL_law_1295 dL_law_1296 dL_law_1297 rfl rfl (by omega) hL ?_
  refine lj_cV ck_L_162 (m_X8_gloved h1.bn h1.n30 h1.1.g.2.2.1 h1.2.2.1.2.1 h1.2.2.1.2.2.1 (fun q hq => (h1.2.2.1.2.2.2 q hq).2)) sh_105 rfl (by decide) (by decide) rfl rfl (Nat.le_of_ble_eq_true rfl) dL_law_1298 (fun r M2 hq => ?_)
  obtain ⟨w, rfl, hm⟩ := hq
  obtain ⟨e9, h2⟩ := st_gloved h1 hc hm
  refine lj_icmp_eq (tgt := 1543) dL_law_1301 (by decide) (fun _ => ?_) (fun hne => absurd e9 hne)
  exact kk M2 (h2.fin (fb_gloved hm))
theorem lc_fit (hL : L ≤ 3072) (hi : i + 6 ≤ L) (h : J n cnt mc M M) (kk : ∀ M2, Jx M2 M2 → LW l L xs 1543 (lwLs i) [] M2) : LW l L xs 1306 (lwLs i) [] M := by
  refine lj_aload_n (i := 1) dL_law_1306 rfl rfl ?_
  refine lj_arg (kn := 1) (i := i) rfl dL_law_1307 dL_law_1308 dL_law_1309 dL_law_1310 dL_law_1311 rfl rfl (by omega) hL ?_
  refine lj_arg (kn := 2) (i := i) rfl dL_law_1312 dL_law_1313 dL_law_1314 dL_law_1315 dL_law_1316 rfl rfl (by omega) hL ?_
  refine lj_cV ck_L_163 (m_X7_fit (T := TC n (xs (i + 2)).toNatClampNeg (xs (i + 1)) M) h.sz h.hn h.n30 h.ac h.c6 (fun l7 X Y hl hX hY => h.tc hl hX hY)) sh_0 rfl (by decide) (by decide) rfl rfl (Nat.le_of_ble_eq_true rfl) dL_law_1317 (fun r M1 hq => ?_)
  obtain ⟨v, rfl, hc⟩ := hq
  have h1 : J n cnt mc M M1 := h.eq eqA.rf (fa_fit hc).x
  refine lj_aload_n (i := 2) dL_law_1320 rfl rfl ?_
  refine lj_arg (kn := 1) (i := i) rfl dL_law_1321 dL_law_1322 dL_law_1323 dL_law_1324 dL_law_1325 rfl rfl (by omega) hL ?_
  refine lj_arg (kn := 2) (i := i) rfl dL_law_1326 dL_law_1327 dL_law_1328 dL_law_1329 dL_law_1330 rfl rfl (by omega) hL ?_
  refine lj_cV ck_L_166 (m_X8_fit (T := TM n (xs (i + 2)).toNatClampNeg (xs (i + 1)).toNatClampNeg M1) h1.sz8 h1.1.g h1.bc h1.c6 (fun l7 X X' hl hX hY => h1.tm hl hX hY)) sh_105 rfl (by decide) (by decide) rfl rfl (Nat.le_of_ble_eq_true rfl) dL_law_1331 (fun r M2 hq => ?_)
  obtain ⟨w, rfl, hm⟩ := hq
  obtain ⟨e9, h2⟩ := st_fit h1 (fun l7 hl c1 c2 c3 => h1.TT h hl c1 c2 c3) hc hm
  refine lj_icmp_eq (tgt := 1543) dL_law_1334 (by decide) (fun _ => ?_) (fun hne => absurd e9 hne)
  exact kk M2 (h2.fin (fb_fit hm))
theorem lc_part (hL : L ≤ 3072) (hi : i + 6 ≤ L) (h : J n cnt mc M M) (kk : ∀ M2, Jx M2 M2 → LW l L xs 1543 (lwLs i) [] M2) : LW l L xs 1339 (lwLs i) [] M := by
  refine lj_aload_n (i := 1) dL_law_1339 rfl rfl ?_
  refine lj_arg (kn := 1) (i := i) rfl dL_law_1340 dL_law_1341 dL_law_1342 dL_law_1343 dL_law_1344 rfl rfl (by omega) hL ?_
  refine lj_arg (kn := 2) (i := i) rfl dL_law_1345 dL_law_1346 dL_law_1347 dL_law_1348 dL_law_1349 rfl rfl (by omega) hL ?_
  refine lj_arg (kn := 3) (i := i) rfl dL_law_1350 dL_law_1351 dL_law_1352 dL_law_1353 dL_law_1354 rfl rfl (by omega) hL ?_
  refine lj_cV ck_L_167 (m_X7_part h.hn h.n30 h.ac h.c6) sh_0 rfl (by decide) (by decide) rfl rfl (Nat.le_of_ble_eq_true rfl) dL_law_1355 (fun r M1 hq => ?_)
  obtain ⟨v, rfl, hc⟩ := hq
  have h1 : J n cnt mc M M1 := h.eq eqA.rf (fa_part h.hn hc).x
  refine lj_aload_n (i := 2) dL_law_1358 rfl rfl ?_
  refine lj_arg (kn := 1) (i := i) rfl dL_law_1359 dL_law_1360 dL_law_1361 dL_law_1362 dL_law_1363 rfl rfl (by omega) hL ?_
  refine lj_arg (kn := 2) (i := i) rfl dL_law_1364 dL_law_1365 dL_law_1366 dL_law_1367 dL_law_1368 rfl rfl (by omega) hL ?_
  refine lj_arg (kn := 3) (i := i) rfl dL_law_1369 dL_law_1370 dL_law_1371 dL_law_1372 dL_law_1373 rfl rfl (by omega) hL ?_
  refine lj_cV ck_L_170 (m_X8_part h1.1.g h1.bc h1.c6) sh_105 rfl (by decide) (by decide) rfl rfl (Nat.le_of_ble_eq_true rfl) dL_law_1374 (fun r M2 hq => ?_)
  obtain ⟨w, rfl, hm⟩ := hq
  obtain ⟨e9, h2⟩ := st_part h1 hc hm
  refine lj_icmp_eq (tgt := 1543) dL_law_1377 (by decide) (fun _ => ?_) (fun hne => absurd e9 hne)
  exact kk M2 (h2.fin (fb_part hm))
theorem lc_spread (hL : L ≤ 3072) (hi : i + 6 ≤ L) (h : J n cnt mc M M) (kk : ∀ M2, Jx M2 M2 → LW l L xs 1543 (lwLs i) [] M2) : LW l L xs 1382 (lwLs i) [] M := by
  refine lj_aload_n (i := 1) dL_law_1382 rfl rfl ?_
  refine lj_arg (kn := 1) (i := i) rfl dL_law_1383 dL_law_1384 dL_law_1385 dL_law_1386 dL_law_1387 rfl rfl (by omega) hL ?_
  refine lj_cV ck_L_171 (m_X7_spread (ln := lnM n M) h.hn h.n30 h.ac h.c6 (fun i X Y hX hY => h.lnc hX hY)) sh_0 rfl (by decide) (by decide) rfl rfl (Nat.le_of_ble_eq_true rfl) dL_law_1388 (fun r M1 hq => ?_)
  obtain ⟨v, rfl, hc⟩ := hq
  have h1 : J n cnt mc M M1 := h.eq eqA.rf (fa_spread hc).x
  refine lj_aload_n (i := 2) dL_law_1391 rfl rfl ?_
  refine lj_arg (kn := 1) (i := i) rfl dL_law_1392 dL_law_1393 dL_law_1394 dL_law_1395 dL_law_1396 rfl rfl (by omega) hL ?_
  refine lj_cV ck_L_174 (m_X8_spread (ln := lnM n M1) h1.1.g h1.fo (fun i X X' hX hY => h1.lnm hX hY)) sh_105 rfl (by decide) (by decide) rfl rfl (Nat.le_of_ble_eq_true rfl) dL_law_1397 (fun r M2 hq => ?_)
  obtain ⟨w, rfl, hm⟩ := hq
  obtain ⟨e9, h2⟩ := st_spread h1 (fun i => h.ln2 h1 i) (fun i => len_in _ _) hc hm
  refine lj_icmp_eq (tgt := 1543) dL_law_1400 (by decide) (fun _ => ?_) (fun hne => absurd e9 hne)
  exact kk M2 (h2.fin (fb_spread hm))
theorem lc_judge (hL : L ≤ 3072) (hi : i + 6 ≤ L) (h : J n cnt mc M M) (kk : ∀ M2, Jx M2 M2 → LW l L xs 1543 (lwLs i) [] M2) : LW l L xs 1405 (lwLs i) [] M := by
  refine lj_aload_n (i := 1) dL_law_1405 rfl rfl ?_
  refine lj_arg (kn := 1) (i := i) rfl dL_law_1406 dL_law_1407 dL_law_1408 dL_law_1409 dL_law_1410 rfl rfl (by omega) hL ?_
  refine lj_cV ck_L_175 (m_X7_judge h.sz h.hn h.n30 h.2.2.1.1 h.2.2.1.2.2.1) sh_0 rfl (by decide) (by decide) rfl rfl (Nat.le_of_ble_eq_true rfl) dL_law_1411 (fun r M1 hq => ?_)
  obtain ⟨v, rfl, hc⟩ := hq
  have h1 : J n cnt mc M M1 := h.eq eqA.rf (fa_judge hc).x
  refine lj_aload_n (i := 2) dL_law_1414 rfl rfl ?_
  refine lj_arg (kn := 1) (i := i) rfl dL_law_1415 dL_law_1416 dL_law_1417 dL_law_1418 dL_law_1419 rfl rfl (by omega) hL ?_
  refine lj_cV ck_L_178 (m_X8_judge h1.bn h1.n30 h1.1.g.2.2.1 h1.2.2.1.2.1 h1.2.2.1.2.2.1 (fun q hq => (h1.2.2.1.2.2.2 q hq).2)) sh_105 rfl (by decide) (by decide) rfl rfl (Nat.le_of_ble_eq_true rfl) dL_law_1420 (fun r M2 hq => ?_)
  obtain ⟨w, rfl, hm⟩ := hq
  obtain ⟨e9, h2⟩ := st_judge h1 hc hm
  refine lj_icmp_eq (tgt := 1543) dL_law_1423 (by decide) (fun _ => ?_) (fun hne => absurd e9 hne)
  exact kk M2 (h2.fin (fb_judge hm))
theorem lc_act (hL : L ≤ 3072) (hi : i + 6 ≤ L) (h : J n cnt mc M M) (kk : ∀ M2, Jx M2 M2 → LW l L xs 1543 (lwLs i) [] M2) : LW l L xs 1428 (lwLs i) [] M := by
  refine lj_aload_n (i := 1) dL_law_1428 rfl rfl ?_
  refine lj_arg (kn := 1) (i := i) rfl dL_law_1429 dL_law_1430 dL_law_1431 dL_law_1432 dL_law_1433 rfl rfl (by omega) hL ?_
  refine lj_arg (kn := 2) (i := i) rfl dL_law_1434 dL_law_1435 dL_law_1436 dL_law_1437 dL_law_1438 rfl rfl (by omega) hL ?_
  refine lj_arg (kn := 3) (i := i) rfl dL_law_1439 dL_law_1440 dL_law_1441 dL_law_1442 dL_law_1443 rfl rfl (by omega) hL ?_
  refine lj_cV ck_L_179 (m_X7_act h.hn h.n30 (fun p hp => by rw [show M.1 16 p = M.1 107 p from h.1.row (t := 0) (by omega) hp]; exact h.1.g.2.2.2.1 p hp)) sh_0 rfl (by decide) (by decide) rfl rfl (Nat.le_of_ble_eq_true rfl) dL_law_1444 (fun r M1 hq => ?_)
  obtain ⟨v, rfl, hc⟩ := hq
  have h1 : J n cnt mc M M1 := h.eq eqA.rf (fa_act hc).x
  refine lj_aload_n (i := 2) dL_law_1447 rfl rfl ?_
  refine lj_arg (kn := 1) (i := i) rfl dL_law_1448 dL_law_1449 dL_law_1450 dL_law_1451 dL_law_1452 rfl rfl (by omega) hL ?_
  refine lj_arg (kn := 2) (i := i) rfl dL_law_1453 dL_law_1454 dL_law_1455 dL_law_1456 dL_law_1457 rfl rfl (by omega) hL ?_
  refine lj_arg (kn := 3) (i := i) rfl dL_law_1458 dL_law_1459 dL_law_1460 dL_law_1461 dL_law_1462 rfl rfl (by omega) hL ?_
  refine lj_cV ck_L_182 (m_X8_act h1.1.g) sh_105 rfl (by decide) (by decide) rfl rfl (Nat.le_of_ble_eq_true rfl) dL_law_1463 (fun r M2 hq => ?_)
  obtain ⟨w, rfl, hm⟩ := hq
  obtain ⟨e9, h2⟩ := st_act h1 hc hm
  refine lj_icmp_eq (tgt := 1543) dL_law_1466 (by decide) (fun _ => ?_) (fun hne => absurd e9 hne)
  exact kk M2 (h2.fin (fb_act hm))
theorem lc_trace (hL : L ≤ 3072) (hi : i + 6 ≤ L) (h : J n cnt mc M M) (kk : ∀ M2, Jx M2 M2 → LW l L xs 1543 (lwLs i) [] M2) : LW l L xs 1471 (lwLs i) [] M := by
  refine lj_aload_n (i := 1) dL_law_1471 rfl rfl ?_
  refine lj_arg (kn := 1) (i := i) rfl dL_law_1472 dL_law_1473 dL_law_1474 dL_law_1475 dL_law_1476 rfl rfl (by omega) hL ?_
  refine lj_cV ck_L_183 (m_X7_trace) sh_0 rfl (by decide) (by decide) rfl rfl (Nat.le_of_ble_eq_true rfl) dL_law_1477 (fun r M1 hq => ?_)
  obtain ⟨v, rfl, hc⟩ := hq
  have h1 : J n cnt mc M M1 := h.eq eqA.rf (fa_trace hc).x
  refine lj_aload_n (i := 2) dL_law_1480 rfl rfl ?_
  refine lj_arg (kn := 1) (i := i) rfl dL_law_1481 dL_law_1482 dL_law_1483 dL_law_1484 dL_law_1485 rfl rfl (by omega) hL ?_
  refine lj_cV ck_L_186 (m_X8_trace) sh_105 rfl (by decide) (by decide) rfl rfl (Nat.le_of_ble_eq_true rfl) dL_law_1486 (fun r M2 hq => ?_)
  obtain ⟨w, rfl, hm⟩ := hq
  obtain ⟨e9, h2⟩ := st_trace h1 hc hm
  refine lj_icmp_eq (tgt := 1543) dL_law_1489 (by decide) (fun _ => ?_) (fun hne => absurd e9 hne)
  exact kk M2 (h2.fin (fb_trace hm))
theorem lc_image (hL : L ≤ 3072) (hi : i + 6 ≤ L) (h : J n cnt mc M M) (kk : ∀ M2, Jx M2 M2 → LW l L xs 1543 (lwLs i) [] M2) : LW l L xs 1494 (lwLs i) [] M := by
  refine lj_aload_n (i := 1) dL_law_1494 rfl rfl ?_
  refine lj_cV ck_L_187 (m_X7_image) sh_0 rfl (by decide) (by decide) rfl rfl (Nat.le_of_ble_eq_true rfl) dL_law_1495 (fun r M1 hq => ?_)
  obtain ⟨v, rfl, hc⟩ := hq
  have h1 : J n cnt mc M M1 := h.eq eqA.rf (fa_image hc).x
  refine lj_aload_n (i := 2) dL_law_1498 rfl rfl ?_
  refine lj_cV ck_L_190 (m_X8_image) sh_105 rfl (by decide) (by decide) rfl rfl (Nat.le_of_ble_eq_true rfl) dL_law_1499 (fun r M2 hq => ?_)
  obtain ⟨rfl, rfl⟩ := hq
  obtain ⟨e9, h2⟩ := st_image h1 hc
  exact lj_icmp_eq (tgt := 1543) dL_law_1502 (by decide) (fun _ => kk _ (h2.fin fb_image)) (fun hne => absurd e9 hne)
theorem lc_restore (hL : L ≤ 3072) (hi : i + 6 ≤ L) (h : J n cnt mc M M) (kk : ∀ M2, Jx M2 M2 → LW l L xs 1543 (lwLs i) [] M2) : LW l L xs 1507 (lwLs i) [] M := by
  refine lj_aload_n (i := 1) dL_law_1507 rfl rfl ?_
  refine lj_cV ck_L_191 (m_X7_restore) sh_0 rfl (by decide) (by decide) rfl rfl (Nat.le_of_ble_eq_true rfl) dL_law_1508 (fun r M1 hq => ?_)
  obtain ⟨v, rfl, hc⟩ := hq
  have h1 : J n cnt mc M M1 := h.eq eqA.rf (fa_restore hc).x
  refine lj_aload_n (i := 2) dL_law_1511 rfl rfl ?_
  refine lj_cV ck_L_194 (m_X8_restore) sh_105 rfl (by decide) (by decide) rfl rfl (Nat.le_of_ble_eq_true rfl) dL_law_1512 (fun r M2 hq => ?_)
  obtain ⟨w, rfl, hm⟩ := hq
  obtain ⟨e9, h2⟩ := st_restore h1 hc hm
  refine lj_icmp_eq (tgt := 1543) dL_law_1515 (by decide) (fun _ => ?_) (fun hne => absurd e9 hne)
  exact kk M2 (h2.fin (fb_restore hm))
theorem lc_status (hL : L ≤ 3072) (hi : i + 6 ≤ L) (h : J n cnt mc M M) (kk : ∀ M2, Jx M2 M2 → LW l L xs 1543 (lwLs i) [] M2) : LW l L xs 1520 (lwLs i) [] M := by
  refine lj_aload_n (i := 1) dL_law_1520 rfl rfl ?_
  refine lj_arg (kn := 1) (i := i) rfl dL_law_1521 dL_law_1522 dL_law_1523 dL_law_1524 dL_law_1525 rfl rfl (by omega) hL ?_
  refine lj_cV ck_L_195 (m_X7_status) sh_0 rfl (by decide) (by decide) rfl rfl (Nat.le_of_ble_eq_true rfl) dL_law_1526 (fun r M1 hq => ?_)
  obtain ⟨v, rfl, hc⟩ := hq
  have h1 : J n cnt mc M M1 := h.eq eqA.rf (fa_status hc).x
  refine lj_aload_n (i := 2) dL_law_1529 rfl rfl ?_
  refine lj_arg (kn := 1) (i := i) rfl dL_law_1530 dL_law_1531 dL_law_1532 dL_law_1533 dL_law_1534 rfl rfl (by omega) hL ?_
  refine lj_cV ck_L_198 (m_X8_status) sh_105 rfl (by decide) (by decide) rfl rfl (Nat.le_of_ble_eq_true rfl) dL_law_1535 (fun r M2 hq => ?_)
  obtain ⟨w, rfl, hm⟩ := hq
  obtain ⟨e9, h2⟩ := st_status h1 hc hm
  refine lj_icmp_eq (tgt := 1543) dL_law_1538 (by decide) (fun _ => ?_) (fun hne => absurd e9 hne)
  exact kk M2 (h2.fin (fb_status hm))
end LC
