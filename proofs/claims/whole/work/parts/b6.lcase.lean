/-! b6: the cases of the law but amount -/
section
variable {p : Program} {l : Launch} {e : Env} {s : State} {m : MethodId} {below : List Frame} {meth : Method} {c : Code} {Q : State → Prop} {D : va_G} {cy : Nat → ClassId} {aS b0 L : Nat} {xs : Nat → Int32} {k : Nat} {w : Nat × Nat × Nat × Nat} {I Lg : Nat → Int → Int}
theorem lc_0 (F : lw_fx p s m meth c D cy b0 L xs) (hk : k + 5 < L) (hG : GG w I Lg) (hok : am_okh (mkH w I Lg)) (kk : ∀ w I Lg, GG w I Lg → lw_G p l e s m below meth c Q D cy aS b0 k 1805 [] (mkH w I Lg)) : lw_G p l e s m below meth c Q D cy aS b0 k 248 [] (mkH w I Lg) := by
  obtain ⟨n1, r, h1, n2, w2, I2, L2, e1, e2, g⟩ := lg_pair (p_feed (a := (xs (k + 1)).toInt) (b := (xs (k + 2)).toInt) (c := (xs (k + 3)).toInt) (e := (xs (k + 4)).toInt) (f := (xs (k + 5)).toInt)) hG
  obtain ⟨x, rfl⟩ := (am_run_ty _ _ 87 _ _ _ _ _ _ (by decide) e1 (am_okL_en (am_ok1 (show am_okv (vR (some 0)) from trivial) (am_ok1 (lx_in _) (am_ok1 (lx_in _) (am_ok1 (lx_in _) (am_ok1 (lx_in _) (am_ok1 (lx_in _) (am_ok0)))))))) am_ok0 hok).1 (Or.inl rfl)
  refine lg_x F dl_248 ?_
  refine lg_a 1 F hk (by decide) dl_249 dl_250 dl_252 dl_253 dl_254 ?_
  refine lg_a 2 F hk (by decide) dl_255 dl_256 dl_258 dl_259 dl_260 ?_
  refine lg_a 3 F hk (by decide) dl_261 dl_262 dl_264 dl_265 dl_266 ?_
  refine lg_a 4 F hk (by decide) dl_267 dl_268 dl_270 dl_271 dl_272 ?_
  refine lg_a 5 F hk (by decide) dl_273 dl_274 dl_276 dl_277 dl_278 ?_
  refine lg_call (j := 87) (a := 0) (as := [vI (xs (k + 1)).toInt, vI (xs (k + 2)).toInt, vI (xs (k + 3)).toInt, vI (xs (k + 4)).toInt, vI (xs (k + 5)).toInt]) (S := []) F dl_279 (am_hw_in (z := (3, 56)) (by decide +kernel)) (by decide) rfl rfl (Or.inr ⟨_, rfl⟩) (by decide) (Nat.le_of_ble_eq_true rfl) (Nat.le_of_ble_eq_true rfl) (am_ok1 (lx_in _) (am_ok1 (lx_in _) (am_ok1 (lx_in _) (am_ok1 (lx_in _) (am_ok1 (lx_in _) (am_ok0)))))) (by decide) e1 ?_
  refine lg_m F dl_282 ?_
  refine lg_a 1 F hk (by decide) dl_283 dl_284 dl_286 dl_287 dl_288 ?_
  refine lg_a 2 F hk (by decide) dl_289 dl_290 dl_292 dl_293 dl_294 ?_
  refine lg_a 3 F hk (by decide) dl_295 dl_296 dl_298 dl_299 dl_300 ?_
  refine lg_a 4 F hk (by decide) dl_301 dl_302 dl_304 dl_305 dl_306 ?_
  refine lg_a 5 F hk (by decide) dl_307 dl_308 dl_310 dl_311 dl_312 ?_
  refine lg_call (j := 152) (a := 99) (as := [vI (xs (k + 1)).toInt, vI (xs (k + 2)).toInt, vI (xs (k + 3)).toInt, vI (xs (k + 4)).toInt, vI (xs (k + 5)).toInt]) (S := [vI x]) F dl_313 (am_hw_in (z := (7, 84)) (by decide +kernel)) (by decide) rfl rfl (Or.inr ⟨_, rfl⟩) (by decide) (Nat.le_of_ble_eq_true rfl) (Nat.le_of_ble_eq_true rfl) (am_ok1 (lx_in _) (am_ok1 (lx_in _) (am_ok1 (lx_in _) (am_ok1 (lx_in _) (am_ok1 (lx_in _) (am_ok0)))))) (by decide) e2 ?_
  exact lg_eq F dl_316 (by decide) (kk _ _ _ g)
theorem lc_1 (F : lw_fx p s m meth c D cy b0 L xs) (hk : k + 5 < L) (hG : GG w I Lg) (hok : am_okh (mkH w I Lg)) (kk : ∀ w I Lg, GG w I Lg → lw_G p l e s m below meth c Q D cy aS b0 k 1805 [] (mkH w I Lg)) : lw_G p l e s m below meth c Q D cy aS b0 k 321 [] (mkH w I Lg) := by
  obtain ⟨n1, r, h1, n2, w2, I2, L2, e1, e2, g⟩ := lg_pair (p_text (a := (xs (k + 1)).toInt)) hG
  obtain ⟨x, rfl⟩ := (am_run_ty _ _ 89 _ _ _ _ _ _ (by decide) e1 (am_okL_en (am_ok1 (show am_okv (vR (some 0)) from trivial) (am_ok1 (lx_in _) (am_ok0)))) am_ok0 hok).1 (Or.inl rfl)
  refine lg_x F dl_321 ?_
  refine lg_a 1 F hk (by decide) dl_322 dl_323 dl_325 dl_326 dl_327 ?_
  refine lg_call (j := 89) (a := 0) (as := [vI (xs (k + 1)).toInt]) (S := []) F dl_328 (am_hw_in (z := (3, 64)) (by decide +kernel)) (by decide) rfl rfl (Or.inr ⟨_, rfl⟩) (by decide) (Nat.le_of_ble_eq_true rfl) (Nat.le_of_ble_eq_true rfl) (am_ok1 (lx_in _) (am_ok0)) (by decide) e1 ?_
  refine lg_m F dl_331 ?_
  refine lg_a 1 F hk (by decide) dl_332 dl_333 dl_335 dl_336 dl_337 ?_
  refine lg_call (j := 178) (a := 99) (as := [vI (xs (k + 1)).toInt]) (S := [vI x]) F dl_338 (am_hw_in (z := (7, 88)) (by decide +kernel)) (by decide) rfl rfl (Or.inr ⟨_, rfl⟩) (by decide) (Nat.le_of_ble_eq_true rfl) (Nat.le_of_ble_eq_true rfl) (am_ok1 (lx_in _) (am_ok0)) (by decide) e2 ?_
  exact lg_eq F dl_341 (by decide) (kk _ _ _ g)
theorem lc_2 (F : lw_fx p s m meth c D cy b0 L xs) (hk : k + 5 < L) (hG : GG w I Lg) (hok : am_okh (mkH w I Lg)) (kk : ∀ w I Lg, GG w I Lg → lw_G p l e s m below meth c Q D cy aS b0 k 1805 [] (mkH w I Lg)) : lw_G p l e s m below meth c Q D cy aS b0 k 346 [] (mkH w I Lg) := by
  obtain ⟨n1, r, h1, n2, w2, I2, L2, e1, e2, g⟩ := lg_pair (p_fault (a := (xs (k + 1)).toInt)) hG
  obtain ⟨x, rfl⟩ := (am_run_ty _ _ 90 _ _ _ _ _ _ (by decide) e1 (am_okL_en (am_ok1 (show am_okv (vR (some 0)) from trivial) (am_ok1 (lx_in _) (am_ok0)))) am_ok0 hok).1 (Or.inl rfl)
  refine lg_x F dl_346 ?_
  refine lg_a 1 F hk (by decide) dl_347 dl_348 dl_350 dl_351 dl_352 ?_
  refine lg_call (j := 90) (a := 0) (as := [vI (xs (k + 1)).toInt]) (S := []) F dl_353 (am_hw_in (z := (4, 2)) (by decide +kernel)) (by decide) rfl rfl (Or.inr ⟨_, rfl⟩) (by decide) (Nat.le_of_ble_eq_true rfl) (Nat.le_of_ble_eq_true rfl) (am_ok1 (lx_in _) (am_ok0)) (by decide) e1 ?_
  refine lg_m F dl_356 ?_
  refine lg_a 1 F hk (by decide) dl_357 dl_358 dl_360 dl_361 dl_362 ?_
  refine lg_call (j := 179) (a := 99) (as := [vI (xs (k + 1)).toInt]) (S := [vI x]) F dl_363 (am_hw_in (z := (7, 218)) (by decide +kernel)) (by decide) rfl rfl (Or.inr ⟨_, rfl⟩) (by decide) (Nat.le_of_ble_eq_true rfl) (Nat.le_of_ble_eq_true rfl) (am_ok1 (lx_in _) (am_ok0)) (by decide) e2 ?_
  exact lg_eq F dl_366 (by decide) (kk _ _ _ g)
theorem lc_3 (F : lw_fx p s m meth c D cy b0 L xs) (hk : k + 5 < L) (hG : GG w I Lg) (hok : am_okh (mkH w I Lg)) (kk : ∀ w I Lg, GG w I Lg → lw_G p l e s m below meth c Q D cy aS b0 k 1805 [] (mkH w I Lg)) : lw_G p l e s m below meth c Q D cy aS b0 k 371 [] (mkH w I Lg) := by
  obtain ⟨n1, r, h1, n2, w2, I2, L2, e1, e2, g⟩ := lg_pair (p_named (a := (xs (k + 1)).toInt) (b := (xs (k + 2)).toInt)) hG
  obtain ⟨x, rfl⟩ := (am_run_ty _ _ 91 _ _ _ _ _ _ (by decide) e1 (am_okL_en (am_ok1 (show am_okv (vR (some 0)) from trivial) (am_ok1 (lx_in _) (am_ok1 (lx_in _) (am_ok0))))) am_ok0 hok).1 (Or.inl rfl)
  refine lg_x F dl_371 ?_
  refine lg_a 1 F hk (by decide) dl_372 dl_373 dl_375 dl_376 dl_377 ?_
  refine lg_a 2 F hk (by decide) dl_378 dl_379 dl_381 dl_382 dl_383 ?_
  refine lg_call (j := 91) (a := 0) (as := [vI (xs (k + 1)).toInt, vI (xs (k + 2)).toInt]) (S := []) F dl_384 (am_hw_in (z := (4, 6)) (by decide +kernel)) (by decide) rfl rfl (Or.inr ⟨_, rfl⟩) (by decide) (Nat.le_of_ble_eq_true rfl) (Nat.le_of_ble_eq_true rfl) (am_ok1 (lx_in _) (am_ok1 (lx_in _) (am_ok0))) (by decide) e1 ?_
  refine lg_m F dl_387 ?_
  refine lg_a 1 F hk (by decide) dl_388 dl_389 dl_391 dl_392 dl_393 ?_
  refine lg_a 2 F hk (by decide) dl_394 dl_395 dl_397 dl_398 dl_399 ?_
  refine lg_call (j := 180) (a := 99) (as := [vI (xs (k + 1)).toInt, vI (xs (k + 2)).toInt]) (S := [vI x]) F dl_400 (am_hw_in (z := (7, 222)) (by decide +kernel)) (by decide) rfl rfl (Or.inr ⟨_, rfl⟩) (by decide) (Nat.le_of_ble_eq_true rfl) (Nat.le_of_ble_eq_true rfl) (am_ok1 (lx_in _) (am_ok1 (lx_in _) (am_ok0))) (by decide) e2 ?_
  exact lg_eq F dl_403 (by decide) (kk _ _ _ g)
theorem lc_5 (F : lw_fx p s m meth c D cy b0 L xs) (hk : k + 5 < L) (hG : GG w I Lg) (hok : am_okh (mkH w I Lg)) (kk : ∀ w I Lg, GG w I Lg → lw_G p l e s m below meth c Q D cy aS b0 k 1805 [] (mkH w I Lg)) : lw_G p l e s m below meth c Q D cy aS b0 k 476 [] (mkH w I Lg) := by
  obtain ⟨n1, r, h1, n2, w2, I2, L2, e1, e2, g⟩ := lg_pair (p_kind (a := (xs (k + 1)).toInt) (b := (xs (k + 2)).toInt)) hG
  obtain ⟨x, rfl⟩ := (am_run_ty _ _ 97 _ _ _ _ _ _ (by decide) e1 (am_okL_en (am_ok1 (show am_okv (vR (some 0)) from trivial) (am_ok1 (lx_in _) (am_ok1 (lx_in _) (am_ok0))))) am_ok0 hok).1 (Or.inl rfl)
  refine lg_x F dl_476 ?_
  refine lg_a 1 F hk (by decide) dl_477 dl_478 dl_480 dl_481 dl_482 ?_
  refine lg_a 2 F hk (by decide) dl_483 dl_484 dl_486 dl_487 dl_488 ?_
  refine lg_call (j := 97) (a := 0) (as := [vI (xs (k + 1)).toInt, vI (xs (k + 2)).toInt]) (S := []) F dl_489 (am_hw_in (z := (4, 11)) (by decide +kernel)) (by decide) rfl rfl (Or.inr ⟨_, rfl⟩) (by decide) (Nat.le_of_ble_eq_true rfl) (Nat.le_of_ble_eq_true rfl) (am_ok1 (lx_in _) (am_ok1 (lx_in _) (am_ok0))) (by decide) e1 ?_
  refine lg_m F dl_492 ?_
  refine lg_a 1 F hk (by decide) dl_493 dl_494 dl_496 dl_497 dl_498 ?_
  refine lg_a 2 F hk (by decide) dl_499 dl_500 dl_502 dl_503 dl_504 ?_
  refine lg_call (j := 223) (a := 99) (as := [vI (xs (k + 1)).toInt, vI (xs (k + 2)).toInt]) (S := [vI x]) F dl_505 (am_hw_in (z := (8, 1)) (by decide +kernel)) (by decide) rfl rfl (Or.inr ⟨_, rfl⟩) (by decide) (Nat.le_of_ble_eq_true rfl) (Nat.le_of_ble_eq_true rfl) (am_ok1 (lx_in _) (am_ok1 (lx_in _) (am_ok0))) (by decide) e2 ?_
  exact lg_eq F dl_508 (by decide) (kk _ _ _ g)
theorem lc_6 (F : lw_fx p s m meth c D cy b0 L xs) (hk : k + 5 < L) (hG : GG w I Lg) (hok : am_okh (mkH w I Lg)) (kk : ∀ w I Lg, GG w I Lg → lw_G p l e s m below meth c Q D cy aS b0 k 1805 [] (mkH w I Lg)) : lw_G p l e s m below meth c Q D cy aS b0 k 513 [] (mkH w I Lg) := by
  obtain ⟨n1, r, h1, n2, w2, I2, L2, e1, e2, g⟩ := lg_pair (p_deed (a := (xs (k + 1)).toInt) (b := (xs (k + 2)).toInt)) hG
  obtain ⟨x, rfl⟩ := (am_run_ty _ _ 98 _ _ _ _ _ _ (by decide) e1 (am_okL_en (am_ok1 (show am_okv (vR (some 0)) from trivial) (am_ok1 (lx_in _) (am_ok1 (lx_in _) (am_ok0))))) am_ok0 hok).1 (Or.inl rfl)
  refine lg_x F dl_513 ?_
  refine lg_a 1 F hk (by decide) dl_514 dl_515 dl_517 dl_518 dl_519 ?_
  refine lg_a 2 F hk (by decide) dl_520 dl_521 dl_523 dl_524 dl_525 ?_
  refine lg_call (j := 98) (a := 0) (as := [vI (xs (k + 1)).toInt, vI (xs (k + 2)).toInt]) (S := []) F dl_526 (am_hw_in (z := (4, 30)) (by decide +kernel)) (by decide) rfl rfl (Or.inr ⟨_, rfl⟩) (by decide) (Nat.le_of_ble_eq_true rfl) (Nat.le_of_ble_eq_true rfl) (am_ok1 (lx_in _) (am_ok1 (lx_in _) (am_ok0))) (by decide) e1 ?_
  refine lg_m F dl_529 ?_
  refine lg_a 1 F hk (by decide) dl_530 dl_531 dl_533 dl_534 dl_535 ?_
  refine lg_a 2 F hk (by decide) dl_536 dl_537 dl_539 dl_540 dl_541 ?_
  refine lg_call (j := 224) (a := 99) (as := [vI (xs (k + 1)).toInt, vI (xs (k + 2)).toInt]) (S := [vI x]) F dl_542 (am_hw_in (z := (8, 16)) (by decide +kernel)) (by decide) rfl rfl (Or.inr ⟨_, rfl⟩) (by decide) (Nat.le_of_ble_eq_true rfl) (Nat.le_of_ble_eq_true rfl) (am_ok1 (lx_in _) (am_ok1 (lx_in _) (am_ok0))) (by decide) e2 ?_
  exact lg_eq F dl_545 (by decide) (kk _ _ _ g)
theorem lc_7 (F : lw_fx p s m meth c D cy b0 L xs) (hk : k + 5 < L) (hG : GG w I Lg) (hok : am_okh (mkH w I Lg)) (kk : ∀ w I Lg, GG w I Lg → lw_G p l e s m below meth c Q D cy aS b0 k 1805 [] (mkH w I Lg)) : lw_G p l e s m below meth c Q D cy aS b0 k 550 [] (mkH w I Lg) := by
  obtain ⟨n1, r, h1, n2, w2, I2, L2, e1, e2, g⟩ := lg_pair (p_done (a := (xs (k + 1)).toInt) (b := (xs (k + 2)).toInt)) hG
  obtain ⟨x, rfl⟩ := (am_run_ty _ _ 99 _ _ _ _ _ _ (by decide) e1 (am_okL_en (am_ok1 (show am_okv (vR (some 0)) from trivial) (am_ok1 (lx_in _) (am_ok1 (lx_in _) (am_ok0))))) am_ok0 hok).1 (Or.inl rfl)
  refine lg_x F dl_550 ?_
  refine lg_a 1 F hk (by decide) dl_551 dl_552 dl_554 dl_555 dl_556 ?_
  refine lg_a 2 F hk (by decide) dl_557 dl_558 dl_560 dl_561 dl_562 ?_
  refine lg_call (j := 99) (a := 0) (as := [vI (xs (k + 1)).toInt, vI (xs (k + 2)).toInt]) (S := []) F dl_563 (am_hw_in (z := (4, 39)) (by decide +kernel)) (by decide) rfl rfl (Or.inr ⟨_, rfl⟩) (by decide) (Nat.le_of_ble_eq_true rfl) (Nat.le_of_ble_eq_true rfl) (am_ok1 (lx_in _) (am_ok1 (lx_in _) (am_ok0))) (by decide) e1 ?_
  refine lg_m F dl_566 ?_
  refine lg_a 1 F hk (by decide) dl_567 dl_568 dl_570 dl_571 dl_572 ?_
  refine lg_a 2 F hk (by decide) dl_573 dl_574 dl_576 dl_577 dl_578 ?_
  refine lg_call (j := 225) (a := 99) (as := [vI (xs (k + 1)).toInt, vI (xs (k + 2)).toInt]) (S := [vI x]) F dl_579 (am_hw_in (z := (8, 25)) (by decide +kernel)) (by decide) rfl rfl (Or.inr ⟨_, rfl⟩) (by decide) (Nat.le_of_ble_eq_true rfl) (Nat.le_of_ble_eq_true rfl) (am_ok1 (lx_in _) (am_ok1 (lx_in _) (am_ok0))) (by decide) e2 ?_
  exact lg_eq F dl_582 (by decide) (kk _ _ _ g)
theorem lc_8 (F : lw_fx p s m meth c D cy b0 L xs) (hk : k + 5 < L) (hG : GG w I Lg) (hok : am_okh (mkH w I Lg)) (kk : ∀ w I Lg, GG w I Lg → lw_G p l e s m below meth c Q D cy aS b0 k 1805 [] (mkH w I Lg)) : lw_G p l e s m below meth c Q D cy aS b0 k 587 [] (mkH w I Lg) := by
  obtain ⟨n1, r, h1, n2, w2, I2, L2, e1, e2, g⟩ := lg_pair (p_twin (a := (xs (k + 1)).toInt) (b := (xs (k + 2)).toInt)) hG
  obtain ⟨x, rfl⟩ := (am_run_ty _ _ 100 _ _ _ _ _ _ (by decide) e1 (am_okL_en (am_ok1 (show am_okv (vR (some 0)) from trivial) (am_ok1 (lx_in _) (am_ok1 (lx_in _) (am_ok0))))) am_ok0 hok).1 (Or.inl rfl)
  refine lg_x F dl_587 ?_
  refine lg_a 1 F hk (by decide) dl_588 dl_589 dl_591 dl_592 dl_593 ?_
  refine lg_a 2 F hk (by decide) dl_594 dl_595 dl_597 dl_598 dl_599 ?_
  refine lg_call (j := 100) (a := 0) (as := [vI (xs (k + 1)).toInt, vI (xs (k + 2)).toInt]) (S := []) F dl_600 (am_hw_in (z := (4, 43)) (by decide +kernel)) (by decide) rfl rfl (Or.inr ⟨_, rfl⟩) (by decide) (Nat.le_of_ble_eq_true rfl) (Nat.le_of_ble_eq_true rfl) (am_ok1 (lx_in _) (am_ok1 (lx_in _) (am_ok0))) (by decide) e1 ?_
  refine lg_m F dl_603 ?_
  refine lg_a 1 F hk (by decide) dl_604 dl_605 dl_607 dl_608 dl_609 ?_
  refine lg_a 2 F hk (by decide) dl_610 dl_611 dl_613 dl_614 dl_615 ?_
  refine lg_call (j := 226) (a := 99) (as := [vI (xs (k + 1)).toInt, vI (xs (k + 2)).toInt]) (S := [vI x]) F dl_616 (am_hw_in (z := (8, 29)) (by decide +kernel)) (by decide) rfl rfl (Or.inr ⟨_, rfl⟩) (by decide) (Nat.le_of_ble_eq_true rfl) (Nat.le_of_ble_eq_true rfl) (am_ok1 (lx_in _) (am_ok1 (lx_in _) (am_ok0))) (by decide) e2 ?_
  exact lg_eq F dl_619 (by decide) (kk _ _ _ g)
theorem lc_9 (F : lw_fx p s m meth c D cy b0 L xs) (hk : k + 5 < L) (hG : GG w I Lg) (hok : am_okh (mkH w I Lg)) (kk : ∀ w I Lg, GG w I Lg → lw_G p l e s m below meth c Q D cy aS b0 k 1805 [] (mkH w I Lg)) : lw_G p l e s m below meth c Q D cy aS b0 k 624 [] (mkH w I Lg) := by
  obtain ⟨n1, r, h1, n2, w2, I2, L2, e1, e2, g⟩ := lg_pair (p_apart) hG
  obtain ⟨x, rfl⟩ := (am_run_ty _ _ 101 _ _ _ _ _ _ (by decide) e1 (am_okL_en (am_ok1 (show am_okv (vR (some 0)) from trivial) (am_ok0))) am_ok0 hok).1 (Or.inl rfl)
  refine lg_x F dl_624 ?_
  refine lg_call (j := 101) (a := 0) (as := []) (S := []) F dl_625 (am_hw_in (z := (4, 54)) (by decide +kernel)) (by decide) rfl rfl (Or.inr ⟨_, rfl⟩) (by decide) (Nat.le_of_ble_eq_true rfl) (Nat.le_of_ble_eq_true rfl) (am_ok0) (by decide) e1 ?_
  refine lg_m F dl_628 ?_
  refine lg_call (j := 227) (a := 99) (as := []) (S := [vI x]) F dl_629 (am_hw_in (z := (8, 37)) (by decide +kernel)) (by decide) rfl rfl (Or.inr ⟨_, rfl⟩) (by decide) (Nat.le_of_ble_eq_true rfl) (Nat.le_of_ble_eq_true rfl) (am_ok0) (by decide) e2 ?_
  exact lg_eq F dl_632 (by decide) (kk _ _ _ g)
theorem lc_10 (F : lw_fx p s m meth c D cy b0 L xs) (hk : k + 5 < L) (hG : GG w I Lg) (hok : am_okh (mkH w I Lg)) (kk : ∀ w I Lg, GG w I Lg → lw_G p l e s m below meth c Q D cy aS b0 k 1805 [] (mkH w I Lg)) : lw_G p l e s m below meth c Q D cy aS b0 k 637 [] (mkH w I Lg) := by
  obtain ⟨n1, r, h1, n2, w2, I2, L2, e1, e2, g⟩ := lg_pair (p_law (a := (xs (k + 1)).toInt) (b := (xs (k + 2)).toInt) (c := (xs (k + 3)).toInt)) hG
  obtain ⟨x, rfl⟩ := (am_run_ty _ _ 102 _ _ _ _ _ _ (by decide) e1 (am_okL_en (am_ok1 (show am_okv (vR (some 0)) from trivial) (am_ok1 (lx_in _) (am_ok1 (lx_in _) (am_ok1 (lx_in _) (am_ok0)))))) am_ok0 hok).2 rfl
  refine lg_x F dl_637 ?_
  refine lg_a 1 F hk (by decide) dl_638 dl_639 dl_641 dl_642 dl_643 ?_
  refine lg_a 2 F hk (by decide) dl_644 dl_645 dl_647 dl_648 dl_649 ?_
  refine lg_a 3 F hk (by decide) dl_650 dl_651 dl_653 dl_654 dl_655 ?_
  refine lg_call (j := 102) (a := 0) (as := [vI (xs (k + 1)).toInt, vI (xs (k + 2)).toInt, vI (xs (k + 3)).toInt]) (S := []) F dl_656 (am_hw_in (z := (4, 100)) (by decide +kernel)) (by decide) rfl rfl (Or.inr ⟨_, rfl⟩) (by decide) (Nat.le_of_ble_eq_true rfl) (Nat.le_of_ble_eq_true rfl) (am_ok1 (lx_in _) (am_ok1 (lx_in _) (am_ok1 (lx_in _) (am_ok0)))) (by decide) e1 ?_
  refine lg_m F dl_659 ?_
  refine lg_a 1 F hk (by decide) dl_660 dl_661 dl_663 dl_664 dl_665 ?_
  refine lg_a 2 F hk (by decide) dl_666 dl_667 dl_669 dl_670 dl_671 ?_
  refine lg_a 3 F hk (by decide) dl_672 dl_673 dl_675 dl_676 dl_677 ?_
  refine lg_call (j := 228) (a := 99) (as := [vI (xs (k + 1)).toInt, vI (xs (k + 2)).toInt, vI (xs (k + 3)).toInt]) (S := [vL x]) F dl_678 (am_hw_in (z := (8, 78)) (by decide +kernel)) (by decide) rfl rfl (Or.inr ⟨_, rfl⟩) (by decide) (Nat.le_of_ble_eq_true rfl) (Nat.le_of_ble_eq_true rfl) (am_ok1 (lx_in _) (am_ok1 (lx_in _) (am_ok1 (lx_in _) (am_ok0)))) (by decide) e2 ?_
  exact lg_eql F dl_681 dl_682 (by decide) (kk _ _ _ g)
theorem lc_11 (F : lw_fx p s m meth c D cy b0 L xs) (hk : k + 5 < L) (hG : GG w I Lg) (hok : am_okh (mkH w I Lg)) (kk : ∀ w I Lg, GG w I Lg → lw_G p l e s m below meth c Q D cy aS b0 k 1805 [] (mkH w I Lg)) : lw_G p l e s m below meth c Q D cy aS b0 k 687 [] (mkH w I Lg) := by
  obtain ⟨n1, r, h1, n2, w2, I2, L2, e1, e2, g⟩ := lg_pair (p_does (t := (xs (k + 1)).toInt) (e := (xs (k + 2)).toInt) (z := (if (xs (k + 3)).toInt = 0 then 0 else 1)) lx_b) hG
  obtain ⟨x, rfl⟩ := (am_run_ty _ _ 103 _ _ _ _ _ _ (by decide) e1 (am_okL_en (am_ok1 (show am_okv (vR (some 0)) from trivial) (am_ok1 (lx_in _) (am_ok1 (lx_in _) (am_ok1 (lx_bin) (am_ok0)))))) am_ok0 hok).1 (Or.inl rfl)
  refine lg_x F dl_687 ?_
  refine lg_a 1 F hk (by decide) dl_688 dl_689 dl_691 dl_692 dl_693 ?_
  refine lg_a 2 F hk (by decide) dl_694 dl_695 dl_697 dl_698 dl_699 ?_
  refine lg_a 3 F hk (by decide) dl_700 dl_701 dl_703 dl_704 dl_705 ?_
  refine lg_b (lx_in _) F dl_706 dl_709 dl_710 dl_713 ?_
  refine lg_call (j := 103) (a := 0) (as := [vI (xs (k + 1)).toInt, vI (xs (k + 2)).toInt, vI (if (xs (k + 3)).toInt = 0 then 0 else 1)]) (S := []) F dl_714 (am_hw_in (z := (4, 106)) (by decide +kernel)) (by decide) rfl rfl (Or.inr ⟨_, rfl⟩) (by decide) (Nat.le_of_ble_eq_true rfl) (Nat.le_of_ble_eq_true rfl) (am_ok1 (lx_in _) (am_ok1 (lx_in _) (am_ok1 (lx_bin) (am_ok0)))) (by decide) e1 ?_
  refine lg_m F dl_717 ?_
  refine lg_a 1 F hk (by decide) dl_718 dl_719 dl_721 dl_722 dl_723 ?_
  refine lg_a 2 F hk (by decide) dl_724 dl_725 dl_727 dl_728 dl_729 ?_
  refine lg_a 3 F hk (by decide) dl_730 dl_731 dl_733 dl_734 dl_735 ?_
  refine lg_b (lx_in _) F dl_736 dl_739 dl_740 dl_743 ?_
  refine lg_call (j := 229) (a := 99) (as := [vI (xs (k + 1)).toInt, vI (xs (k + 2)).toInt, vI (if (xs (k + 3)).toInt = 0 then 0 else 1)]) (S := [vI x]) F dl_744 (am_hw_in (z := (8, 83)) (by decide +kernel)) (by decide) rfl rfl (Or.inr ⟨_, rfl⟩) (by decide) (Nat.le_of_ble_eq_true rfl) (Nat.le_of_ble_eq_true rfl) (am_ok1 (lx_in _) (am_ok1 (lx_in _) (am_ok1 (lx_bin) (am_ok0)))) (by decide) e2 ?_
  exact lg_eq F dl_747 (by decide) (kk _ _ _ g)
theorem lc_12 (F : lw_fx p s m meth c D cy b0 L xs) (hk : k + 5 < L) (hG : GG w I Lg) (hok : am_okh (mkH w I Lg)) (kk : ∀ w I Lg, GG w I Lg → lw_G p l e s m below meth c Q D cy aS b0 k 1805 [] (mkH w I Lg)) : lw_G p l e s m below meth c Q D cy aS b0 k 752 [] (mkH w I Lg) := by
  obtain ⟨n1, r, h1, n2, w2, I2, L2, e1, e2, g⟩ := lg_pair (p_give (t := (xs (k + 1)).toInt) (a := (xs (k + 2)).toInt)) hG
  obtain ⟨x, rfl⟩ := (am_run_ty _ _ 104 _ _ _ _ _ _ (by decide) e1 (am_okL_en (am_ok1 (show am_okv (vR (some 0)) from trivial) (am_ok1 (lx_in _) (am_ok1 (lx_in _) (am_ok0))))) am_ok0 hok).1 (Or.inl rfl)
  refine lg_x F dl_752 ?_
  refine lg_a 1 F hk (by decide) dl_753 dl_754 dl_756 dl_757 dl_758 ?_
  refine lg_a 2 F hk (by decide) dl_759 dl_760 dl_762 dl_763 dl_764 ?_
  refine lg_call (j := 104) (a := 0) (as := [vI (xs (k + 1)).toInt, vI (xs (k + 2)).toInt]) (S := []) F dl_765 (am_hw_in (z := (4, 132)) (by decide +kernel)) (by decide) rfl rfl (Or.inr ⟨_, rfl⟩) (by decide) (Nat.le_of_ble_eq_true rfl) (Nat.le_of_ble_eq_true rfl) (am_ok1 (lx_in _) (am_ok1 (lx_in _) (am_ok0))) (by decide) e1 ?_
  refine lg_m F dl_768 ?_
  refine lg_a 1 F hk (by decide) dl_769 dl_770 dl_772 dl_773 dl_774 ?_
  refine lg_a 2 F hk (by decide) dl_775 dl_776 dl_778 dl_779 dl_780 ?_
  refine lg_call (j := 230) (a := 99) (as := [vI (xs (k + 1)).toInt, vI (xs (k + 2)).toInt]) (S := [vI x]) F dl_781 (am_hw_in (z := (8, 102)) (by decide +kernel)) (by decide) rfl rfl (Or.inr ⟨_, rfl⟩) (by decide) (Nat.le_of_ble_eq_true rfl) (Nat.le_of_ble_eq_true rfl) (am_ok1 (lx_in _) (am_ok1 (lx_in _) (am_ok0))) (by decide) e2 ?_
  exact lg_eq F dl_784 (by decide) (kk _ _ _ g)
theorem lc_13 (F : lw_fx p s m meth c D cy b0 L xs) (hk : k + 5 < L) (hG : GG w I Lg) (hok : am_okh (mkH w I Lg)) (kk : ∀ w I Lg, GG w I Lg → lw_G p l e s m below meth c Q D cy aS b0 k 1805 [] (mkH w I Lg)) : lw_G p l e s m below meth c Q D cy aS b0 k 789 [] (mkH w I Lg) := by
  obtain ⟨n1, r, h1, n2, w2, I2, L2, e1, e2, g⟩ := lg_pair (p_exchange (k := (xs (k + 1)).toInt)) hG
  obtain ⟨x, rfl⟩ := (am_run_ty _ _ 105 _ _ _ _ _ _ (by decide) e1 (am_okL_en (am_ok1 (show am_okv (vR (some 0)) from trivial) (am_ok1 (lx_in _) (am_ok0)))) am_ok0 hok).1 (Or.inr rfl)
  refine lg_x F dl_789 ?_
  refine lg_a 1 F hk (by decide) dl_790 dl_791 dl_793 dl_794 dl_795 ?_
  refine lg_call (j := 105) (a := 0) (as := [vI (xs (k + 1)).toInt]) (S := []) F dl_796 (am_hw_in (z := (4, 140)) (by decide +kernel)) (by decide) rfl rfl (Or.inr ⟨_, rfl⟩) (by decide) (Nat.le_of_ble_eq_true rfl) (Nat.le_of_ble_eq_true rfl) (am_ok1 (lx_in _) (am_ok0)) (by decide) e1 ?_
  refine lg_m F dl_799 ?_
  refine lg_a 1 F hk (by decide) dl_800 dl_801 dl_803 dl_804 dl_805 ?_
  refine lg_call (j := 231) (a := 99) (as := [vI (xs (k + 1)).toInt]) (S := [vI x]) F dl_806 (am_hw_in (z := (8, 106)) (by decide +kernel)) (by decide) rfl rfl (Or.inr ⟨_, rfl⟩) (by decide) (Nat.le_of_ble_eq_true rfl) (Nat.le_of_ble_eq_true rfl) (am_ok1 (lx_in _) (am_ok0)) (by decide) e2 ?_
  exact lg_eq F dl_809 (by decide) (kk _ _ _ g)
theorem lc_14 (F : lw_fx p s m meth c D cy b0 L xs) (hk : k + 5 < L) (hG : GG w I Lg) (hok : am_okh (mkH w I Lg)) (kk : ∀ w I Lg, GG w I Lg → lw_G p l e s m below meth c Q D cy aS b0 k 1805 [] (mkH w I Lg)) : lw_G p l e s m below meth c Q D cy aS b0 k 814 [] (mkH w I Lg) := by
  obtain ⟨n1, r, h1, n2, w2, I2, L2, e1, e2, g⟩ := lg_pair (p_go (n0 := (xs (k + 1)).toInt)) hG
  obtain ⟨x, rfl⟩ := (am_run_ty _ _ 107 _ _ _ _ _ _ (by decide) e1 (am_okL_en (am_ok1 (show am_okv (vR (some 0)) from trivial) (am_ok1 (lx_in _) (am_ok0)))) am_ok0 hok).1 (Or.inl rfl)
  refine lg_x F dl_814 ?_
  refine lg_a 1 F hk (by decide) dl_815 dl_816 dl_818 dl_819 dl_820 ?_
  refine lg_call (j := 107) (a := 0) (as := [vI (xs (k + 1)).toInt]) (S := []) F dl_821 (am_hw_in (z := (4, 146)) (by decide +kernel)) (by decide) rfl rfl (Or.inr ⟨_, rfl⟩) (by decide) (Nat.le_of_ble_eq_true rfl) (Nat.le_of_ble_eq_true rfl) (am_ok1 (lx_in _) (am_ok0)) (by decide) e1 ?_
  refine lg_m F dl_824 ?_
  refine lg_a 1 F hk (by decide) dl_825 dl_826 dl_828 dl_829 dl_830 ?_
  refine lg_call (j := 232) (a := 99) (as := [vI (xs (k + 1)).toInt]) (S := [vI x]) F dl_831 (am_hw_in (z := (8, 110)) (by decide +kernel)) (by decide) rfl rfl (Or.inr ⟨_, rfl⟩) (by decide) (Nat.le_of_ble_eq_true rfl) (Nat.le_of_ble_eq_true rfl) (am_ok1 (lx_in _) (am_ok0)) (by decide) e2 ?_
  exact lg_eq F dl_834 (by decide) (kk _ _ _ g)
theorem lc_15 (F : lw_fx p s m meth c D cy b0 L xs) (hk : k + 5 < L) (hG : GG w I Lg) (hok : am_okh (mkH w I Lg)) (kk : ∀ w I Lg, GG w I Lg → lw_G p l e s m below meth c Q D cy aS b0 k 1805 [] (mkH w I Lg)) : lw_G p l e s m below meth c Q D cy aS b0 k 839 [] (mkH w I Lg) := by
  obtain ⟨n1, r, h1, n2, w2, I2, L2, e1, e2, g⟩ := lg_pair (p_ahead (a := (xs (k + 1)).toInt) (b := (xs (k + 2)).toInt) (c := (xs (k + 3)).toInt)) hG
  obtain ⟨x, rfl⟩ := (am_run_ty _ _ 109 _ _ _ _ _ _ (by decide) e1 (am_okL_en (am_ok1 (show am_okv (vR (some 0)) from trivial) (am_ok1 (lx_in _) (am_ok1 (lx_in _) (am_ok1 (lx_in _) (am_ok0)))))) am_ok0 hok).1 (Or.inl rfl)
  refine lg_x F dl_839 ?_
  refine lg_a 1 F hk (by decide) dl_840 dl_841 dl_843 dl_844 dl_845 ?_
  refine lg_a 2 F hk (by decide) dl_846 dl_847 dl_849 dl_850 dl_851 ?_
  refine lg_a 3 F hk (by decide) dl_852 dl_853 dl_855 dl_856 dl_857 ?_
  refine lg_call (j := 109) (a := 0) (as := [vI (xs (k + 1)).toInt, vI (xs (k + 2)).toInt, vI (xs (k + 3)).toInt]) (S := []) F dl_858 (am_hw_in (z := (4, 186)) (by decide +kernel)) (by decide) rfl rfl (Or.inr ⟨_, rfl⟩) (by decide) (Nat.le_of_ble_eq_true rfl) (Nat.le_of_ble_eq_true rfl) (am_ok1 (lx_in _) (am_ok1 (lx_in _) (am_ok1 (lx_in _) (am_ok0)))) (by decide) e1 ?_
  refine lg_m F dl_861 ?_
  refine lg_a 1 F hk (by decide) dl_862 dl_863 dl_865 dl_866 dl_867 ?_
  refine lg_a 2 F hk (by decide) dl_868 dl_869 dl_871 dl_872 dl_873 ?_
  refine lg_a 3 F hk (by decide) dl_874 dl_875 dl_877 dl_878 dl_879 ?_
  refine lg_call (j := 233) (a := 99) (as := [vI (xs (k + 1)).toInt, vI (xs (k + 2)).toInt, vI (xs (k + 3)).toInt]) (S := [vI x]) F dl_880 (am_hw_in (z := (8, 142)) (by decide +kernel)) (by decide) rfl rfl (Or.inr ⟨_, rfl⟩) (by decide) (Nat.le_of_ble_eq_true rfl) (Nat.le_of_ble_eq_true rfl) (am_ok1 (lx_in _) (am_ok1 (lx_in _) (am_ok1 (lx_in _) (am_ok0)))) (by decide) e2 ?_
  exact lg_eq F dl_883 (by decide) (kk _ _ _ g)
theorem lc_16 (F : lw_fx p s m meth c D cy b0 L xs) (hk : k + 5 < L) (hG : GG w I Lg) (hok : am_okh (mkH w I Lg)) (kk : ∀ w I Lg, GG w I Lg → lw_G p l e s m below meth c Q D cy aS b0 k 1805 [] (mkH w I Lg)) : lw_G p l e s m below meth c Q D cy aS b0 k 888 [] (mkH w I Lg) := by
  obtain ⟨n1, r, h1, n2, w2, I2, L2, e1, e2, g⟩ := lg_pair (p_nextLevel) hG
  obtain ⟨x, rfl⟩ := (am_run_ty _ _ 110 _ _ _ _ _ _ (by decide) e1 (am_okL_en (am_ok1 (show am_okv (vR (some 0)) from trivial) (am_ok0))) am_ok0 hok).1 (Or.inl rfl)
  refine lg_x F dl_888 ?_
  refine lg_call (j := 110) (a := 0) (as := []) (S := []) F dl_889 (am_hw_in (z := (4, 198)) (by decide +kernel)) (by decide) rfl rfl (Or.inr ⟨_, rfl⟩) (by decide) (Nat.le_of_ble_eq_true rfl) (Nat.le_of_ble_eq_true rfl) (am_ok0) (by decide) e1 ?_
  refine lg_m F dl_892 ?_
  refine lg_call (j := 235) (a := 99) (as := []) (S := [vI x]) F dl_893 (am_hw_in (z := (8, 158)) (by decide +kernel)) (by decide) rfl rfl (Or.inr ⟨_, rfl⟩) (by decide) (Nat.le_of_ble_eq_true rfl) (Nat.le_of_ble_eq_true rfl) (am_ok0) (by decide) e2 ?_
  exact lg_eq F dl_896 (by decide) (kk _ _ _ g)
theorem lc_17 (F : lw_fx p s m meth c D cy b0 L xs) (hk : k + 5 < L) (hG : GG w I Lg) (hok : am_okh (mkH w I Lg)) (kk : ∀ w I Lg, GG w I Lg → lw_G p l e s m below meth c Q D cy aS b0 k 1805 [] (mkH w I Lg)) : lw_G p l e s m below meth c Q D cy aS b0 k 901 [] (mkH w I Lg) := by
  obtain ⟨n1, r, h1, n2, w2, I2, L2, e1, e2, g⟩ := lg_pair (p_nextOut) hG
  obtain ⟨x, rfl⟩ := (am_run_ty _ _ 111 _ _ _ _ _ _ (by decide) e1 (am_okL_en (am_ok1 (show am_okv (vR (some 0)) from trivial) (am_ok0))) am_ok0 hok).1 (Or.inl rfl)
  refine lg_x F dl_901 ?_
  refine lg_call (j := 111) (a := 0) (as := []) (S := []) F dl_902 (am_hw_in (z := (4, 208)) (by decide +kernel)) (by decide) rfl rfl (Or.inr ⟨_, rfl⟩) (by decide) (Nat.le_of_ble_eq_true rfl) (Nat.le_of_ble_eq_true rfl) (am_ok0) (by decide) e1 ?_
  refine lg_m F dl_905 ?_
  refine lg_call (j := 236) (a := 99) (as := []) (S := [vI x]) F dl_906 (am_hw_in (z := (8, 166)) (by decide +kernel)) (by decide) rfl rfl (Or.inr ⟨_, rfl⟩) (by decide) (Nat.le_of_ble_eq_true rfl) (Nat.le_of_ble_eq_true rfl) (am_ok0) (by decide) e2 ?_
  exact lg_eq F dl_909 (by decide) (kk _ _ _ g)
theorem lc_18 (F : lw_fx p s m meth c D cy b0 L xs) (hk : k + 5 < L) (hG : GG w I Lg) (hok : am_okh (mkH w I Lg)) (kk : ∀ w I Lg, GG w I Lg → lw_G p l e s m below meth c Q D cy aS b0 k 1805 [] (mkH w I Lg)) : lw_G p l e s m below meth c Q D cy aS b0 k 914 [] (mkH w I Lg) := by
  obtain ⟨n1, r, h1, n2, w2, I2, L2, e1, e2, g⟩ := lg_pair (p_cheap (k := (xs (k + 1)).toInt)) hG
  obtain ⟨x, rfl⟩ := (am_run_ty _ _ 113 _ _ _ _ _ _ (by decide) e1 (am_okL_en (am_ok1 (show am_okv (vR (some 0)) from trivial) (am_ok1 (lx_in _) (am_ok0)))) am_ok0 hok).1 (Or.inl rfl)
  refine lg_x F dl_914 ?_
  refine lg_a 1 F hk (by decide) dl_915 dl_916 dl_918 dl_919 dl_920 ?_
  refine lg_call (j := 113) (a := 0) (as := [vI (xs (k + 1)).toInt]) (S := []) F dl_921 (am_hw_in (z := (4, 212)) (by decide +kernel)) (by decide) rfl rfl (Or.inr ⟨_, rfl⟩) (by decide) (Nat.le_of_ble_eq_true rfl) (Nat.le_of_ble_eq_true rfl) (am_ok1 (lx_in _) (am_ok0)) (by decide) e1 ?_
  refine lg_m F dl_924 ?_
  refine lg_a 1 F hk (by decide) dl_925 dl_926 dl_928 dl_929 dl_930 ?_
  refine lg_call (j := 239) (a := 99) (as := [vI (xs (k + 1)).toInt]) (S := [vI x]) F dl_931 (am_hw_in (z := (8, 174)) (by decide +kernel)) (by decide) rfl rfl (Or.inr ⟨_, rfl⟩) (by decide) (Nat.le_of_ble_eq_true rfl) (Nat.le_of_ble_eq_true rfl) (am_ok1 (lx_in _) (am_ok0)) (by decide) e2 ?_
  exact lg_eq F dl_934 (by decide) (kk _ _ _ g)
theorem lc_19 (F : lw_fx p s m meth c D cy b0 L xs) (hk : k + 5 < L) (hG : GG w I Lg) (hok : am_okh (mkH w I Lg)) (kk : ∀ w I Lg, GG w I Lg → lw_G p l e s m below meth c Q D cy aS b0 k 1805 [] (mkH w I Lg)) : lw_G p l e s m below meth c Q D cy aS b0 k 939 [] (mkH w I Lg) := by
  obtain ⟨n1, r, h1, n2, w2, I2, L2, e1, e2, g⟩ := lg_pair (p_few (k := (xs (k + 1)).toInt)) hG
  obtain ⟨x, rfl⟩ := (am_run_ty _ _ 114 _ _ _ _ _ _ (by decide) e1 (am_okL_en (am_ok1 (show am_okv (vR (some 0)) from trivial) (am_ok1 (lx_in _) (am_ok0)))) am_ok0 hok).1 (Or.inl rfl)
  refine lg_x F dl_939 ?_
  refine lg_a 1 F hk (by decide) dl_940 dl_941 dl_943 dl_944 dl_945 ?_
  refine lg_call (j := 114) (a := 0) (as := [vI (xs (k + 1)).toInt]) (S := []) F dl_946 (am_hw_in (z := (4, 231)) (by decide +kernel)) (by decide) rfl rfl (Or.inr ⟨_, rfl⟩) (by decide) (Nat.le_of_ble_eq_true rfl) (Nat.le_of_ble_eq_true rfl) (am_ok1 (lx_in _) (am_ok0)) (by decide) e1 ?_
  refine lg_m F dl_949 ?_
  refine lg_a 1 F hk (by decide) dl_950 dl_951 dl_953 dl_954 dl_955 ?_
  refine lg_call (j := 240) (a := 99) (as := [vI (xs (k + 1)).toInt]) (S := [vI x]) F dl_956 (am_hw_in (z := (8, 182)) (by decide +kernel)) (by decide) rfl rfl (Or.inr ⟨_, rfl⟩) (by decide) (Nat.le_of_ble_eq_true rfl) (Nat.le_of_ble_eq_true rfl) (am_ok1 (lx_in _) (am_ok0)) (by decide) e2 ?_
  exact lg_eq F dl_959 (by decide) (kk _ _ _ g)
theorem lc_20 (F : lw_fx p s m meth c D cy b0 L xs) (hk : k + 5 < L) (hG : GG w I Lg) (hok : am_okh (mkH w I Lg)) (kk : ∀ w I Lg, GG w I Lg → lw_G p l e s m below meth c Q D cy aS b0 k 1805 [] (mkH w I Lg)) : lw_G p l e s m below meth c Q D cy aS b0 k 964 [] (mkH w I Lg) := by
  obtain ⟨n1, r, h1, n2, w2, I2, L2, e1, e2, g⟩ := lg_pair (p_plan (t := (xs (k + 1)).toInt) (nn := (xs (k + 2)).toInt) (x := (xs (k + 3)).toInt)) hG
  obtain ⟨x, rfl⟩ := (am_run_ty _ _ 116 _ _ _ _ _ _ (by decide) e1 (am_okL_en (am_ok1 (show am_okv (vR (some 0)) from trivial) (am_ok1 (lx_in _) (am_ok1 (lx_in _) (am_ok1 (lx_in _) (am_ok0)))))) am_ok0 hok).1 (Or.inl rfl)
  refine lg_x F dl_964 ?_
  refine lg_a 1 F hk (by decide) dl_965 dl_966 dl_968 dl_969 dl_970 ?_
  refine lg_a 2 F hk (by decide) dl_971 dl_972 dl_974 dl_975 dl_976 ?_
  refine lg_a 3 F hk (by decide) dl_977 dl_978 dl_980 dl_981 dl_982 ?_
  refine lg_call (j := 116) (a := 0) (as := [vI (xs (k + 1)).toInt, vI (xs (k + 2)).toInt, vI (xs (k + 3)).toInt]) (S := []) F dl_983 (am_hw_in (z := (4, 239)) (by decide +kernel)) (by decide) rfl rfl (Or.inr ⟨_, rfl⟩) (by decide) (Nat.le_of_ble_eq_true rfl) (Nat.le_of_ble_eq_true rfl) (am_ok1 (lx_in _) (am_ok1 (lx_in _) (am_ok1 (lx_in _) (am_ok0)))) (by decide) e1 ?_
  refine lg_m F dl_986 ?_
  refine lg_a 1 F hk (by decide) dl_987 dl_988 dl_990 dl_991 dl_992 ?_
  refine lg_a 2 F hk (by decide) dl_993 dl_994 dl_996 dl_997 dl_998 ?_
  refine lg_a 3 F hk (by decide) dl_999 dl_1000 dl_1002 dl_1003 dl_1004 ?_
  refine lg_call (j := 243) (a := 99) (as := [vI (xs (k + 1)).toInt, vI (xs (k + 2)).toInt, vI (xs (k + 3)).toInt]) (S := [vI x]) F dl_1005 (am_hw_in (z := (8, 190)) (by decide +kernel)) (by decide) rfl rfl (Or.inr ⟨_, rfl⟩) (by decide) (Nat.le_of_ble_eq_true rfl) (Nat.le_of_ble_eq_true rfl) (am_ok1 (lx_in _) (am_ok1 (lx_in _) (am_ok1 (lx_in _) (am_ok0)))) (by decide) e2 ?_
  exact lg_eq F dl_1008 (by decide) (kk _ _ _ g)
theorem lc_21 (F : lw_fx p s m meth c D cy b0 L xs) (hk : k + 5 < L) (hG : GG w I Lg) (hok : am_okh (mkH w I Lg)) (kk : ∀ w I Lg, GG w I Lg → lw_G p l e s m below meth c Q D cy aS b0 k 1805 [] (mkH w I Lg)) : lw_G p l e s m below meth c Q D cy aS b0 k 1013 [] (mkH w I Lg) := by
  obtain ⟨n1, r, h1, n2, w2, I2, L2, e1, e2, g⟩ := lg_pair (p_sign) hG
  obtain ⟨x, rfl⟩ := (am_run_ty _ _ 118 _ _ _ _ _ _ (by decide) e1 (am_okL_en (am_ok1 (show am_okv (vR (some 0)) from trivial) (am_ok0))) am_ok0 hok).1 (Or.inl rfl)
  refine lg_x F dl_1013 ?_
  refine lg_call (j := 118) (a := 0) (as := []) (S := []) F dl_1014 (am_hw_in (z := (5, 25)) (by decide +kernel)) (by decide) rfl rfl (Or.inr ⟨_, rfl⟩) (by decide) (Nat.le_of_ble_eq_true rfl) (Nat.le_of_ble_eq_true rfl) (am_ok0) (by decide) e1 ?_
  refine lg_m F dl_1017 ?_
  refine lg_call (j := 244) (a := 99) (as := []) (S := [vI x]) F dl_1018 (am_hw_in (z := (8, 198)) (by decide +kernel)) (by decide) rfl rfl (Or.inr ⟨_, rfl⟩) (by decide) (Nat.le_of_ble_eq_true rfl) (Nat.le_of_ble_eq_true rfl) (am_ok0) (by decide) e2 ?_
  exact lg_eq F dl_1021 (by decide) (kk _ _ _ g)
theorem lc_22 (F : lw_fx p s m meth c D cy b0 L xs) (hk : k + 5 < L) (hG : GG w I Lg) (hok : am_okh (mkH w I Lg)) (kk : ∀ w I Lg, GG w I Lg → lw_G p l e s m below meth c Q D cy aS b0 k 1805 [] (mkH w I Lg)) : lw_G p l e s m below meth c Q D cy aS b0 k 1026 [] (mkH w I Lg) := by
  obtain ⟨n1, r, h1, n2, w2, I2, L2, e1, e2, g⟩ := lg_pair (p_tells) hG
  obtain ⟨x, rfl⟩ := (am_run_ty _ _ 119 _ _ _ _ _ _ (by decide) e1 (am_okL_en (am_ok1 (show am_okv (vR (some 0)) from trivial) (am_ok0))) am_ok0 hok).1 (Or.inl rfl)
  refine lg_x F dl_1026 ?_
  refine lg_call (j := 119) (a := 0) (as := []) (S := []) F dl_1027 (am_hw_in (z := (5, 33)) (by decide +kernel)) (by decide) rfl rfl (Or.inr ⟨_, rfl⟩) (by decide) (Nat.le_of_ble_eq_true rfl) (Nat.le_of_ble_eq_true rfl) (am_ok0) (by decide) e1 ?_
  refine lg_m F dl_1030 ?_
  refine lg_call (j := 245) (a := 99) (as := []) (S := [vI x]) F dl_1031 (am_hw_in (z := (8, 202)) (by decide +kernel)) (by decide) rfl rfl (Or.inr ⟨_, rfl⟩) (by decide) (Nat.le_of_ble_eq_true rfl) (Nat.le_of_ble_eq_true rfl) (am_ok0) (by decide) e2 ?_
  exact lg_eq F dl_1034 (by decide) (kk _ _ _ g)
theorem lc_23 (F : lw_fx p s m meth c D cy b0 L xs) (hk : k + 5 < L) (hG : GG w I Lg) (hok : am_okh (mkH w I Lg)) (kk : ∀ w I Lg, GG w I Lg → lw_G p l e s m below meth c Q D cy aS b0 k 1805 [] (mkH w I Lg)) : lw_G p l e s m below meth c Q D cy aS b0 k 1039 [] (mkH w I Lg) := by
  obtain ⟨n1, r, h1, n2, w2, I2, L2, e1, e2, g⟩ := lg_pair (p_wanted (a := (xs (k + 1)).toInt)) hG
  obtain ⟨x, rfl⟩ := (am_run_ty _ _ 120 _ _ _ _ _ _ (by decide) e1 (am_okL_en (am_ok1 (show am_okv (vR (some 0)) from trivial) (am_ok1 (lx_in _) (am_ok0)))) am_ok0 hok).1 (Or.inl rfl)
  refine lg_x F dl_1039 ?_
  refine lg_a 1 F hk (by decide) dl_1040 dl_1041 dl_1043 dl_1044 dl_1045 ?_
  refine lg_call (j := 120) (a := 0) (as := [vI (xs (k + 1)).toInt]) (S := []) F dl_1046 (am_hw_in (z := (5, 37)) (by decide +kernel)) (by decide) rfl rfl (Or.inr ⟨_, rfl⟩) (by decide) (Nat.le_of_ble_eq_true rfl) (Nat.le_of_ble_eq_true rfl) (am_ok1 (lx_in _) (am_ok0)) (by decide) e1 ?_
  refine lg_m F dl_1049 ?_
  refine lg_a 1 F hk (by decide) dl_1050 dl_1051 dl_1053 dl_1054 dl_1055 ?_
  refine lg_call (j := 246) (a := 99) (as := [vI (xs (k + 1)).toInt]) (S := [vI x]) F dl_1056 (am_hw_in (z := (8, 206)) (by decide +kernel)) (by decide) rfl rfl (Or.inr ⟨_, rfl⟩) (by decide) (Nat.le_of_ble_eq_true rfl) (Nat.le_of_ble_eq_true rfl) (am_ok1 (lx_in _) (am_ok0)) (by decide) e2 ?_
  exact lg_eq F dl_1059 (by decide) (kk _ _ _ g)
theorem lc_24 (F : lw_fx p s m meth c D cy b0 L xs) (hk : k + 5 < L) (hG : GG w I Lg) (hok : am_okh (mkH w I Lg)) (kk : ∀ w I Lg, GG w I Lg → lw_G p l e s m below meth c Q D cy aS b0 k 1805 [] (mkH w I Lg)) : lw_G p l e s m below meth c Q D cy aS b0 k 1064 [] (mkH w I Lg) := by
  obtain ⟨n1, r, h1, n2, w2, I2, L2, e1, e2, g⟩ := lg_pair (p_best (a := (xs (k + 1)).toInt)) hG
  obtain ⟨x, rfl⟩ := (am_run_ty _ _ 121 _ _ _ _ _ _ (by decide) e1 (am_okL_en (am_ok1 (show am_okv (vR (some 0)) from trivial) (am_ok1 (lx_in _) (am_ok0)))) am_ok0 hok).1 (Or.inl rfl)
  refine lg_x F dl_1064 ?_
  refine lg_a 1 F hk (by decide) dl_1065 dl_1066 dl_1068 dl_1069 dl_1070 ?_
  refine lg_call (j := 121) (a := 0) (as := [vI (xs (k + 1)).toInt]) (S := []) F dl_1071 (am_hw_in (z := (5, 41)) (by decide +kernel)) (by decide) rfl rfl (Or.inr ⟨_, rfl⟩) (by decide) (Nat.le_of_ble_eq_true rfl) (Nat.le_of_ble_eq_true rfl) (am_ok1 (lx_in _) (am_ok0)) (by decide) e1 ?_
  refine lg_m F dl_1074 ?_
  refine lg_a 1 F hk (by decide) dl_1075 dl_1076 dl_1078 dl_1079 dl_1080 ?_
  refine lg_call (j := 247) (a := 99) (as := [vI (xs (k + 1)).toInt]) (S := [vI x]) F dl_1081 (am_hw_in (z := (8, 210)) (by decide +kernel)) (by decide) rfl rfl (Or.inr ⟨_, rfl⟩) (by decide) (Nat.le_of_ble_eq_true rfl) (Nat.le_of_ble_eq_true rfl) (am_ok1 (lx_in _) (am_ok0)) (by decide) e2 ?_
  exact lg_eq F dl_1084 (by decide) (kk _ _ _ g)
theorem lc_25 (F : lw_fx p s m meth c D cy b0 L xs) (hk : k + 5 < L) (hG : GG w I Lg) (hok : am_okh (mkH w I Lg)) (kk : ∀ w I Lg, GG w I Lg → lw_G p l e s m below meth c Q D cy aS b0 k 1805 [] (mkH w I Lg)) : lw_G p l e s m below meth c Q D cy aS b0 k 1089 [] (mkH w I Lg) := by
  obtain ⟨n1, r, h1, n2, w2, I2, L2, e1, e2, g⟩ := lg_pair (p_rests) hG
  obtain ⟨x, rfl⟩ := (am_run_ty _ _ 122 _ _ _ _ _ _ (by decide) e1 (am_okL_en (am_ok1 (show am_okv (vR (some 0)) from trivial) (am_ok0))) am_ok0 hok).1 (Or.inl rfl)
  refine lg_x F dl_1089 ?_
  refine lg_call (j := 122) (a := 0) (as := []) (S := []) F dl_1090 (am_hw_in (z := (5, 45)) (by decide +kernel)) (by decide) rfl rfl (Or.inr ⟨_, rfl⟩) (by decide) (Nat.le_of_ble_eq_true rfl) (Nat.le_of_ble_eq_true rfl) (am_ok0) (by decide) e1 ?_
  refine lg_m F dl_1093 ?_
  refine lg_call (j := 250) (a := 99) (as := []) (S := [vI x]) F dl_1094 (am_hw_in (z := (8, 214)) (by decide +kernel)) (by decide) rfl rfl (Or.inr ⟨_, rfl⟩) (by decide) (Nat.le_of_ble_eq_true rfl) (Nat.le_of_ble_eq_true rfl) (am_ok0) (by decide) e2 ?_
  exact lg_eq F dl_1097 (by decide) (kk _ _ _ g)
theorem lc_26 (F : lw_fx p s m meth c D cy b0 L xs) (hk : k + 5 < L) (hG : GG w I Lg) (hok : am_okh (mkH w I Lg)) (kk : ∀ w I Lg, GG w I Lg → lw_G p l e s m below meth c Q D cy aS b0 k 1805 [] (mkH w I Lg)) : lw_G p l e s m below meth c Q D cy aS b0 k 1102 [] (mkH w I Lg) := by
  obtain ⟨n1, r, h1, n2, w2, I2, L2, e1, e2, g⟩ := lg_pair (p_rest (a := (xs (k + 1)).toInt)) hG
  obtain ⟨x, rfl⟩ := (am_run_ty _ _ 123 _ _ _ _ _ _ (by decide) e1 (am_okL_en (am_ok1 (show am_okv (vR (some 0)) from trivial) (am_ok1 (lx_in _) (am_ok0)))) am_ok0 hok).1 (Or.inl rfl)
  refine lg_x F dl_1102 ?_
  refine lg_a 1 F hk (by decide) dl_1103 dl_1104 dl_1106 dl_1107 dl_1108 ?_
  refine lg_call (j := 123) (a := 0) (as := [vI (xs (k + 1)).toInt]) (S := []) F dl_1109 (am_hw_in (z := (5, 58)) (by decide +kernel)) (by decide) rfl rfl (Or.inr ⟨_, rfl⟩) (by decide) (Nat.le_of_ble_eq_true rfl) (Nat.le_of_ble_eq_true rfl) (am_ok1 (lx_in _) (am_ok0)) (by decide) e1 ?_
  refine lg_m F dl_1112 ?_
  refine lg_a 1 F hk (by decide) dl_1113 dl_1114 dl_1116 dl_1117 dl_1118 ?_
  refine lg_call (j := 251) (a := 99) (as := [vI (xs (k + 1)).toInt]) (S := [vI x]) F dl_1119 (am_hw_in (z := (8, 226)) (by decide +kernel)) (by decide) rfl rfl (Or.inr ⟨_, rfl⟩) (by decide) (Nat.le_of_ble_eq_true rfl) (Nat.le_of_ble_eq_true rfl) (am_ok1 (lx_in _) (am_ok0)) (by decide) e2 ?_
  exact lg_eq F dl_1122 (by decide) (kk _ _ _ g)
theorem lc_27 (F : lw_fx p s m meth c D cy b0 L xs) (hk : k + 5 < L) (hG : GG w I Lg) (hok : am_okh (mkH w I Lg)) (kk : ∀ w I Lg, GG w I Lg → lw_G p l e s m below meth c Q D cy aS b0 k 1805 [] (mkH w I Lg)) : lw_G p l e s m below meth c Q D cy aS b0 k 1127 [] (mkH w I Lg) := by
  obtain ⟨n1, r, h1, n2, w2, I2, L2, e1, e2, g⟩ := lg_pair (p_sure (a := (xs (k + 1)).toInt) (b := (xs (k + 2)).toInt) (c := (xs (k + 3)).toInt)) hG
  obtain ⟨x, rfl⟩ := (am_run_ty _ _ 126 _ _ _ _ _ _ (by decide) e1 (am_okL_en (am_ok1 (show am_okv (vR (some 0)) from trivial) (am_ok1 (lx_in _) (am_ok1 (lx_in _) (am_ok1 (lx_in _) (am_ok0)))))) am_ok0 hok).2 rfl
  refine lg_x F dl_1127 ?_
  refine lg_a 1 F hk (by decide) dl_1128 dl_1129 dl_1131 dl_1132 dl_1133 ?_
  refine lg_a 2 F hk (by decide) dl_1134 dl_1135 dl_1137 dl_1138 dl_1139 ?_
  refine lg_a 3 F hk (by decide) dl_1140 dl_1141 dl_1143 dl_1144 dl_1145 ?_
  refine lg_call (j := 126) (a := 0) (as := [vI (xs (k + 1)).toInt, vI (xs (k + 2)).toInt, vI (xs (k + 3)).toInt]) (S := []) F dl_1146 (am_hw_in (z := (5, 62)) (by decide +kernel)) (by decide) rfl rfl (Or.inr ⟨_, rfl⟩) (by decide) (Nat.le_of_ble_eq_true rfl) (Nat.le_of_ble_eq_true rfl) (am_ok1 (lx_in _) (am_ok1 (lx_in _) (am_ok1 (lx_in _) (am_ok0)))) (by decide) e1 ?_
  refine lg_m F dl_1149 ?_
  refine lg_a 1 F hk (by decide) dl_1150 dl_1151 dl_1153 dl_1154 dl_1155 ?_
  refine lg_a 2 F hk (by decide) dl_1156 dl_1157 dl_1159 dl_1160 dl_1161 ?_
  refine lg_a 3 F hk (by decide) dl_1162 dl_1163 dl_1165 dl_1166 dl_1167 ?_
  refine lg_call (j := 253) (a := 99) (as := [vI (xs (k + 1)).toInt, vI (xs (k + 2)).toInt, vI (xs (k + 3)).toInt]) (S := [vL x]) F dl_1168 (am_hw_in (z := (8, 230)) (by decide +kernel)) (by decide) rfl rfl (Or.inr ⟨_, rfl⟩) (by decide) (Nat.le_of_ble_eq_true rfl) (Nat.le_of_ble_eq_true rfl) (am_ok1 (lx_in _) (am_ok1 (lx_in _) (am_ok1 (lx_in _) (am_ok0)))) (by decide) e2 ?_
  exact lg_eql F dl_1171 dl_1172 (by decide) (kk _ _ _ g)
theorem lc_28 (F : lw_fx p s m meth c D cy b0 L xs) (hk : k + 5 < L) (hG : GG w I Lg) (hok : am_okh (mkH w I Lg)) (kk : ∀ w I Lg, GG w I Lg → lw_G p l e s m below meth c Q D cy aS b0 k 1805 [] (mkH w I Lg)) : lw_G p l e s m below meth c Q D cy aS b0 k 1177 [] (mkH w I Lg) := by
  obtain ⟨n1, r, h1, n2, w2, I2, L2, e1, e2, g⟩ := lg_pair (p_happier) hG
  obtain ⟨x, rfl⟩ := (am_run_ty _ _ 128 _ _ _ _ _ _ (by decide) e1 (am_okL_en (am_ok1 (show am_okv (vR (some 0)) from trivial) (am_ok0))) am_ok0 hok).1 (Or.inl rfl)
  refine lg_x F dl_1177 ?_
  refine lg_call (j := 128) (a := 0) (as := []) (S := []) F dl_1178 (am_hw_in (z := (5, 72)) (by decide +kernel)) (by decide) rfl rfl (Or.inr ⟨_, rfl⟩) (by decide) (Nat.le_of_ble_eq_true rfl) (Nat.le_of_ble_eq_true rfl) (am_ok0) (by decide) e1 ?_
  refine lg_m F dl_1181 ?_
  refine lg_call (j := 254) (a := 99) (as := []) (S := [vI x]) F dl_1182 (am_hw_in (z := (8, 239)) (by decide +kernel)) (by decide) rfl rfl (Or.inr ⟨_, rfl⟩) (by decide) (Nat.le_of_ble_eq_true rfl) (Nat.le_of_ble_eq_true rfl) (am_ok0) (by decide) e2 ?_
  exact lg_eq F dl_1185 (by decide) (kk _ _ _ g)
theorem lc_29 (F : lw_fx p s m meth c D cy b0 L xs) (hk : k + 5 < L) (hG : GG w I Lg) (hok : am_okh (mkH w I Lg)) (kk : ∀ w I Lg, GG w I Lg → lw_G p l e s m below meth c Q D cy aS b0 k 1805 [] (mkH w I Lg)) : lw_G p l e s m below meth c Q D cy aS b0 k 1190 [] (mkH w I Lg) := by
  obtain ⟨n1, r, h1, n2, w2, I2, L2, e1, e2, g⟩ := lg_pair (p_alone (k := (xs (k + 1)).toInt) (t := (xs (k + 2)).toInt)) hG
  obtain ⟨x, rfl⟩ := (am_run_ty _ _ 115 _ _ _ _ _ _ (by decide) e1 (am_okL_en (am_ok1 (show am_okv (vR (some 0)) from trivial) (am_ok1 (lx_in _) (am_ok1 (lx_in _) (am_ok0))))) am_ok0 hok).1 (Or.inl rfl)
  refine lg_x F dl_1190 ?_
  refine lg_a 1 F hk (by decide) dl_1191 dl_1192 dl_1194 dl_1195 dl_1196 ?_
  refine lg_a 2 F hk (by decide) dl_1197 dl_1198 dl_1200 dl_1201 dl_1202 ?_
  refine lg_call (j := 115) (a := 0) (as := [vI (xs (k + 1)).toInt, vI (xs (k + 2)).toInt]) (S := []) F dl_1203 (am_hw_in (z := (4, 235)) (by decide +kernel)) (by decide) rfl rfl (Or.inr ⟨_, rfl⟩) (by decide) (Nat.le_of_ble_eq_true rfl) (Nat.le_of_ble_eq_true rfl) (am_ok1 (lx_in _) (am_ok1 (lx_in _) (am_ok0))) (by decide) e1 ?_
  refine lg_m F dl_1206 ?_
  refine lg_a 1 F hk (by decide) dl_1207 dl_1208 dl_1210 dl_1211 dl_1212 ?_
  refine lg_a 2 F hk (by decide) dl_1213 dl_1214 dl_1216 dl_1217 dl_1218 ?_
  refine lg_call (j := 241) (a := 99) (as := [vI (xs (k + 1)).toInt, vI (xs (k + 2)).toInt]) (S := [vI x]) F dl_1219 (am_hw_in (z := (8, 186)) (by decide +kernel)) (by decide) rfl rfl (Or.inr ⟨_, rfl⟩) (by decide) (Nat.le_of_ble_eq_true rfl) (Nat.le_of_ble_eq_true rfl) (am_ok1 (lx_in _) (am_ok1 (lx_in _) (am_ok0))) (by decide) e2 ?_
  exact lg_eq F dl_1222 (by decide) (kk _ _ _ g)
theorem lc_30 (F : lw_fx p s m meth c D cy b0 L xs) (hk : k + 5 < L) (hG : GG w I Lg) (hok : am_okh (mkH w I Lg)) (kk : ∀ w I Lg, GG w I Lg → lw_G p l e s m below meth c Q D cy aS b0 k 1805 [] (mkH w I Lg)) : lw_G p l e s m below meth c Q D cy aS b0 k 1227 [] (mkH w I Lg) := by
  obtain ⟨n1, r, h1, n2, w2, I2, L2, e1, e2, g⟩ := lg_pair (p_mean (a := (xs (k + 1)).toInt) (b := (xs (k + 2)).toInt) (c := (xs (k + 3)).toInt) (e := (xs (k + 4)).toInt)) hG
  obtain ⟨x, rfl⟩ := (am_run_ty _ _ 129 _ _ _ _ _ _ (by decide) e1 (am_okL_en (am_ok1 (show am_okv (vR (some 0)) from trivial) (am_ok1 (lx_in _) (am_ok1 (lx_in _) (am_ok1 (lx_in _) (am_ok1 (lx_in _) (am_ok0))))))) am_ok0 hok).1 (Or.inl rfl)
  refine lg_x F dl_1227 ?_
  refine lg_a 1 F hk (by decide) dl_1228 dl_1229 dl_1231 dl_1232 dl_1233 ?_
  refine lg_a 2 F hk (by decide) dl_1234 dl_1235 dl_1237 dl_1238 dl_1239 ?_
  refine lg_a 3 F hk (by decide) dl_1240 dl_1241 dl_1243 dl_1244 dl_1245 ?_
  refine lg_a 4 F hk (by decide) dl_1246 dl_1247 dl_1249 dl_1250 dl_1251 ?_
  refine lg_call (j := 129) (a := 0) (as := [vI (xs (k + 1)).toInt, vI (xs (k + 2)).toInt, vI (xs (k + 3)).toInt, vI (xs (k + 4)).toInt]) (S := []) F dl_1252 (am_hw_in (z := (5, 76)) (by decide +kernel)) (by decide) rfl rfl (Or.inr ⟨_, rfl⟩) (by decide) (Nat.le_of_ble_eq_true rfl) (Nat.le_of_ble_eq_true rfl) (am_ok1 (lx_in _) (am_ok1 (lx_in _) (am_ok1 (lx_in _) (am_ok1 (lx_in _) (am_ok0))))) (by decide) e1 ?_
  refine lg_m F dl_1255 ?_
  refine lg_a 1 F hk (by decide) dl_1256 dl_1257 dl_1259 dl_1260 dl_1261 ?_
  refine lg_a 2 F hk (by decide) dl_1262 dl_1263 dl_1265 dl_1266 dl_1267 ?_
  refine lg_a 3 F hk (by decide) dl_1268 dl_1269 dl_1271 dl_1272 dl_1273 ?_
  refine lg_a 4 F hk (by decide) dl_1274 dl_1275 dl_1277 dl_1278 dl_1279 ?_
  refine lg_call (j := 255) (a := 99) (as := [vI (xs (k + 1)).toInt, vI (xs (k + 2)).toInt, vI (xs (k + 3)).toInt, vI (xs (k + 4)).toInt]) (S := [vI x]) F dl_1280 (am_hw_in (z := (9, 3)) (by decide +kernel)) (by decide) rfl rfl (Or.inr ⟨_, rfl⟩) (by decide) (Nat.le_of_ble_eq_true rfl) (Nat.le_of_ble_eq_true rfl) (am_ok1 (lx_in _) (am_ok1 (lx_in _) (am_ok1 (lx_in _) (am_ok1 (lx_in _) (am_ok0))))) (by decide) e2 ?_
  exact lg_eq F dl_1283 (by decide) (kk _ _ _ g)
theorem lc_31 (F : lw_fx p s m meth c D cy b0 L xs) (hk : k + 5 < L) (hG : GG w I Lg) (hok : am_okh (mkH w I Lg)) (kk : ∀ w I Lg, GG w I Lg → lw_G p l e s m below meth c Q D cy aS b0 k 1805 [] (mkH w I Lg)) : lw_G p l e s m below meth c Q D cy aS b0 k 1288 [] (mkH w I Lg) := by
  obtain ⟨n1, r, h1, n2, w2, I2, L2, e1, e2, g⟩ := lg_pair (p_nearest (a := (xs (k + 1)).toInt) (b := (xs (k + 2)).toInt)) hG
  obtain ⟨x, rfl⟩ := (am_run_ty _ _ 131 _ _ _ _ _ _ (by decide) e1 (am_okL_en (am_ok1 (show am_okv (vR (some 0)) from trivial) (am_ok1 (lx_in _) (am_ok1 (lx_in _) (am_ok0))))) am_ok0 hok).1 (Or.inl rfl)
  refine lg_x F dl_1288 ?_
  refine lg_a 1 F hk (by decide) dl_1289 dl_1290 dl_1292 dl_1293 dl_1294 ?_
  refine lg_a 2 F hk (by decide) dl_1295 dl_1296 dl_1298 dl_1299 dl_1300 ?_
  refine lg_call (j := 131) (a := 0) (as := [vI (xs (k + 1)).toInt, vI (xs (k + 2)).toInt]) (S := []) F dl_1301 (am_hw_in (z := (5, 84)) (by decide +kernel)) (by decide) rfl rfl (Or.inr ⟨_, rfl⟩) (by decide) (Nat.le_of_ble_eq_true rfl) (Nat.le_of_ble_eq_true rfl) (am_ok1 (lx_in _) (am_ok1 (lx_in _) (am_ok0))) (by decide) e1 ?_
  refine lg_m F dl_1304 ?_
  refine lg_a 1 F hk (by decide) dl_1305 dl_1306 dl_1308 dl_1309 dl_1310 ?_
  refine lg_a 2 F hk (by decide) dl_1311 dl_1312 dl_1314 dl_1315 dl_1316 ?_
  refine lg_call (j := 237) (a := 99) (as := [vI (xs (k + 1)).toInt, vI (xs (k + 2)).toInt]) (S := [vI x]) F dl_1317 (am_hw_in (z := (8, 170)) (by decide +kernel)) (by decide) rfl rfl (Or.inr ⟨_, rfl⟩) (by decide) (Nat.le_of_ble_eq_true rfl) (Nat.le_of_ble_eq_true rfl) (am_ok1 (lx_in _) (am_ok1 (lx_in _) (am_ok0))) (by decide) e2 ?_
  exact lg_eq F dl_1320 (by decide) (kk _ _ _ g)
theorem lc_32 (F : lw_fx p s m meth c D cy b0 L xs) (hk : k + 5 < L) (hG : GG w I Lg) (hok : am_okh (mkH w I Lg)) (kk : ∀ w I Lg, GG w I Lg → lw_G p l e s m below meth c Q D cy aS b0 k 1805 [] (mkH w I Lg)) : lw_G p l e s m below meth c Q D cy aS b0 k 1325 [] (mkH w I Lg) := by
  obtain ⟨n1, r, h1, n2, w2, I2, L2, e1, e2, g⟩ := lg_pair (p_payers (a := (xs (k + 1)).toInt)) hG
  obtain ⟨x, rfl⟩ := (am_run_ty _ _ 132 _ _ _ _ _ _ (by decide) e1 (am_okL_en (am_ok1 (show am_okv (vR (some 0)) from trivial) (am_ok1 (lx_in _) (am_ok0)))) am_ok0 hok).1 (Or.inl rfl)
  refine lg_x F dl_1325 ?_
  refine lg_a 1 F hk (by decide) dl_1326 dl_1327 dl_1329 dl_1330 dl_1331 ?_
  refine lg_call (j := 132) (a := 0) (as := [vI (xs (k + 1)).toInt]) (S := []) F dl_1332 (am_hw_in (z := (5, 88)) (by decide +kernel)) (by decide) rfl rfl (Or.inr ⟨_, rfl⟩) (by decide) (Nat.le_of_ble_eq_true rfl) (Nat.le_of_ble_eq_true rfl) (am_ok1 (lx_in _) (am_ok0)) (by decide) e1 ?_
  refine lg_m F dl_1335 ?_
  refine lg_a 1 F hk (by decide) dl_1336 dl_1337 dl_1339 dl_1340 dl_1341 ?_
  refine lg_call (j := 256) (a := 99) (as := [vI (xs (k + 1)).toInt]) (S := [vI x]) F dl_1342 (am_hw_in (z := (9, 7)) (by decide +kernel)) (by decide) rfl rfl (Or.inr ⟨_, rfl⟩) (by decide) (Nat.le_of_ble_eq_true rfl) (Nat.le_of_ble_eq_true rfl) (am_ok1 (lx_in _) (am_ok0)) (by decide) e2 ?_
  exact lg_eq F dl_1345 (by decide) (kk _ _ _ g)
theorem lc_33 (F : lw_fx p s m meth c D cy b0 L xs) (hk : k + 5 < L) (hG : GG w I Lg) (hok : am_okh (mkH w I Lg)) (kk : ∀ w I Lg, GG w I Lg → lw_G p l e s m below meth c Q D cy aS b0 k 1805 [] (mkH w I Lg)) : lw_G p l e s m below meth c Q D cy aS b0 k 1350 [] (mkH w I Lg) := by
  obtain ⟨n1, r, h1, n2, w2, I2, L2, e1, e2, g⟩ := lg_pair (p_healed (a := (xs (k + 1)).toInt)) hG
  obtain ⟨x, rfl⟩ := (am_run_ty _ _ 133 _ _ _ _ _ _ (by decide) e1 (am_okL_en (am_ok1 (show am_okv (vR (some 0)) from trivial) (am_ok1 (lx_in _) (am_ok0)))) am_ok0 hok).1 (Or.inl rfl)
  refine lg_x F dl_1350 ?_
  refine lg_a 1 F hk (by decide) dl_1351 dl_1352 dl_1354 dl_1355 dl_1356 ?_
  refine lg_call (j := 133) (a := 0) (as := [vI (xs (k + 1)).toInt]) (S := []) F dl_1357 (am_hw_in (z := (5, 92)) (by decide +kernel)) (by decide) rfl rfl (Or.inr ⟨_, rfl⟩) (by decide) (Nat.le_of_ble_eq_true rfl) (Nat.le_of_ble_eq_true rfl) (am_ok1 (lx_in _) (am_ok0)) (by decide) e1 ?_
  refine lg_m F dl_1360 ?_
  refine lg_a 1 F hk (by decide) dl_1361 dl_1362 dl_1364 dl_1365 dl_1366 ?_
  refine lg_call (j := 257) (a := 99) (as := [vI (xs (k + 1)).toInt]) (S := [vI x]) F dl_1367 (am_hw_in (z := (9, 11)) (by decide +kernel)) (by decide) rfl rfl (Or.inr ⟨_, rfl⟩) (by decide) (Nat.le_of_ble_eq_true rfl) (Nat.le_of_ble_eq_true rfl) (am_ok1 (lx_in _) (am_ok0)) (by decide) e2 ?_
  exact lg_eq F dl_1370 (by decide) (kk _ _ _ g)
theorem lc_34 (F : lw_fx p s m meth c D cy b0 L xs) (hk : k + 5 < L) (hG : GG w I Lg) (hok : am_okh (mkH w I Lg)) (kk : ∀ w I Lg, GG w I Lg → lw_G p l e s m below meth c Q D cy aS b0 k 1805 [] (mkH w I Lg)) : lw_G p l e s m below meth c Q D cy aS b0 k 1375 [] (mkH w I Lg) := by
  obtain ⟨n1, r, h1, n2, w2, I2, L2, e1, e2, g⟩ := lg_pair (p_due (a := (xs (k + 1)).toInt)) hG
  obtain ⟨x, rfl⟩ := (am_run_ty _ _ 134 _ _ _ _ _ _ (by decide) e1 (am_okL_en (am_ok1 (show am_okv (vR (some 0)) from trivial) (am_ok1 (lx_in _) (am_ok0)))) am_ok0 hok).1 (Or.inl rfl)
  refine lg_x F dl_1375 ?_
  refine lg_a 1 F hk (by decide) dl_1376 dl_1377 dl_1379 dl_1380 dl_1381 ?_
  refine lg_call (j := 134) (a := 0) (as := [vI (xs (k + 1)).toInt]) (S := []) F dl_1382 (am_hw_in (z := (5, 97)) (by decide +kernel)) (by decide) rfl rfl (Or.inr ⟨_, rfl⟩) (by decide) (Nat.le_of_ble_eq_true rfl) (Nat.le_of_ble_eq_true rfl) (am_ok1 (lx_in _) (am_ok0)) (by decide) e1 ?_
  refine lg_m F dl_1385 ?_
  refine lg_a 1 F hk (by decide) dl_1386 dl_1387 dl_1389 dl_1390 dl_1391 ?_
  refine lg_call (j := 258) (a := 99) (as := [vI (xs (k + 1)).toInt]) (S := [vI x]) F dl_1392 (am_hw_in (z := (9, 15)) (by decide +kernel)) (by decide) rfl rfl (Or.inr ⟨_, rfl⟩) (by decide) (Nat.le_of_ble_eq_true rfl) (Nat.le_of_ble_eq_true rfl) (am_ok1 (lx_in _) (am_ok0)) (by decide) e2 ?_
  exact lg_eq F dl_1395 (by decide) (kk _ _ _ g)
theorem lc_35 (F : lw_fx p s m meth c D cy b0 L xs) (hk : k + 5 < L) (hG : GG w I Lg) (hok : am_okh (mkH w I Lg)) (kk : ∀ w I Lg, GG w I Lg → lw_G p l e s m below meth c Q D cy aS b0 k 1805 [] (mkH w I Lg)) : lw_G p l e s m below meth c Q D cy aS b0 k 1400 [] (mkH w I Lg) := by
  obtain ⟨n1, r, h1, n2, w2, I2, L2, e1, e2, g⟩ := lg_pair (p_busiest) hG
  obtain ⟨x, rfl⟩ := (am_run_ty _ _ 135 _ _ _ _ _ _ (by decide) e1 (am_okL_en (am_ok1 (show am_okv (vR (some 0)) from trivial) (am_ok0))) am_ok0 hok).1 (Or.inl rfl)
  refine lg_x F dl_1400 ?_
  refine lg_call (j := 135) (a := 0) (as := []) (S := []) F dl_1401 (am_hw_in (z := (5, 101)) (by decide +kernel)) (by decide) rfl rfl (Or.inr ⟨_, rfl⟩) (by decide) (Nat.le_of_ble_eq_true rfl) (Nat.le_of_ble_eq_true rfl) (am_ok0) (by decide) e1 ?_
  refine lg_m F dl_1404 ?_
  refine lg_call (j := 259) (a := 99) (as := []) (S := [vI x]) F dl_1405 (am_hw_in (z := (9, 19)) (by decide +kernel)) (by decide) rfl rfl (Or.inr ⟨_, rfl⟩) (by decide) (Nat.le_of_ble_eq_true rfl) (Nat.le_of_ble_eq_true rfl) (am_ok0) (by decide) e2 ?_
  exact lg_eq F dl_1408 (by decide) (kk _ _ _ g)
theorem lc_36 (F : lw_fx p s m meth c D cy b0 L xs) (hk : k + 5 < L) (hG : GG w I Lg) (hok : am_okh (mkH w I Lg)) (kk : ∀ w I Lg, GG w I Lg → lw_G p l e s m below meth c Q D cy aS b0 k 1805 [] (mkH w I Lg)) : lw_G p l e s m below meth c Q D cy aS b0 k 1413 [] (mkH w I Lg) := by
  obtain ⟨n1, r, h1, n2, w2, I2, L2, e1, e2, g⟩ := lg_pair (p_note (k := (xs (k + 1)).toInt) (x := (xs (k + 2)).toInt) (e := (if (xs (k + 3)).toInt = 0 then 0 else 1)) lx_b) hG
  obtain ⟨x, rfl⟩ := (am_run_ty _ _ 137 _ _ _ _ _ _ (by decide) e1 (am_okL_en (am_ok1 (show am_okv (vR (some 0)) from trivial) (am_ok1 (lx_in _) (am_ok1 (lx_in _) (am_ok1 (lx_bin) (am_ok0)))))) am_ok0 hok).1 (Or.inl rfl)
  refine lg_x F dl_1413 ?_
  refine lg_a 1 F hk (by decide) dl_1414 dl_1415 dl_1417 dl_1418 dl_1419 ?_
  refine lg_a 2 F hk (by decide) dl_1420 dl_1421 dl_1423 dl_1424 dl_1425 ?_
  refine lg_a 3 F hk (by decide) dl_1426 dl_1427 dl_1429 dl_1430 dl_1431 ?_
  refine lg_b (lx_in _) F dl_1432 dl_1435 dl_1436 dl_1439 ?_
  refine lg_call (j := 137) (a := 0) (as := [vI (xs (k + 1)).toInt, vI (xs (k + 2)).toInt, vI (if (xs (k + 3)).toInt = 0 then 0 else 1)]) (S := []) F dl_1440 (am_hw_in (z := (5, 109)) (by decide +kernel)) (by decide) rfl rfl (Or.inr ⟨_, rfl⟩) (by decide) (Nat.le_of_ble_eq_true rfl) (Nat.le_of_ble_eq_true rfl) (am_ok1 (lx_in _) (am_ok1 (lx_in _) (am_ok1 (lx_bin) (am_ok0)))) (by decide) e1 ?_
  refine lg_m F dl_1443 ?_
  refine lg_a 1 F hk (by decide) dl_1444 dl_1445 dl_1447 dl_1448 dl_1449 ?_
  refine lg_a 2 F hk (by decide) dl_1450 dl_1451 dl_1453 dl_1454 dl_1455 ?_
  refine lg_a 3 F hk (by decide) dl_1456 dl_1457 dl_1459 dl_1460 dl_1461 ?_
  refine lg_b (lx_in _) F dl_1462 dl_1465 dl_1466 dl_1469 ?_
  refine lg_call (j := 261) (a := 99) (as := [vI (xs (k + 1)).toInt, vI (xs (k + 2)).toInt, vI (if (xs (k + 3)).toInt = 0 then 0 else 1)]) (S := [vI x]) F dl_1470 (am_hw_in (z := (9, 23)) (by decide +kernel)) (by decide) rfl rfl (Or.inr ⟨_, rfl⟩) (by decide) (Nat.le_of_ble_eq_true rfl) (Nat.le_of_ble_eq_true rfl) (am_ok1 (lx_in _) (am_ok1 (lx_in _) (am_ok1 (lx_bin) (am_ok0)))) (by decide) e2 ?_
  exact lg_eq F dl_1473 (by decide) (kk _ _ _ g)
theorem lc_37 (F : lw_fx p s m meth c D cy b0 L xs) (hk : k + 5 < L) (hG : GG w I Lg) (hok : am_okh (mkH w I Lg)) (kk : ∀ w I Lg, GG w I Lg → lw_G p l e s m below meth c Q D cy aS b0 k 1805 [] (mkH w I Lg)) : lw_G p l e s m below meth c Q D cy aS b0 k 1478 [] (mkH w I Lg) := by
  obtain ⟨n1, r, h1, n2, w2, I2, L2, e1, e2, g⟩ := lg_pair (p_see (y := (xs (k + 1)).toInt) (k := (xs (k + 2)).toInt) (x := (xs (k + 3)).toInt) (e := (if (xs (k + 4)).toInt = 0 then 0 else 1)) lx_b) hG
  obtain ⟨x, rfl⟩ := (am_run_ty _ _ 138 _ _ _ _ _ _ (by decide) e1 (am_okL_en (am_ok1 (show am_okv (vR (some 0)) from trivial) (am_ok1 (lx_in _) (am_ok1 (lx_in _) (am_ok1 (lx_in _) (am_ok1 (lx_bin) (am_ok0))))))) am_ok0 hok).1 (Or.inl rfl)
  refine lg_x F dl_1478 ?_
  refine lg_a 1 F hk (by decide) dl_1479 dl_1480 dl_1482 dl_1483 dl_1484 ?_
  refine lg_a 2 F hk (by decide) dl_1485 dl_1486 dl_1488 dl_1489 dl_1490 ?_
  refine lg_a 3 F hk (by decide) dl_1491 dl_1492 dl_1494 dl_1495 dl_1496 ?_
  refine lg_a 4 F hk (by decide) dl_1497 dl_1498 dl_1500 dl_1501 dl_1502 ?_
  refine lg_b (lx_in _) F dl_1503 dl_1506 dl_1507 dl_1510 ?_
  refine lg_call (j := 138) (a := 0) (as := [vI (xs (k + 1)).toInt, vI (xs (k + 2)).toInt, vI (xs (k + 3)).toInt, vI (if (xs (k + 4)).toInt = 0 then 0 else 1)]) (S := []) F dl_1511 (am_hw_in (z := (5, 117)) (by decide +kernel)) (by decide) rfl rfl (Or.inr ⟨_, rfl⟩) (by decide) (Nat.le_of_ble_eq_true rfl) (Nat.le_of_ble_eq_true rfl) (am_ok1 (lx_in _) (am_ok1 (lx_in _) (am_ok1 (lx_in _) (am_ok1 (lx_bin) (am_ok0))))) (by decide) e1 ?_
  refine lg_m F dl_1514 ?_
  refine lg_a 1 F hk (by decide) dl_1515 dl_1516 dl_1518 dl_1519 dl_1520 ?_
  refine lg_a 2 F hk (by decide) dl_1521 dl_1522 dl_1524 dl_1525 dl_1526 ?_
  refine lg_a 3 F hk (by decide) dl_1527 dl_1528 dl_1530 dl_1531 dl_1532 ?_
  refine lg_a 4 F hk (by decide) dl_1533 dl_1534 dl_1536 dl_1537 dl_1538 ?_
  refine lg_b (lx_in _) F dl_1539 dl_1542 dl_1543 dl_1546 ?_
  refine lg_call (j := 262) (a := 99) (as := [vI (xs (k + 1)).toInt, vI (xs (k + 2)).toInt, vI (xs (k + 3)).toInt, vI (if (xs (k + 4)).toInt = 0 then 0 else 1)]) (S := [vI x]) F dl_1547 (am_hw_in (z := (9, 31)) (by decide +kernel)) (by decide) rfl rfl (Or.inr ⟨_, rfl⟩) (by decide) (Nat.le_of_ble_eq_true rfl) (Nat.le_of_ble_eq_true rfl) (am_ok1 (lx_in _) (am_ok1 (lx_in _) (am_ok1 (lx_in _) (am_ok1 (lx_bin) (am_ok0))))) (by decide) e2 ?_
  exact lg_eq F dl_1550 (by decide) (kk _ _ _ g)
theorem lc_38 (F : lw_fx p s m meth c D cy b0 L xs) (hk : k + 5 < L) (hG : GG w I Lg) (hok : am_okh (mkH w I Lg)) (kk : ∀ w I Lg, GG w I Lg → lw_G p l e s m below meth c Q D cy aS b0 k 1805 [] (mkH w I Lg)) : lw_G p l e s m below meth c Q D cy aS b0 k 1555 [] (mkH w I Lg) := by
  obtain ⟨n1, r, h1, n2, w2, I2, L2, e1, e2, g⟩ := lg_pair (p_strike (x := (xs (k + 1)).toInt)) hG
  obtain ⟨x, rfl⟩ := (am_run_ty _ _ 139 _ _ _ _ _ _ (by decide) e1 (am_okL_en (am_ok1 (show am_okv (vR (some 0)) from trivial) (am_ok1 (lx_in _) (am_ok0)))) am_ok0 hok).1 (Or.inl rfl)
  refine lg_x F dl_1555 ?_
  refine lg_a 1 F hk (by decide) dl_1556 dl_1557 dl_1559 dl_1560 dl_1561 ?_
  refine lg_call (j := 139) (a := 0) (as := [vI (xs (k + 1)).toInt]) (S := []) F dl_1562 (am_hw_in (z := (5, 121)) (by decide +kernel)) (by decide) rfl rfl (Or.inr ⟨_, rfl⟩) (by decide) (Nat.le_of_ble_eq_true rfl) (Nat.le_of_ble_eq_true rfl) (am_ok1 (lx_in _) (am_ok0)) (by decide) e1 ?_
  refine lg_m F dl_1565 ?_
  refine lg_a 1 F hk (by decide) dl_1566 dl_1567 dl_1569 dl_1570 dl_1571 ?_
  refine lg_call (j := 263) (a := 99) (as := [vI (xs (k + 1)).toInt]) (S := [vI x]) F dl_1572 (am_hw_in (z := (9, 35)) (by decide +kernel)) (by decide) rfl rfl (Or.inr ⟨_, rfl⟩) (by decide) (Nat.le_of_ble_eq_true rfl) (Nat.le_of_ble_eq_true rfl) (am_ok1 (lx_in _) (am_ok0)) (by decide) e2 ?_
  exact lg_eq F dl_1575 (by decide) (kk _ _ _ g)
theorem lc_39 (F : lw_fx p s m meth c D cy b0 L xs) (hk : k + 5 < L) (hG : GG w I Lg) (hok : am_okh (mkH w I Lg)) (kk : ∀ w I Lg, GG w I Lg → lw_G p l e s m below meth c Q D cy aS b0 k 1805 [] (mkH w I Lg)) : lw_G p l e s m below meth c Q D cy aS b0 k 1580 [] (mkH w I Lg) := by
  obtain ⟨n1, r, h1, n2, w2, I2, L2, e1, e2, g⟩ := lg_pair (p_known (x := (xs (k + 1)).toInt)) hG
  obtain ⟨x, rfl⟩ := (am_run_ty _ _ 140 _ _ _ _ _ _ (by decide) e1 (am_okL_en (am_ok1 (show am_okv (vR (some 0)) from trivial) (am_ok1 (lx_in _) (am_ok0)))) am_ok0 hok).1 (Or.inr rfl)
  refine lg_x F dl_1580 ?_
  refine lg_a 1 F hk (by decide) dl_1581 dl_1582 dl_1584 dl_1585 dl_1586 ?_
  refine lg_call (j := 140) (a := 0) (as := [vI (xs (k + 1)).toInt]) (S := []) F dl_1587 (am_hw_in (z := (5, 125)) (by decide +kernel)) (by decide) rfl rfl (Or.inr ⟨_, rfl⟩) (by decide) (Nat.le_of_ble_eq_true rfl) (Nat.le_of_ble_eq_true rfl) (am_ok1 (lx_in _) (am_ok0)) (by decide) e1 ?_
  refine lg_m F dl_1590 ?_
  refine lg_a 1 F hk (by decide) dl_1591 dl_1592 dl_1594 dl_1595 dl_1596 ?_
  refine lg_call (j := 264) (a := 99) (as := [vI (xs (k + 1)).toInt]) (S := [vI x]) F dl_1597 (am_hw_in (z := (9, 39)) (by decide +kernel)) (by decide) rfl rfl (Or.inr ⟨_, rfl⟩) (by decide) (Nat.le_of_ble_eq_true rfl) (Nat.le_of_ble_eq_true rfl) (am_ok1 (lx_in _) (am_ok0)) (by decide) e2 ?_
  exact lg_eq F dl_1600 (by decide) (kk _ _ _ g)
theorem lc_40 (F : lw_fx p s m meth c D cy b0 L xs) (hk : k + 5 < L) (hG : GG w I Lg) (hok : am_okh (mkH w I Lg)) (kk : ∀ w I Lg, GG w I Lg → lw_G p l e s m below meth c Q D cy aS b0 k 1805 [] (mkH w I Lg)) : lw_G p l e s m below meth c Q D cy aS b0 k 1605 [] (mkH w I Lg) := by
  obtain ⟨n1, r, h1, n2, w2, I2, L2, e1, e2, g⟩ := lg_pair (p_who) hG
  obtain ⟨x, rfl⟩ := (am_run_ty _ _ 141 _ _ _ _ _ _ (by decide) e1 (am_okL_en (am_ok1 (show am_okv (vR (some 0)) from trivial) (am_ok0))) am_ok0 hok).1 (Or.inl rfl)
  refine lg_x F dl_1605 ?_
  refine lg_call (j := 141) (a := 0) (as := []) (S := []) F dl_1606 (am_hw_in (z := (5, 129)) (by decide +kernel)) (by decide) rfl rfl (Or.inr ⟨_, rfl⟩) (by decide) (Nat.le_of_ble_eq_true rfl) (Nat.le_of_ble_eq_true rfl) (am_ok0) (by decide) e1 ?_
  refine lg_m F dl_1609 ?_
  refine lg_call (j := 267) (a := 99) (as := []) (S := [vI x]) F dl_1610 (am_hw_in (z := (9, 43)) (by decide +kernel)) (by decide) rfl rfl (Or.inr ⟨_, rfl⟩) (by decide) (Nat.le_of_ble_eq_true rfl) (Nat.le_of_ble_eq_true rfl) (am_ok0) (by decide) e2 ?_
  exact lg_eq F dl_1613 (by decide) (kk _ _ _ g)
theorem lc_41 (F : lw_fx p s m meth c D cy b0 L xs) (hk : k + 5 < L) (hG : GG w I Lg) (hok : am_okh (mkH w I Lg)) (kk : ∀ w I Lg, GG w I Lg → lw_G p l e s m below meth c Q D cy aS b0 k 1805 [] (mkH w I Lg)) : lw_G p l e s m below meth c Q D cy aS b0 k 1618 [] (mkH w I Lg) := by
  obtain ⟨n1, r, h1, n2, w2, I2, L2, e1, e2, g⟩ := lg_pair (p_healings (k := (xs (k + 1)).toInt)) hG
  obtain ⟨x, rfl⟩ := (am_run_ty _ _ 142 _ _ _ _ _ _ (by decide) e1 (am_okL_en (am_ok1 (show am_okv (vR (some 0)) from trivial) (am_ok1 (lx_in _) (am_ok0)))) am_ok0 hok).1 (Or.inl rfl)
  refine lg_x F dl_1618 ?_
  refine lg_a 1 F hk (by decide) dl_1619 dl_1620 dl_1622 dl_1623 dl_1624 ?_
  refine lg_call (j := 142) (a := 0) (as := [vI (xs (k + 1)).toInt]) (S := []) F dl_1625 (am_hw_in (z := (5, 151)) (by decide +kernel)) (by decide) rfl rfl (Or.inr ⟨_, rfl⟩) (by decide) (Nat.le_of_ble_eq_true rfl) (Nat.le_of_ble_eq_true rfl) (am_ok1 (lx_in _) (am_ok0)) (by decide) e1 ?_
  refine lg_m F dl_1628 ?_
  refine lg_a 1 F hk (by decide) dl_1629 dl_1630 dl_1632 dl_1633 dl_1634 ?_
  refine lg_call (j := 270) (a := 99) (as := [vI (xs (k + 1)).toInt]) (S := [vI x]) F dl_1635 (am_hw_in (z := (9, 55)) (by decide +kernel)) (by decide) rfl rfl (Or.inr ⟨_, rfl⟩) (by decide) (Nat.le_of_ble_eq_true rfl) (Nat.le_of_ble_eq_true rfl) (am_ok1 (lx_in _) (am_ok0)) (by decide) e2 ?_
  exact lg_eq F dl_1638 (by decide) (kk _ _ _ g)
theorem lc_42 (F : lw_fx p s m meth c D cy b0 L xs) (hk : k + 5 < L) (hG : GG w I Lg) (hok : am_okh (mkH w I Lg)) (kk : ∀ w I Lg, GG w I Lg → lw_G p l e s m below meth c Q D cy aS b0 k 1805 [] (mkH w I Lg)) : lw_G p l e s m below meth c Q D cy aS b0 k 1643 [] (mkH w I Lg) := by
  obtain ⟨n1, r, h1, n2, w2, I2, L2, e1, e2, g⟩ := lg_pair (p_chance (a := (xs (k + 1)).toInt) (b := (xs (k + 2)).toInt) (c := (xs (k + 3)).toInt) (by have := lx_in (xs (k + 1)); unfold am_in at this; omega)) hG
  obtain ⟨x, rfl⟩ := (am_run_ty _ _ 144 _ _ _ _ _ _ (by decide) e1 (am_okL_en (am_ok1 (show am_okv (vR (some 0)) from trivial) (am_ok1 (lx_in _) (am_ok1 (lx_in _) (am_ok1 (lx_in _) (am_ok0)))))) am_ok0 hok).1 (Or.inl rfl)
  refine lg_x F dl_1643 ?_
  refine lg_a 1 F hk (by decide) dl_1644 dl_1645 dl_1647 dl_1648 dl_1649 ?_
  refine lg_a 2 F hk (by decide) dl_1650 dl_1651 dl_1653 dl_1654 dl_1655 ?_
  refine lg_a 3 F hk (by decide) dl_1656 dl_1657 dl_1659 dl_1660 dl_1661 ?_
  refine lg_call (j := 144) (a := 0) (as := [vI (xs (k + 1)).toInt, vI (xs (k + 2)).toInt, vI (xs (k + 3)).toInt]) (S := []) F dl_1662 (am_hw_in (z := (5, 169)) (by decide +kernel)) (by decide) rfl rfl (Or.inr ⟨_, rfl⟩) (by decide) (Nat.le_of_ble_eq_true rfl) (Nat.le_of_ble_eq_true rfl) (am_ok1 (lx_in _) (am_ok1 (lx_in _) (am_ok1 (lx_in _) (am_ok0)))) (by decide) e1 ?_
  refine lg_m F dl_1665 ?_
  refine lg_a 1 F hk (by decide) dl_1666 dl_1667 dl_1669 dl_1670 dl_1671 ?_
  refine lg_a 2 F hk (by decide) dl_1672 dl_1673 dl_1675 dl_1676 dl_1677 ?_
  refine lg_a 3 F hk (by decide) dl_1678 dl_1679 dl_1681 dl_1682 dl_1683 ?_
  refine lg_call (j := 271) (a := 99) (as := [vI (xs (k + 1)).toInt, vI (xs (k + 2)).toInt, vI (xs (k + 3)).toInt]) (S := [vI x]) F dl_1684 (am_hw_in (z := (9, 67)) (by decide +kernel)) (by decide) rfl rfl (Or.inr ⟨_, rfl⟩) (by decide) (Nat.le_of_ble_eq_true rfl) (Nat.le_of_ble_eq_true rfl) (am_ok1 (lx_in _) (am_ok1 (lx_in _) (am_ok1 (lx_in _) (am_ok0)))) (by decide) e2 ?_
  exact lg_eq F dl_1687 (by decide) (kk _ _ _ g)
theorem lc_43 (F : lw_fx p s m meth c D cy b0 L xs) (hk : k + 5 < L) (hG : GG w I Lg) (hok : am_okh (mkH w I Lg)) (kk : ∀ w I Lg, GG w I Lg → lw_G p l e s m below meth c Q D cy aS b0 k 1805 [] (mkH w I Lg)) : lw_G p l e s m below meth c Q D cy aS b0 k 1692 [] (mkH w I Lg) := by
  obtain ⟨n1, r, h1, n2, w2, I2, L2, e1, e2, g⟩ := lg_pair (p_tried (a := (xs (k + 1)).toInt) (b := (xs (k + 2)).toInt) (c := (xs (k + 3)).toInt)) hG
  obtain ⟨x, rfl⟩ := (am_run_ty _ _ 145 _ _ _ _ _ _ (by decide) e1 (am_okL_en (am_ok1 (show am_okv (vR (some 0)) from trivial) (am_ok1 (lx_in _) (am_ok1 (lx_in _) (am_ok1 (lx_in _) (am_ok0)))))) am_ok0 hok).1 (Or.inl rfl)
  refine lg_x F dl_1692 ?_
  refine lg_a 1 F hk (by decide) dl_1693 dl_1694 dl_1696 dl_1697 dl_1698 ?_
  refine lg_a 2 F hk (by decide) dl_1699 dl_1700 dl_1702 dl_1703 dl_1704 ?_
  refine lg_a 3 F hk (by decide) dl_1705 dl_1706 dl_1708 dl_1709 dl_1710 ?_
  refine lg_call (j := 145) (a := 0) (as := [vI (xs (k + 1)).toInt, vI (xs (k + 2)).toInt, vI (xs (k + 3)).toInt]) (S := []) F dl_1711 (am_hw_in (z := (5, 173)) (by decide +kernel)) (by decide) rfl rfl (Or.inr ⟨_, rfl⟩) (by decide) (Nat.le_of_ble_eq_true rfl) (Nat.le_of_ble_eq_true rfl) (am_ok1 (lx_in _) (am_ok1 (lx_in _) (am_ok1 (lx_in _) (am_ok0)))) (by decide) e1 ?_
  refine lg_m F dl_1714 ?_
  refine lg_a 1 F hk (by decide) dl_1715 dl_1716 dl_1718 dl_1719 dl_1720 ?_
  refine lg_a 2 F hk (by decide) dl_1721 dl_1722 dl_1724 dl_1725 dl_1726 ?_
  refine lg_a 3 F hk (by decide) dl_1727 dl_1728 dl_1730 dl_1731 dl_1732 ?_
  refine lg_call (j := 272) (a := 99) (as := [vI (xs (k + 1)).toInt, vI (xs (k + 2)).toInt, vI (xs (k + 3)).toInt]) (S := [vI x]) F dl_1733 (am_hw_in (z := (9, 71)) (by decide +kernel)) (by decide) rfl rfl (Or.inr ⟨_, rfl⟩) (by decide) (Nat.le_of_ble_eq_true rfl) (Nat.le_of_ble_eq_true rfl) (am_ok1 (lx_in _) (am_ok1 (lx_in _) (am_ok1 (lx_in _) (am_ok0)))) (by decide) e2 ?_
  exact lg_eq F dl_1736 (by decide) (kk _ _ _ g)
theorem lc_44 (F : lw_fx p s m meth c D cy b0 L xs) (hk : k + 5 < L) (hG : GG w I Lg) (hok : am_okh (mkH w I Lg)) (kk : ∀ w I Lg, GG w I Lg → lw_G p l e s m below meth c Q D cy aS b0 k 1805 [] (mkH w I Lg)) : lw_G p l e s m below meth c Q D cy aS b0 k 1741 [] (mkH w I Lg) := by
  obtain ⟨n1, r, h1, n2, w2, I2, L2, e1, e2, g⟩ := lg_pair (p_undo) hG
  obtain ⟨x, rfl⟩ := (am_run_ty _ _ 146 _ _ _ _ _ _ (by decide) e1 (am_okL_en (am_ok1 (show am_okv (vR (some 0)) from trivial) (am_ok0))) am_ok0 hok).1 (Or.inl rfl)
  refine lg_x F dl_1741 ?_
  refine lg_call (j := 146) (a := 0) (as := []) (S := []) F dl_1742 (am_hw_in (z := (5, 177)) (by decide +kernel)) (by decide) rfl rfl (Or.inr ⟨_, rfl⟩) (by decide) (Nat.le_of_ble_eq_true rfl) (Nat.le_of_ble_eq_true rfl) (am_ok0) (by decide) e1 ?_
  refine lg_m F dl_1745 ?_
  refine lg_call (j := 276) (a := 99) (as := []) (S := [vI x]) F dl_1746 (am_hw_in (z := (9, 75)) (by decide +kernel)) (by decide) rfl rfl (Or.inr ⟨_, rfl⟩) (by decide) (Nat.le_of_ble_eq_true rfl) (Nat.le_of_ble_eq_true rfl) (am_ok0) (by decide) e2 ?_
  exact lg_eq F dl_1749 (by decide) (kk _ _ _ g)
theorem lc_45 (F : lw_fx p s m meth c D cy b0 L xs) (hk : k + 5 < L) (hG : GG w I Lg) (hok : am_okh (mkH w I Lg)) (kk : ∀ w I Lg, GG w I Lg → lw_G p l e s m below meth c Q D cy aS b0 k 1805 [] (mkH w I Lg)) : lw_G p l e s m below meth c Q D cy aS b0 k 1754 [] (mkH w I Lg) := by
  obtain ⟨n1, r, h1, n2, w2, I2, L2, e1, e2, g⟩ := lg_pair (p_keep) hG
  obtain ⟨x, rfl⟩ := (am_run_ty _ _ 147 _ _ _ _ _ _ (by decide) e1 (am_okL_en (am_ok1 (show am_okv (vR (some 0)) from trivial) (am_ok0))) am_ok0 hok).1 (Or.inl rfl)
  refine lg_x F dl_1754 ?_
  refine lg_call (j := 147) (a := 0) (as := []) (S := []) F dl_1755 (am_hw_in (z := (5, 186)) (by decide +kernel)) (by decide) rfl rfl (Or.inr ⟨_, rfl⟩) (by decide) (Nat.le_of_ble_eq_true rfl) (Nat.le_of_ble_eq_true rfl) (am_ok0) (by decide) e1 ?_
  refine lg_m F dl_1758 ?_
  refine lg_call (j := 277) (a := 99) (as := []) (S := [vI x]) F dl_1759 (am_hw_in (z := (9, 83)) (by decide +kernel)) (by decide) rfl rfl (Or.inr ⟨_, rfl⟩) (by decide) (Nat.le_of_ble_eq_true rfl) (Nat.le_of_ble_eq_true rfl) (am_ok0) (by decide) e2 ?_
  exact lg_eq F dl_1762 (by decide) (kk _ _ _ g)
theorem lc_46 (F : lw_fx p s m meth c D cy b0 L xs) (hk : k + 5 < L) (hG : GG w I Lg) (hok : am_okh (mkH w I Lg)) (kk : ∀ w I Lg, GG w I Lg → lw_G p l e s m below meth c Q D cy aS b0 k 1805 [] (mkH w I Lg)) : lw_G p l e s m below meth c Q D cy aS b0 k 1767 [] (mkH w I Lg) := by
  obtain ⟨n1, r, h1, n2, w2, I2, L2, e1, e2, g⟩ := lg_pair (p_back) hG
  obtain ⟨x, rfl⟩ := (am_run_ty _ _ 148 _ _ _ _ _ _ (by decide) e1 (am_okL_en (am_ok1 (show am_okv (vR (some 0)) from trivial) (am_ok0))) am_ok0 hok).1 (Or.inl rfl)
  refine lg_x F dl_1767 ?_
  refine lg_call (j := 148) (a := 0) (as := []) (S := []) F dl_1768 (am_hw_in (z := (5, 190)) (by decide +kernel)) (by decide) rfl rfl (Or.inr ⟨_, rfl⟩) (by decide) (Nat.le_of_ble_eq_true rfl) (Nat.le_of_ble_eq_true rfl) (am_ok0) (by decide) e1 ?_
  refine lg_m F dl_1771 ?_
  refine lg_call (j := 278) (a := 99) (as := []) (S := [vI x]) F dl_1772 (am_hw_in (z := (9, 87)) (by decide +kernel)) (by decide) rfl rfl (Or.inr ⟨_, rfl⟩) (by decide) (Nat.le_of_ble_eq_true rfl) (Nat.le_of_ble_eq_true rfl) (am_ok0) (by decide) e2 ?_
  exact lg_eq F dl_1775 (by decide) (kk _ _ _ g)
theorem lc_47 (F : lw_fx p s m meth c D cy b0 L xs) (hk : k + 5 < L) (hG : GG w I Lg) (hok : am_okh (mkH w I Lg)) (kk : ∀ w I Lg, GG w I Lg → lw_G p l e s m below meth c Q D cy aS b0 k 1805 [] (mkH w I Lg)) : lw_G p l e s m below meth c Q D cy aS b0 k 1780 [] (mkH w I Lg) := by
  obtain ⟨n1, r, h1, n2, w2, I2, L2, e1, e2, g⟩ := lg_pair (p_count (a := (xs (k + 1)).toInt)) hG
  obtain ⟨x, rfl⟩ := (am_run_ty _ _ 149 _ _ _ _ _ _ (by decide) e1 (am_okL_en (am_ok1 (show am_okv (vR (some 0)) from trivial) (am_ok1 (lx_in _) (am_ok0)))) am_ok0 hok).1 (Or.inl rfl)
  refine lg_x F dl_1780 ?_
  refine lg_a 1 F hk (by decide) dl_1781 dl_1782 dl_1784 dl_1785 dl_1786 ?_
  refine lg_call (j := 149) (a := 0) (as := [vI (xs (k + 1)).toInt]) (S := []) F dl_1787 (am_hw_in (z := (5, 194)) (by decide +kernel)) (by decide) rfl rfl (Or.inr ⟨_, rfl⟩) (by decide) (Nat.le_of_ble_eq_true rfl) (Nat.le_of_ble_eq_true rfl) (am_ok1 (lx_in _) (am_ok0)) (by decide) e1 ?_
  refine lg_m F dl_1790 ?_
  refine lg_a 1 F hk (by decide) dl_1791 dl_1792 dl_1794 dl_1795 dl_1796 ?_
  refine lg_call (j := 279) (a := 99) (as := [vI (xs (k + 1)).toInt]) (S := [vI x]) F dl_1797 (am_hw_in (z := (9, 91)) (by decide +kernel)) (by decide) rfl rfl (Or.inr ⟨_, rfl⟩) (by decide) (Nat.le_of_ble_eq_true rfl) (Nat.le_of_ble_eq_true rfl) (am_ok1 (lx_in _) (am_ok0)) (by decide) e2 ?_
  exact lg_eq F dl_1800 (by decide) (kk _ _ _ g)
end
