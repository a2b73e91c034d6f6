/-! the law, case by case (2) -/
section LCAL
variable {p : Program} {l : Launch} {e : Env} {s : State} {m : MethodId} {below : List Frame} {meth : Method} {c : Code} {H : Heap} {locs : List Loc} {cells slots : Nat} {Q : State → Prop}
variable {pc : Nat} {ls : Array Slot} {rest : List Value} {G : xG} {b L : Nat} {xs : Nat → Int32} {C M : Mm}
set_option maxRecDepth 100000 in
set_option maxHeartbeats 4000000 in
theorem lc_secret (K : lwK G p s m meth c b L xs) (hL : L ≤ 5120) {i k0 s0 g0 l0 : Nat} (hi : i + 10 ≤ L) (hk0 : k0 < 512) (hW : lwW G s H locs C M) (hI : II k0 s0 g0 l0 C M) (hl : lv_has ls 4 [(0, .ref b), (1, .ref (G.2.2 10 0)), (2, .ref (G.2.2 200 0)), (3, .int (nI i))]) (hf : cells + 0 ≤ room_1.cells ∧ slots + 0 ≤ room_1.slots)
    (kk : ∀ H1 locs1 C1 M1 s1 g1 l1, lwW G s H1 locs1 C1 M1 → II (k0 + 1) s1 g1 l1 C1 M1 → W p l e room_1 s m #[Value.ref b] below meth c H1 locs1 cells slots Q (F0 m 1330 ls [])) : W p l e room_1 s m #[Value.ref b] below meth c H locs cells slots Q (F0 m 322 ls []) := by
  obtain ⟨hx, hb, -, -, hown, hts, -, -, -, -⟩ := K.1
  have hts1 := K.ts
  obtain ⟨r, C1, M1, s1, g1, l1, e1, e2, hI1⟩ := a_secret hI hk0 (xs (i + 1)) (lgv (xs (i + 2)) (xs (i + 3))) (lgv (xs (i + 4)) (xs (i + 5))) (lgv (xs (i + 6)) (xs (i + 7))) (lgv (xs (i + 8)) (xs (i + 9)))
  refine lv_aload_n hx hb dL_law_322 rfl (lv_at hl 1 rfl) ?_
  refine lw_ld (pc2 := 326) (k := 1) K hW hl (by omega) hL dL_law_323 dL_law_324 (fun _ h => lv_iconst (v := nI 1) hx hb dL_law_325 (by decide) h) dL_law_326 dL_law_327 ?_
  refine lw_ld (pc2 := 331) (k := 2) K hW hl (by omega) hL dL_law_328 dL_law_329 (fun _ h => lv_iconst (v := nI 2) hx hb dL_law_330 (by decide) h) dL_law_331 dL_law_332 ?_
  refine lv_i2l hx hb dL_law_333 rfl ?_
  refine lv_bipush (v := 32) hx hb dL_law_334 (by decide) ?_
  refine lv_lshl hx hb dL_law_336 rfl ?_
  refine lw_ld (pc2 := 340) (k := 3) K hW hl (by omega) hL dL_law_337 dL_law_338 (fun _ h => lv_iconst (v := nI 3) hx hb dL_law_339 (by decide) h) dL_law_340 dL_law_341 ?_
  refine lv_i2l hx hb dL_law_342 rfl ?_
  refine lv_ldc2 hx hb hown (hts _ (gwL _ gw6)) dL_law_343 ?_
  refine lv_land hx hb dL_law_346 ?_
  refine lv_lor hx hb dL_law_347 ?_
  refine lw_ld (pc2 := 351) (k := 4) K hW hl (by omega) hL dL_law_348 dL_law_349 (fun _ h => lv_iconst (v := nI 4) hx hb dL_law_350 (by decide) h) dL_law_351 dL_law_352 ?_
  refine lv_i2l hx hb dL_law_353 rfl ?_
  refine lv_bipush (v := 32) hx hb dL_law_354 (by decide) ?_
  refine lv_lshl hx hb dL_law_356 rfl ?_
  refine lw_ld (pc2 := 360) (k := 5) K hW hl (by omega) hL dL_law_357 dL_law_358 (fun _ h => lv_iconst (v := nI 5) hx hb dL_law_359 (by decide) h) dL_law_360 dL_law_361 ?_
  refine lv_i2l hx hb dL_law_362 rfl ?_
  refine lv_ldc2 hx hb hown (hts _ (gwL _ gw6)) dL_law_363 ?_
  refine lv_land hx hb dL_law_366 ?_
  refine lv_lor hx hb dL_law_367 ?_
  refine lw_ld (pc2 := 372) (k := 6) K hW hl (by omega) hL dL_law_368 dL_law_369 (fun _ h => lv_bipush (v := nI 6) hx hb dL_law_370 (by decide) h) dL_law_372 dL_law_373 ?_
  refine lv_i2l hx hb dL_law_374 rfl ?_
  refine lv_bipush (v := 32) hx hb dL_law_375 (by decide) ?_
  refine lv_lshl hx hb dL_law_377 rfl ?_
  refine lw_ld (pc2 := 382) (k := 7) K hW hl (by omega) hL dL_law_378 dL_law_379 (fun _ h => lv_bipush (v := nI 7) hx hb dL_law_380 (by decide) h) dL_law_382 dL_law_383 ?_
  refine lv_i2l hx hb dL_law_384 rfl ?_
  refine lv_ldc2 hx hb hown (hts _ (gwL _ gw6)) dL_law_385 ?_
  refine lv_land hx hb dL_law_388 ?_
  refine lv_lor hx hb dL_law_389 ?_
  refine lw_ld (pc2 := 394) (k := 8) K hW hl (by omega) hL dL_law_390 dL_law_391 (fun _ h => lv_bipush (v := nI 8) hx hb dL_law_392 (by decide) h) dL_law_394 dL_law_395 ?_
  refine lv_i2l hx hb dL_law_396 rfl ?_
  refine lv_bipush (v := 32) hx hb dL_law_397 (by decide) ?_
  refine lv_lshl hx hb dL_law_399 rfl ?_
  refine lw_ld (pc2 := 404) (k := 9) K hW hl (by omega) hL dL_law_400 dL_law_401 (fun _ h => lv_bipush (v := nI 9) hx hb dL_law_402 (by decide) h) dL_law_404 dL_law_405 ?_
  refine lv_i2l hx hb dL_law_406 rfl ?_
  refine lv_ldc2 hx hb hown (hts _ (gwL _ gw6)) dL_law_407 ?_
  refine lv_land hx hb dL_law_410 ?_
  refine lv_lor hx hb dL_law_411 ?_
  refine lw_cC (As := [.int (xs (i + 1)), .long (lgv (xs (i + 2)) (xs (i + 3))), .long (lgv (xs (i + 4)) (xs (i + 5))), .long (lgv (xs (i + 6)) (xs (i + 7))), .long (lgv (xs (i + 8)) (xs (i + 9)))]) (rest := []) K hW (c_X11_secret l G K.2.2.2.1 _ C (xs (i + 1)) (lgv (xs (i + 2)) (xs (i + 3))) (lgv (xs (i + 4)) (xs (i + 5))) (lgv (xs (i + 6)) (xs (i + 7))) (lgv (xs (i + 8)) (xs (i + 9))) _ e1) (cwV 5 hts1 (gV gw354 gw355 gw356 gw2 gw357) rfl rfl rfl ⟨rfl, hd_X11_secret⟩ ⟨Nat.le_of_ble_eq_true rfl, Nat.le_of_ble_eq_true rfl⟩) rfl hl.1 rfl (Nat.le_of_ble_eq_true rfl) dL_law_412 hf (fun H locs hW => ?_)
  refine lv_aload_n hx hb dL_law_415 rfl (lv_at hl 2 rfl) ?_
  refine lw_ld (pc2 := 419) (k := 1) K hW hl (by omega) hL dL_law_416 dL_law_417 (fun _ h => lv_iconst (v := nI 1) hx hb dL_law_418 (by decide) h) dL_law_419 dL_law_420 ?_
  refine lw_ld (pc2 := 424) (k := 2) K hW hl (by omega) hL dL_law_421 dL_law_422 (fun _ h => lv_iconst (v := nI 2) hx hb dL_law_423 (by decide) h) dL_law_424 dL_law_425 ?_
  refine lv_i2l hx hb dL_law_426 rfl ?_
  refine lv_bipush (v := 32) hx hb dL_law_427 (by decide) ?_
  refine lv_lshl hx hb dL_law_429 rfl ?_
  refine lw_ld (pc2 := 433) (k := 3) K hW hl (by omega) hL dL_law_430 dL_law_431 (fun _ h => lv_iconst (v := nI 3) hx hb dL_law_432 (by decide) h) dL_law_433 dL_law_434 ?_
  refine lv_i2l hx hb dL_law_435 rfl ?_
  refine lv_ldc2 hx hb hown (hts _ (gwL _ gw6)) dL_law_436 ?_
  refine lv_land hx hb dL_law_439 ?_
  refine lv_lor hx hb dL_law_440 ?_
  refine lw_ld (pc2 := 444) (k := 4) K hW hl (by omega) hL dL_law_441 dL_law_442 (fun _ h => lv_iconst (v := nI 4) hx hb dL_law_443 (by decide) h) dL_law_444 dL_law_445 ?_
  refine lv_i2l hx hb dL_law_446 rfl ?_
  refine lv_bipush (v := 32) hx hb dL_law_447 (by decide) ?_
  refine lv_lshl hx hb dL_law_449 rfl ?_
  refine lw_ld (pc2 := 453) (k := 5) K hW hl (by omega) hL dL_law_450 dL_law_451 (fun _ h => lv_iconst (v := nI 5) hx hb dL_law_452 (by decide) h) dL_law_453 dL_law_454 ?_
  refine lv_i2l hx hb dL_law_455 rfl ?_
  refine lv_ldc2 hx hb hown (hts _ (gwL _ gw6)) dL_law_456 ?_
  refine lv_land hx hb dL_law_459 ?_
  refine lv_lor hx hb dL_law_460 ?_
  refine lw_ld (pc2 := 465) (k := 6) K hW hl (by omega) hL dL_law_461 dL_law_462 (fun _ h => lv_bipush (v := nI 6) hx hb dL_law_463 (by decide) h) dL_law_465 dL_law_466 ?_
  refine lv_i2l hx hb dL_law_467 rfl ?_
  refine lv_bipush (v := 32) hx hb dL_law_468 (by decide) ?_
  refine lv_lshl hx hb dL_law_470 rfl ?_
  refine lw_ld (pc2 := 475) (k := 7) K hW hl (by omega) hL dL_law_471 dL_law_472 (fun _ h => lv_bipush (v := nI 7) hx hb dL_law_473 (by decide) h) dL_law_475 dL_law_476 ?_
  refine lv_i2l hx hb dL_law_477 rfl ?_
  refine lv_ldc2 hx hb hown (hts _ (gwL _ gw6)) dL_law_478 ?_
  refine lv_land hx hb dL_law_481 ?_
  refine lv_lor hx hb dL_law_482 ?_
  refine lw_ld (pc2 := 487) (k := 8) K hW hl (by omega) hL dL_law_483 dL_law_484 (fun _ h => lv_bipush (v := nI 8) hx hb dL_law_485 (by decide) h) dL_law_487 dL_law_488 ?_
  refine lv_i2l hx hb dL_law_489 rfl ?_
  refine lv_bipush (v := 32) hx hb dL_law_490 (by decide) ?_
  refine lv_lshl hx hb dL_law_492 rfl ?_
  refine lw_ld (pc2 := 497) (k := 9) K hW hl (by omega) hL dL_law_493 dL_law_494 (fun _ h => lv_bipush (v := nI 9) hx hb dL_law_495 (by decide) h) dL_law_497 dL_law_498 ?_
  refine lv_i2l hx hb dL_law_499 rfl ?_
  refine lv_ldc2 hx hb hown (hts _ (gwL _ gw6)) dL_law_500 ?_
  refine lv_land hx hb dL_law_503 ?_
  refine lv_lor hx hb dL_law_504 ?_
  refine lw_cM (As := [.int (xs (i + 1)), .long (lgv (xs (i + 2)) (xs (i + 3))), .long (lgv (xs (i + 4)) (xs (i + 5))), .long (lgv (xs (i + 6)) (xs (i + 7))), .long (lgv (xs (i + 8)) (xs (i + 9)))]) (rest := [.int r]) K hW (c_X12_secret l G K.2.2.2.2.1 _ M (xs (i + 1)) (lgv (xs (i + 2)) (xs (i + 3))) (lgv (xs (i + 4)) (xs (i + 5))) (lgv (xs (i + 6)) (xs (i + 7))) (lgv (xs (i + 8)) (xs (i + 9))) _ e2) (cwV 5 hts1 (gV gw365 gw366 gw367 gw5 gw368) rfl rfl rfl ⟨rfl, hd_X12_secret⟩ ⟨Nat.le_of_ble_eq_true rfl, Nat.le_of_ble_eq_true rfl⟩) rfl hl.1 rfl (Nat.le_of_ble_eq_true rfl) dL_law_505 hf (fun H locs hW => ?_)
  refine lv_icmp_eq (tgt := 1330) hx hb dL_law_508 (by decide) (fun _ => ?_) (fun h => absurd rfl h)
  exact kk _ _ _ _ _ _ _ hW hI1
set_option maxRecDepth 100000 in
set_option maxHeartbeats 4000000 in
theorem lc_known (K : lwK G p s m meth c b L xs) (hL : L ≤ 5120) {i k0 s0 g0 l0 : Nat} (hi : i + 10 ≤ L) (hk0 : k0 < 512) (hW : lwW G s H locs C M) (hI : II k0 s0 g0 l0 C M) (hl : lv_has ls 4 [(0, .ref b), (1, .ref (G.2.2 10 0)), (2, .ref (G.2.2 200 0)), (3, .int (nI i))]) (hf : cells + 0 ≤ room_1.cells ∧ slots + 0 ≤ room_1.slots)
    (kk : ∀ H1 locs1 C1 M1 s1 g1 l1, lwW G s H1 locs1 C1 M1 → II (k0 + 1) s1 g1 l1 C1 M1 → W p l e room_1 s m #[Value.ref b] below meth c H1 locs1 cells slots Q (F0 m 1330 ls [])) : W p l e room_1 s m #[Value.ref b] below meth c H locs cells slots Q (F0 m 513 ls []) := by
  obtain ⟨hx, hb, -, -, hown, hts, -, -, -, -⟩ := K.1
  have hts1 := K.ts
  obtain ⟨r, C1, M1, s1, g1, l1, e1, e2, hI1⟩ := a_known hI hk0 (xs (i + 1)) (lgv (xs (i + 2)) (xs (i + 3))) (lgv (xs (i + 4)) (xs (i + 5))) (lgv (xs (i + 6)) (xs (i + 7))) (lgv (xs (i + 8)) (xs (i + 9)))
  refine lv_aload_n hx hb dL_law_513 rfl (lv_at hl 1 rfl) ?_
  refine lw_ld (pc2 := 517) (k := 1) K hW hl (by omega) hL dL_law_514 dL_law_515 (fun _ h => lv_iconst (v := nI 1) hx hb dL_law_516 (by decide) h) dL_law_517 dL_law_518 ?_
  refine lw_ld (pc2 := 522) (k := 2) K hW hl (by omega) hL dL_law_519 dL_law_520 (fun _ h => lv_iconst (v := nI 2) hx hb dL_law_521 (by decide) h) dL_law_522 dL_law_523 ?_
  refine lv_i2l hx hb dL_law_524 rfl ?_
  refine lv_bipush (v := 32) hx hb dL_law_525 (by decide) ?_
  refine lv_lshl hx hb dL_law_527 rfl ?_
  refine lw_ld (pc2 := 531) (k := 3) K hW hl (by omega) hL dL_law_528 dL_law_529 (fun _ h => lv_iconst (v := nI 3) hx hb dL_law_530 (by decide) h) dL_law_531 dL_law_532 ?_
  refine lv_i2l hx hb dL_law_533 rfl ?_
  refine lv_ldc2 hx hb hown (hts _ (gwL _ gw6)) dL_law_534 ?_
  refine lv_land hx hb dL_law_537 ?_
  refine lv_lor hx hb dL_law_538 ?_
  refine lw_ld (pc2 := 542) (k := 4) K hW hl (by omega) hL dL_law_539 dL_law_540 (fun _ h => lv_iconst (v := nI 4) hx hb dL_law_541 (by decide) h) dL_law_542 dL_law_543 ?_
  refine lv_i2l hx hb dL_law_544 rfl ?_
  refine lv_bipush (v := 32) hx hb dL_law_545 (by decide) ?_
  refine lv_lshl hx hb dL_law_547 rfl ?_
  refine lw_ld (pc2 := 551) (k := 5) K hW hl (by omega) hL dL_law_548 dL_law_549 (fun _ h => lv_iconst (v := nI 5) hx hb dL_law_550 (by decide) h) dL_law_551 dL_law_552 ?_
  refine lv_i2l hx hb dL_law_553 rfl ?_
  refine lv_ldc2 hx hb hown (hts _ (gwL _ gw6)) dL_law_554 ?_
  refine lv_land hx hb dL_law_557 ?_
  refine lv_lor hx hb dL_law_558 ?_
  refine lw_ld (pc2 := 563) (k := 6) K hW hl (by omega) hL dL_law_559 dL_law_560 (fun _ h => lv_bipush (v := nI 6) hx hb dL_law_561 (by decide) h) dL_law_563 dL_law_564 ?_
  refine lv_i2l hx hb dL_law_565 rfl ?_
  refine lv_bipush (v := 32) hx hb dL_law_566 (by decide) ?_
  refine lv_lshl hx hb dL_law_568 rfl ?_
  refine lw_ld (pc2 := 573) (k := 7) K hW hl (by omega) hL dL_law_569 dL_law_570 (fun _ h => lv_bipush (v := nI 7) hx hb dL_law_571 (by decide) h) dL_law_573 dL_law_574 ?_
  refine lv_i2l hx hb dL_law_575 rfl ?_
  refine lv_ldc2 hx hb hown (hts _ (gwL _ gw6)) dL_law_576 ?_
  refine lv_land hx hb dL_law_579 ?_
  refine lv_lor hx hb dL_law_580 ?_
  refine lw_ld (pc2 := 585) (k := 8) K hW hl (by omega) hL dL_law_581 dL_law_582 (fun _ h => lv_bipush (v := nI 8) hx hb dL_law_583 (by decide) h) dL_law_585 dL_law_586 ?_
  refine lv_i2l hx hb dL_law_587 rfl ?_
  refine lv_bipush (v := 32) hx hb dL_law_588 (by decide) ?_
  refine lv_lshl hx hb dL_law_590 rfl ?_
  refine lw_ld (pc2 := 595) (k := 9) K hW hl (by omega) hL dL_law_591 dL_law_592 (fun _ h => lv_bipush (v := nI 9) hx hb dL_law_593 (by decide) h) dL_law_595 dL_law_596 ?_
  refine lv_i2l hx hb dL_law_597 rfl ?_
  refine lv_ldc2 hx hb hown (hts _ (gwL _ gw6)) dL_law_598 ?_
  refine lv_land hx hb dL_law_601 ?_
  refine lv_lor hx hb dL_law_602 ?_
  refine lw_cC (As := [.int (xs (i + 1)), .long (lgv (xs (i + 2)) (xs (i + 3))), .long (lgv (xs (i + 4)) (xs (i + 5))), .long (lgv (xs (i + 6)) (xs (i + 7))), .long (lgv (xs (i + 8)) (xs (i + 9)))]) (rest := []) K hW (c_X11_known l G K.2.2.2.1 _ C (xs (i + 1)) (lgv (xs (i + 2)) (xs (i + 3))) (lgv (xs (i + 4)) (xs (i + 5))) (lgv (xs (i + 6)) (xs (i + 7))) (lgv (xs (i + 8)) (xs (i + 9))) _ e1) (cwV 5 hts1 (gV gw376 gw377 gw378 gw2 gw379) rfl rfl rfl ⟨rfl, hd_X11_known⟩ ⟨Nat.le_of_ble_eq_true rfl, Nat.le_of_ble_eq_true rfl⟩) rfl hl.1 rfl (Nat.le_of_ble_eq_true rfl) dL_law_603 hf (fun H locs hW => ?_)
  refine lv_aload_n hx hb dL_law_606 rfl (lv_at hl 2 rfl) ?_
  refine lw_ld (pc2 := 610) (k := 1) K hW hl (by omega) hL dL_law_607 dL_law_608 (fun _ h => lv_iconst (v := nI 1) hx hb dL_law_609 (by decide) h) dL_law_610 dL_law_611 ?_
  refine lw_ld (pc2 := 615) (k := 2) K hW hl (by omega) hL dL_law_612 dL_law_613 (fun _ h => lv_iconst (v := nI 2) hx hb dL_law_614 (by decide) h) dL_law_615 dL_law_616 ?_
  refine lv_i2l hx hb dL_law_617 rfl ?_
  refine lv_bipush (v := 32) hx hb dL_law_618 (by decide) ?_
  refine lv_lshl hx hb dL_law_620 rfl ?_
  refine lw_ld (pc2 := 624) (k := 3) K hW hl (by omega) hL dL_law_621 dL_law_622 (fun _ h => lv_iconst (v := nI 3) hx hb dL_law_623 (by decide) h) dL_law_624 dL_law_625 ?_
  refine lv_i2l hx hb dL_law_626 rfl ?_
  refine lv_ldc2 hx hb hown (hts _ (gwL _ gw6)) dL_law_627 ?_
  refine lv_land hx hb dL_law_630 ?_
  refine lv_lor hx hb dL_law_631 ?_
  refine lw_ld (pc2 := 635) (k := 4) K hW hl (by omega) hL dL_law_632 dL_law_633 (fun _ h => lv_iconst (v := nI 4) hx hb dL_law_634 (by decide) h) dL_law_635 dL_law_636 ?_
  refine lv_i2l hx hb dL_law_637 rfl ?_
  refine lv_bipush (v := 32) hx hb dL_law_638 (by decide) ?_
  refine lv_lshl hx hb dL_law_640 rfl ?_
  refine lw_ld (pc2 := 644) (k := 5) K hW hl (by omega) hL dL_law_641 dL_law_642 (fun _ h => lv_iconst (v := nI 5) hx hb dL_law_643 (by decide) h) dL_law_644 dL_law_645 ?_
  refine lv_i2l hx hb dL_law_646 rfl ?_
  refine lv_ldc2 hx hb hown (hts _ (gwL _ gw6)) dL_law_647 ?_
  refine lv_land hx hb dL_law_650 ?_
  refine lv_lor hx hb dL_law_651 ?_
  refine lw_ld (pc2 := 656) (k := 6) K hW hl (by omega) hL dL_law_652 dL_law_653 (fun _ h => lv_bipush (v := nI 6) hx hb dL_law_654 (by decide) h) dL_law_656 dL_law_657 ?_
  refine lv_i2l hx hb dL_law_658 rfl ?_
  refine lv_bipush (v := 32) hx hb dL_law_659 (by decide) ?_
  refine lv_lshl hx hb dL_law_661 rfl ?_
  refine lw_ld (pc2 := 666) (k := 7) K hW hl (by omega) hL dL_law_662 dL_law_663 (fun _ h => lv_bipush (v := nI 7) hx hb dL_law_664 (by decide) h) dL_law_666 dL_law_667 ?_
  refine lv_i2l hx hb dL_law_668 rfl ?_
  refine lv_ldc2 hx hb hown (hts _ (gwL _ gw6)) dL_law_669 ?_
  refine lv_land hx hb dL_law_672 ?_
  refine lv_lor hx hb dL_law_673 ?_
  refine lw_ld (pc2 := 678) (k := 8) K hW hl (by omega) hL dL_law_674 dL_law_675 (fun _ h => lv_bipush (v := nI 8) hx hb dL_law_676 (by decide) h) dL_law_678 dL_law_679 ?_
  refine lv_i2l hx hb dL_law_680 rfl ?_
  refine lv_bipush (v := 32) hx hb dL_law_681 (by decide) ?_
  refine lv_lshl hx hb dL_law_683 rfl ?_
  refine lw_ld (pc2 := 688) (k := 9) K hW hl (by omega) hL dL_law_684 dL_law_685 (fun _ h => lv_bipush (v := nI 9) hx hb dL_law_686 (by decide) h) dL_law_688 dL_law_689 ?_
  refine lv_i2l hx hb dL_law_690 rfl ?_
  refine lv_ldc2 hx hb hown (hts _ (gwL _ gw6)) dL_law_691 ?_
  refine lv_land hx hb dL_law_694 ?_
  refine lv_lor hx hb dL_law_695 ?_
  refine lw_cM (As := [.int (xs (i + 1)), .long (lgv (xs (i + 2)) (xs (i + 3))), .long (lgv (xs (i + 4)) (xs (i + 5))), .long (lgv (xs (i + 6)) (xs (i + 7))), .long (lgv (xs (i + 8)) (xs (i + 9)))]) (rest := [.int r]) K hW (c_X12_known l G K.2.2.2.2.1 _ M (xs (i + 1)) (lgv (xs (i + 2)) (xs (i + 3))) (lgv (xs (i + 4)) (xs (i + 5))) (lgv (xs (i + 6)) (xs (i + 7))) (lgv (xs (i + 8)) (xs (i + 9))) _ e2) (cwV 5 hts1 (gV gw380 gw381 gw382 gw5 gw383) rfl rfl rfl ⟨rfl, hd_X12_known⟩ ⟨Nat.le_of_ble_eq_true rfl, Nat.le_of_ble_eq_true rfl⟩) rfl hl.1 rfl (Nat.le_of_ble_eq_true rfl) dL_law_696 hf (fun H locs hW => ?_)
  refine lv_icmp_eq (tgt := 1330) hx hb dL_law_699 (by decide) (fun _ => ?_) (fun h => absurd rfl h)
  exact kk _ _ _ _ _ _ _ hW hI1
set_option maxRecDepth 100000 in
set_option maxHeartbeats 4000000 in
theorem lc_nonce (K : lwK G p s m meth c b L xs) (hL : L ≤ 5120) {i k0 s0 g0 l0 : Nat} (hi : i + 10 ≤ L) (hk0 : k0 < 512) (hW : lwW G s H locs C M) (hI : II k0 s0 g0 l0 C M) (hl : lv_has ls 4 [(0, .ref b), (1, .ref (G.2.2 10 0)), (2, .ref (G.2.2 200 0)), (3, .int (nI i))]) (hf : cells + 0 ≤ room_1.cells ∧ slots + 0 ≤ room_1.slots)
    (kk : ∀ H1 locs1 C1 M1 s1 g1 l1, lwW G s H1 locs1 C1 M1 → II (k0 + 1) s1 g1 l1 C1 M1 → W p l e room_1 s m #[Value.ref b] below meth c H1 locs1 cells slots Q (F0 m 1330 ls [])) : W p l e room_1 s m #[Value.ref b] below meth c H locs cells slots Q (F0 m 704 ls []) := by
  obtain ⟨hx, hb, -, -, hown, hts, -, -, -, -⟩ := K.1
  have hts1 := K.ts
  obtain ⟨r, C1, M1, s1, g1, l1, e1, e2, hI1⟩ := a_nonce hI hk0 (xs (i + 1)) (lgv (xs (i + 2)) (xs (i + 3))) (lgv (xs (i + 4)) (xs (i + 5))) (lgv (xs (i + 6)) (xs (i + 7))) (lgv (xs (i + 8)) (xs (i + 9)))
  refine lv_aload_n hx hb dL_law_704 rfl (lv_at hl 1 rfl) ?_
  refine lw_ld (pc2 := 708) (k := 1) K hW hl (by omega) hL dL_law_705 dL_law_706 (fun _ h => lv_iconst (v := nI 1) hx hb dL_law_707 (by decide) h) dL_law_708 dL_law_709 ?_
  refine lw_ld (pc2 := 713) (k := 2) K hW hl (by omega) hL dL_law_710 dL_law_711 (fun _ h => lv_iconst (v := nI 2) hx hb dL_law_712 (by decide) h) dL_law_713 dL_law_714 ?_
  refine lv_i2l hx hb dL_law_715 rfl ?_
  refine lv_bipush (v := 32) hx hb dL_law_716 (by decide) ?_
  refine lv_lshl hx hb dL_law_718 rfl ?_
  refine lw_ld (pc2 := 722) (k := 3) K hW hl (by omega) hL dL_law_719 dL_law_720 (fun _ h => lv_iconst (v := nI 3) hx hb dL_law_721 (by decide) h) dL_law_722 dL_law_723 ?_
  refine lv_i2l hx hb dL_law_724 rfl ?_
  refine lv_ldc2 hx hb hown (hts _ (gwL _ gw6)) dL_law_725 ?_
  refine lv_land hx hb dL_law_728 ?_
  refine lv_lor hx hb dL_law_729 ?_
  refine lw_ld (pc2 := 733) (k := 4) K hW hl (by omega) hL dL_law_730 dL_law_731 (fun _ h => lv_iconst (v := nI 4) hx hb dL_law_732 (by decide) h) dL_law_733 dL_law_734 ?_
  refine lv_i2l hx hb dL_law_735 rfl ?_
  refine lv_bipush (v := 32) hx hb dL_law_736 (by decide) ?_
  refine lv_lshl hx hb dL_law_738 rfl ?_
  refine lw_ld (pc2 := 742) (k := 5) K hW hl (by omega) hL dL_law_739 dL_law_740 (fun _ h => lv_iconst (v := nI 5) hx hb dL_law_741 (by decide) h) dL_law_742 dL_law_743 ?_
  refine lv_i2l hx hb dL_law_744 rfl ?_
  refine lv_ldc2 hx hb hown (hts _ (gwL _ gw6)) dL_law_745 ?_
  refine lv_land hx hb dL_law_748 ?_
  refine lv_lor hx hb dL_law_749 ?_
  refine lw_ld (pc2 := 754) (k := 6) K hW hl (by omega) hL dL_law_750 dL_law_751 (fun _ h => lv_bipush (v := nI 6) hx hb dL_law_752 (by decide) h) dL_law_754 dL_law_755 ?_
  refine lv_i2l hx hb dL_law_756 rfl ?_
  refine lv_bipush (v := 32) hx hb dL_law_757 (by decide) ?_
  refine lv_lshl hx hb dL_law_759 rfl ?_
  refine lw_ld (pc2 := 764) (k := 7) K hW hl (by omega) hL dL_law_760 dL_law_761 (fun _ h => lv_bipush (v := nI 7) hx hb dL_law_762 (by decide) h) dL_law_764 dL_law_765 ?_
  refine lv_i2l hx hb dL_law_766 rfl ?_
  refine lv_ldc2 hx hb hown (hts _ (gwL _ gw6)) dL_law_767 ?_
  refine lv_land hx hb dL_law_770 ?_
  refine lv_lor hx hb dL_law_771 ?_
  refine lw_ld (pc2 := 776) (k := 8) K hW hl (by omega) hL dL_law_772 dL_law_773 (fun _ h => lv_bipush (v := nI 8) hx hb dL_law_774 (by decide) h) dL_law_776 dL_law_777 ?_
  refine lv_i2l hx hb dL_law_778 rfl ?_
  refine lv_bipush (v := 32) hx hb dL_law_779 (by decide) ?_
  refine lv_lshl hx hb dL_law_781 rfl ?_
  refine lw_ld (pc2 := 786) (k := 9) K hW hl (by omega) hL dL_law_782 dL_law_783 (fun _ h => lv_bipush (v := nI 9) hx hb dL_law_784 (by decide) h) dL_law_786 dL_law_787 ?_
  refine lv_i2l hx hb dL_law_788 rfl ?_
  refine lv_ldc2 hx hb hown (hts _ (gwL _ gw6)) dL_law_789 ?_
  refine lv_land hx hb dL_law_792 ?_
  refine lv_lor hx hb dL_law_793 ?_
  refine lw_cC (As := [.int (xs (i + 1)), .long (lgv (xs (i + 2)) (xs (i + 3))), .long (lgv (xs (i + 4)) (xs (i + 5))), .long (lgv (xs (i + 6)) (xs (i + 7))), .long (lgv (xs (i + 8)) (xs (i + 9)))]) (rest := []) K hW (c_X11_nonce l G K.2.2.2.1 _ C (xs (i + 1)) (lgv (xs (i + 2)) (xs (i + 3))) (lgv (xs (i + 4)) (xs (i + 5))) (lgv (xs (i + 6)) (xs (i + 7))) (lgv (xs (i + 8)) (xs (i + 9))) _ e1) (cwV 5 hts1 (gV gw384 gw385 gw386 gw2 gw387) rfl rfl rfl ⟨rfl, hd_X11_nonce⟩ ⟨Nat.le_of_ble_eq_true rfl, Nat.le_of_ble_eq_true rfl⟩) rfl hl.1 rfl (Nat.le_of_ble_eq_true rfl) dL_law_794 hf (fun H locs hW => ?_)
  refine lv_aload_n hx hb dL_law_797 rfl (lv_at hl 2 rfl) ?_
  refine lw_ld (pc2 := 801) (k := 1) K hW hl (by omega) hL dL_law_798 dL_law_799 (fun _ h => lv_iconst (v := nI 1) hx hb dL_law_800 (by decide) h) dL_law_801 dL_law_802 ?_
  refine lw_ld (pc2 := 806) (k := 2) K hW hl (by omega) hL dL_law_803 dL_law_804 (fun _ h => lv_iconst (v := nI 2) hx hb dL_law_805 (by decide) h) dL_law_806 dL_law_807 ?_
  refine lv_i2l hx hb dL_law_808 rfl ?_
  refine lv_bipush (v := 32) hx hb dL_law_809 (by decide) ?_
  refine lv_lshl hx hb dL_law_811 rfl ?_
  refine lw_ld (pc2 := 815) (k := 3) K hW hl (by omega) hL dL_law_812 dL_law_813 (fun _ h => lv_iconst (v := nI 3) hx hb dL_law_814 (by decide) h) dL_law_815 dL_law_816 ?_
  refine lv_i2l hx hb dL_law_817 rfl ?_
  refine lv_ldc2 hx hb hown (hts _ (gwL _ gw6)) dL_law_818 ?_
  refine lv_land hx hb dL_law_821 ?_
  refine lv_lor hx hb dL_law_822 ?_
  refine lw_ld (pc2 := 826) (k := 4) K hW hl (by omega) hL dL_law_823 dL_law_824 (fun _ h => lv_iconst (v := nI 4) hx hb dL_law_825 (by decide) h) dL_law_826 dL_law_827 ?_
  refine lv_i2l hx hb dL_law_828 rfl ?_
  refine lv_bipush (v := 32) hx hb dL_law_829 (by decide) ?_
  refine lv_lshl hx hb dL_law_831 rfl ?_
  refine lw_ld (pc2 := 835) (k := 5) K hW hl (by omega) hL dL_law_832 dL_law_833 (fun _ h => lv_iconst (v := nI 5) hx hb dL_law_834 (by decide) h) dL_law_835 dL_law_836 ?_
  refine lv_i2l hx hb dL_law_837 rfl ?_
  refine lv_ldc2 hx hb hown (hts _ (gwL _ gw6)) dL_law_838 ?_
  refine lv_land hx hb dL_law_841 ?_
  refine lv_lor hx hb dL_law_842 ?_
  refine lw_ld (pc2 := 847) (k := 6) K hW hl (by omega) hL dL_law_843 dL_law_844 (fun _ h => lv_bipush (v := nI 6) hx hb dL_law_845 (by decide) h) dL_law_847 dL_law_848 ?_
  refine lv_i2l hx hb dL_law_849 rfl ?_
  refine lv_bipush (v := 32) hx hb dL_law_850 (by decide) ?_
  refine lv_lshl hx hb dL_law_852 rfl ?_
  refine lw_ld (pc2 := 857) (k := 7) K hW hl (by omega) hL dL_law_853 dL_law_854 (fun _ h => lv_bipush (v := nI 7) hx hb dL_law_855 (by decide) h) dL_law_857 dL_law_858 ?_
  refine lv_i2l hx hb dL_law_859 rfl ?_
  refine lv_ldc2 hx hb hown (hts _ (gwL _ gw6)) dL_law_860 ?_
  refine lv_land hx hb dL_law_863 ?_
  refine lv_lor hx hb dL_law_864 ?_
  refine lw_ld (pc2 := 869) (k := 8) K hW hl (by omega) hL dL_law_865 dL_law_866 (fun _ h => lv_bipush (v := nI 8) hx hb dL_law_867 (by decide) h) dL_law_869 dL_law_870 ?_
  refine lv_i2l hx hb dL_law_871 rfl ?_
  refine lv_bipush (v := 32) hx hb dL_law_872 (by decide) ?_
  refine lv_lshl hx hb dL_law_874 rfl ?_
  refine lw_ld (pc2 := 879) (k := 9) K hW hl (by omega) hL dL_law_875 dL_law_876 (fun _ h => lv_bipush (v := nI 9) hx hb dL_law_877 (by decide) h) dL_law_879 dL_law_880 ?_
  refine lv_i2l hx hb dL_law_881 rfl ?_
  refine lv_ldc2 hx hb hown (hts _ (gwL _ gw6)) dL_law_882 ?_
  refine lv_land hx hb dL_law_885 ?_
  refine lv_lor hx hb dL_law_886 ?_
  refine lw_cM (As := [.int (xs (i + 1)), .long (lgv (xs (i + 2)) (xs (i + 3))), .long (lgv (xs (i + 4)) (xs (i + 5))), .long (lgv (xs (i + 6)) (xs (i + 7))), .long (lgv (xs (i + 8)) (xs (i + 9)))]) (rest := [.int r]) K hW (c_X12_nonce l G K.2.2.2.2.1 _ M (xs (i + 1)) (lgv (xs (i + 2)) (xs (i + 3))) (lgv (xs (i + 4)) (xs (i + 5))) (lgv (xs (i + 6)) (xs (i + 7))) (lgv (xs (i + 8)) (xs (i + 9))) _ e2) (cwV 5 hts1 (gV gw392 gw393 gw394 gw5 gw395) rfl rfl rfl ⟨rfl, hd_X12_nonce⟩ ⟨Nat.le_of_ble_eq_true rfl, Nat.le_of_ble_eq_true rfl⟩) rfl hl.1 rfl (Nat.le_of_ble_eq_true rfl) dL_law_887 hf (fun H locs hW => ?_)
  refine lv_icmp_eq (tgt := 1330) hx hb dL_law_890 (by decide) (fun _ => ?_) (fun h => absurd rfl h)
  exact kk _ _ _ _ _ _ _ hW hI1
end LCAL
