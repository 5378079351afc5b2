/-! THE LAW'S OWN BODY: the cases of its switch (by program, wip/whole/gen/m_lawc.py) -/
section ZVR
variable {E : zE} {b L : Nat} {xs : Nat → Int} {p : Program} {e : Env} {s : State} {m : MethodId} {below : List Frame} {meth : Method} {c : Code}
variable {nn sl : Nat} {h : zH} {i B : Int} {t n jn old ac rn : Nat}
theorem lw_feed (Wl : lwI (lwC E b p e s m below meth c) b L xs i nn sl) (hB : B ≤ 1000) (r : Rel h h t n jn old ac rn B) (K : lwK (lwC E b p e s m below meth c) b i nn sl B) : zVl (lwC E b p e s m below meth c) nn sl 228 (lvL E b i) [] h := by
  obtain ⟨hs, hL, hnc, hi, hx, hn⟩ := Wl
  refine zL_aload_nr dL_law_228 rfl rfl ?_
  refine zL_arg hs hL rfl rfl (by omega) dL_law_229 dL_law_230 dL_law_232 dL_law_233 dL_law_234 ?_
  refine zL_arg hs hL rfl rfl (by omega) dL_law_235 dL_law_236 dL_law_238 dL_law_239 dL_law_240 ?_
  refine zL_arg hs hL rfl rfl (by omega) dL_law_241 dL_law_242 dL_law_244 dL_law_245 dL_law_246 ?_
  refine zL_arg hs hL rfl rfl (by omega) dL_law_247 dL_law_248 dL_law_250 dL_law_251 dL_law_252 ?_
  refine zL_arg hs hL rfl rfl (by omega) dL_law_253 dL_law_254 dL_law_256 dL_law_257 dL_law_258 ?_
  refine zL_callV (As := [ziv (xs (i + 1).toNat), ziv (xs (i + 2).toNat), ziv (xs (i + 3).toNat), ziv (xs (i + 4).toNat), ziv (xs (i + 5).toNat)]) (k := 0) (st := []) lkL_120 rfl rfl rfl (sd_feed  r) ⟨by decide, by omega, by omega⟩ rfl (by decide) dL_law_259 (fun r1 h1 q => ?_)
  obtain ⟨v, rfl, hm⟩ := q
  show zVl (lwC E b p e s m below meth c) (nn + 4) (sl + 6 * 4) 262 (lvL E b i) [ziv v] h1
  refine zL_aload_nr dL_law_262 rfl rfl ?_
  refine zL_arg hs hL rfl rfl (by omega) dL_law_263 dL_law_264 dL_law_266 dL_law_267 dL_law_268 ?_
  refine zL_arg hs hL rfl rfl (by omega) dL_law_269 dL_law_270 dL_law_272 dL_law_273 dL_law_274 ?_
  refine zL_arg hs hL rfl rfl (by omega) dL_law_275 dL_law_276 dL_law_278 dL_law_279 dL_law_280 ?_
  refine zL_arg hs hL rfl rfl (by omega) dL_law_281 dL_law_282 dL_law_284 dL_law_285 dL_law_286 ?_
  refine zL_arg hs hL rfl rfl (by omega) dL_law_287 dL_law_288 dL_law_290 dL_law_291 dL_law_292 ?_
  refine zL_callV (As := [ziv (xs (i + 1).toNat), ziv (xs (i + 2).toNat), ziv (xs (i + 3).toNat), ziv (xs (i + 4).toNat), ziv (xs (i + 5).toNat)]) (k := 64) (st := [ziv v]) lkL_124 rfl rfl rfl hm ⟨by decide, by omega, by omega⟩ rfl (Nat.le_of_ble_eq_true rfl) dL_law_293 (fun r2 h2 q2 => ?_)
  obtain ⟨rfl, R⟩ := q2
  show zVl (lwC E b p e s m below meth c) (nn + 8) (sl + 48) 296 (lvL E b i) [ziv v, ziv v] h2
  exact zL_icmp_eq (tgt := 2533) dL_law_296 (by decide) (fun _ => K h2 R) (fun z => absurd rfl z)
theorem lw_court (Wl : lwI (lwC E b p e s m below meth c) b L xs i nn sl) (hB : B ≤ 1000) (r : Rel h h t n jn old ac rn B) (K : lwK (lwC E b p e s m below meth c) b i nn sl B) : zVl (lwC E b p e s m below meth c) nn sl 301 (lvL E b i) [] h := by
  obtain ⟨hs, hL, hnc, hi, hx, hn⟩ := Wl
  refine zL_aload_nr dL_law_301 rfl rfl ?_
  refine zL_arg hs hL rfl rfl (by omega) dL_law_302 dL_law_303 dL_law_305 dL_law_306 dL_law_307 ?_
  refine zL_aload_nr dL_law_308 rfl rfl ?_
  refine zL_callSH (As := [zrv E 0, ziv (xs (i + 1).toNat), zrv E 103]) (st := []) slL_125 hnc (st_court (hx _) hB r) ⟨by decide, by omega, by omega⟩ rfl (by decide) dL_law_309 (fun r1 h1 q => ?_)
  obtain ⟨k, rfl, hk, hm⟩ := q
  show zVl (lwC E b p e s m below meth c) (nn + 4) (sl + 6 * 4) 312 (lvL E b i) [ziv k] h1
  refine zL_istore dL_law_312 (show 5 < 7 by decide) rfl ?_
  refine zL_aload_nr dL_law_314 rfl rfl ?_
  refine zL_arg hs hL rfl rfl (by omega) dL_law_315 dL_law_316 dL_law_318 dL_law_319 dL_law_320 ?_
  refine zL_callV (As := [ziv (xs (i + 1).toNat)]) (k := 64) (st := []) lkL_130 rfl rfl rfl hm ⟨by decide, by omega, by omega⟩ rfl (by decide) dL_law_321 (fun r2 h2 q2 => ?_)
  exact zL_tail (pc := 324) q2 hk hn dL_law_324 dL_law_326 dL_law_327 dL_law_330 dL_law_332 dL_law_337 dL_law_339 dL_law_342 dL_law_343 dL_law_344 dL_law_345 dL_law_347 dL_law_348 dL_law_349 dL_law_354 (by decide) K
theorem lw_fault (Wl : lwI (lwC E b p e s m below meth c) b L xs i nn sl) (hB : B ≤ 1000) (r : Rel h h t n jn old ac rn B) (K : lwK (lwC E b p e s m below meth c) b i nn sl B) : zVl (lwC E b p e s m below meth c) nn sl 357 (lvL E b i) [] h := by
  obtain ⟨hs, hL, hnc, hi, hx, hn⟩ := Wl
  refine zL_aload_nr dL_law_357 rfl rfl ?_
  refine zL_callV (As := []) (k := 0) (st := []) lkL_135 rfl rfl rfl (sd_fault  r) ⟨by decide, by omega, by omega⟩ rfl (by decide) dL_law_358 (fun r1 h1 q => ?_)
  obtain ⟨v, rfl, hm⟩ := q
  show zVl (lwC E b p e s m below meth c) (nn + 4) (sl + 6 * 4) 361 (lvL E b i) [ziv v] h1
  refine zL_aload_nr dL_law_361 rfl rfl ?_
  refine zL_callV (As := []) (k := 64) (st := [ziv v]) lkL_138 rfl rfl rfl hm ⟨by decide, by omega, by omega⟩ rfl (Nat.le_of_ble_eq_true rfl) dL_law_362 (fun r2 h2 q2 => ?_)
  obtain ⟨rfl, R⟩ := q2
  show zVl (lwC E b p e s m below meth c) (nn + 8) (sl + 48) 365 (lvL E b i) [ziv v, ziv v] h2
  exact zL_icmp_eq (tgt := 2533) dL_law_365 (by decide) (fun _ => K h2 R) (fun z => absurd rfl z)
theorem lw_count (Wl : lwI (lwC E b p e s m below meth c) b L xs i nn sl) (hB : B ≤ 1000) (r : Rel h h t n jn old ac rn B) (K : lwK (lwC E b p e s m below meth c) b i nn sl B) : zVl (lwC E b p e s m below meth c) nn sl 370 (lvL E b i) [] h := by
  obtain ⟨hs, hL, hnc, hi, hx, hn⟩ := Wl
  refine zL_aload_nr dL_law_370 rfl rfl ?_
  refine zL_arg hs hL rfl rfl (by omega) dL_law_371 dL_law_372 dL_law_374 dL_law_375 dL_law_376 ?_
  refine zL_aload_nr dL_law_377 rfl rfl ?_
  refine zL_callSH (As := [zrv E 0, ziv (xs (i + 1).toNat), zrv E 103]) (st := []) slL_139 hnc (st_count (hx _) r) ⟨by decide, by omega, by omega⟩ rfl (by decide) dL_law_378 (fun r1 h1 q => ?_)
  obtain ⟨k, rfl, hk, hm⟩ := q
  show zVl (lwC E b p e s m below meth c) (nn + 4) (sl + 6 * 4) 381 (lvL E b i) [ziv k] h1
  refine zL_istore dL_law_381 (show 5 < 7 by decide) rfl ?_
  refine zL_aload_nr dL_law_383 rfl rfl ?_
  refine zL_arg hs hL rfl rfl (by omega) dL_law_384 dL_law_385 dL_law_387 dL_law_388 dL_law_389 ?_
  refine zL_callV (As := [ziv (xs (i + 1).toNat)]) (k := 64) (st := []) lkL_141 rfl rfl rfl hm ⟨by decide, by omega, by omega⟩ rfl (by decide) dL_law_390 (fun r2 h2 q2 => ?_)
  exact zL_tail (pc := 393) q2 hk hn dL_law_393 dL_law_395 dL_law_396 dL_law_399 dL_law_401 dL_law_406 dL_law_408 dL_law_411 dL_law_412 dL_law_413 dL_law_414 dL_law_416 dL_law_417 dL_law_418 dL_law_423 (by decide) K
theorem lw_leaf (Wl : lwI (lwC E b p e s m below meth c) b L xs i nn sl) (hB : B ≤ 1000) (r : Rel h h t n jn old ac rn B) (K : lwK (lwC E b p e s m below meth c) b i nn sl B) : zVl (lwC E b p e s m below meth c) nn sl 426 (lvL E b i) [] h := by
  obtain ⟨hs, hL, hnc, hi, hx, hn⟩ := Wl
  refine zL_aload_nr dL_law_426 rfl rfl ?_
  refine zL_arg hs hL rfl rfl (by omega) dL_law_427 dL_law_428 dL_law_430 dL_law_431 dL_law_432 ?_
  refine zL_arg hs hL rfl rfl (by omega) dL_law_433 dL_law_434 dL_law_436 dL_law_437 dL_law_438 ?_
  refine zL_aload_nr dL_law_439 rfl rfl ?_
  refine zL_callSH (As := [zrv E 0, ziv (xs (i + 1).toNat), ziv (xs (i + 2).toNat), zrv E 103]) (st := []) slL_142 hnc (st_leaf (hx _) (hx _) r) ⟨by decide, by omega, by omega⟩ rfl (by decide) dL_law_440 (fun r1 h1 q => ?_)
  obtain ⟨k, rfl, hk, hm⟩ := q
  show zVl (lwC E b p e s m below meth c) (nn + 4) (sl + 6 * 4) 443 (lvL E b i) [ziv k] h1
  refine zL_istore dL_law_443 (show 5 < 7 by decide) rfl ?_
  refine zL_aload_nr dL_law_445 rfl rfl ?_
  refine zL_arg hs hL rfl rfl (by omega) dL_law_446 dL_law_447 dL_law_449 dL_law_450 dL_law_451 ?_
  refine zL_arg hs hL rfl rfl (by omega) dL_law_452 dL_law_453 dL_law_455 dL_law_456 dL_law_457 ?_
  refine zL_callV (As := [ziv (xs (i + 1).toNat), ziv (xs (i + 2).toNat)]) (k := 64) (st := []) lkL_145 rfl rfl rfl hm ⟨by decide, by omega, by omega⟩ rfl (by decide) dL_law_458 (fun r2 h2 q2 => ?_)
  exact zL_tail (pc := 461) q2 hk hn dL_law_461 dL_law_463 dL_law_464 dL_law_467 dL_law_469 dL_law_474 dL_law_476 dL_law_479 dL_law_480 dL_law_481 dL_law_482 dL_law_484 dL_law_485 dL_law_486 dL_law_491 (by decide) K
theorem lw_judge (Wl : lwI (lwC E b p e s m below meth c) b L xs i nn sl) (hB : B ≤ 1000) (r : Rel h h t n jn old ac rn B) (K : lwK (lwC E b p e s m below meth c) b i nn sl B) : zVl (lwC E b p e s m below meth c) nn sl 494 (lvL E b i) [] h := by
  obtain ⟨hs, hL, hnc, hi, hx, hn⟩ := Wl
  refine zL_aload_nr dL_law_494 rfl rfl ?_
  refine zL_arg hs hL rfl rfl (by omega) dL_law_495 dL_law_496 dL_law_498 dL_law_499 dL_law_500 ?_
  refine zL_arg hs hL rfl rfl (by omega) dL_law_501 dL_law_502 dL_law_504 dL_law_505 dL_law_506 ?_
  refine zL_aload_nr dL_law_507 rfl rfl ?_
  refine zL_callSH (As := [zrv E 0, ziv (xs (i + 1).toNat), ziv (xs (i + 2).toNat), zrv E 103]) (st := []) slL_146 hnc (st_judge (hx _) (hx _) r) ⟨by decide, by omega, by omega⟩ rfl (by decide) dL_law_508 (fun r1 h1 q => ?_)
  obtain ⟨k, rfl, hk, hm⟩ := q
  show zVl (lwC E b p e s m below meth c) (nn + 4) (sl + 6 * 4) 511 (lvL E b i) [ziv k] h1
  refine zL_istore dL_law_511 (show 5 < 7 by decide) rfl ?_
  refine zL_aload_nr dL_law_513 rfl rfl ?_
  refine zL_arg hs hL rfl rfl (by omega) dL_law_514 dL_law_515 dL_law_517 dL_law_518 dL_law_519 ?_
  refine zL_arg hs hL rfl rfl (by omega) dL_law_520 dL_law_521 dL_law_523 dL_law_524 dL_law_525 ?_
  refine zL_callV (As := [ziv (xs (i + 1).toNat), ziv (xs (i + 2).toNat)]) (k := 64) (st := []) lkL_148 rfl rfl rfl hm ⟨by decide, by omega, by omega⟩ rfl (by decide) dL_law_526 (fun r2 h2 q2 => ?_)
  exact zL_tail (pc := 529) q2 hk hn dL_law_529 dL_law_531 dL_law_532 dL_law_535 dL_law_537 dL_law_542 dL_law_544 dL_law_547 dL_law_548 dL_law_549 dL_law_550 dL_law_552 dL_law_553 dL_law_554 dL_law_559 (by decide) K
theorem lw_seat (Wl : lwI (lwC E b p e s m below meth c) b L xs i nn sl) (hB : B ≤ 1000) (r : Rel h h t n jn old ac rn B) (K : lwK (lwC E b p e s m below meth c) b i nn sl B) : zVl (lwC E b p e s m below meth c) nn sl 562 (lvL E b i) [] h := by
  obtain ⟨hs, hL, hnc, hi, hx, hn⟩ := Wl
  refine zL_aload_nr dL_law_562 rfl rfl ?_
  refine zL_arg hs hL rfl rfl (by omega) dL_law_563 dL_law_564 dL_law_566 dL_law_567 dL_law_568 ?_
  refine zL_aload_nr dL_law_569 rfl rfl ?_
  refine zL_callSH (As := [zrv E 0, ziv (xs (i + 1).toNat), zrv E 103]) (st := []) slL_149 hnc (st_seat (hx _) r) ⟨by decide, by omega, by omega⟩ rfl (by decide) dL_law_570 (fun r1 h1 q => ?_)
  obtain ⟨k, rfl, hk, hm⟩ := q
  show zVl (lwC E b p e s m below meth c) (nn + 4) (sl + 6 * 4) 573 (lvL E b i) [ziv k] h1
  refine zL_istore dL_law_573 (show 5 < 7 by decide) rfl ?_
  refine zL_aload_nr dL_law_575 rfl rfl ?_
  refine zL_arg hs hL rfl rfl (by omega) dL_law_576 dL_law_577 dL_law_579 dL_law_580 dL_law_581 ?_
  refine zL_callV (As := [ziv (xs (i + 1).toNat)]) (k := 64) (st := []) lkL_151 rfl rfl rfl hm ⟨by decide, by omega, by omega⟩ rfl (by decide) dL_law_582 (fun r2 h2 q2 => ?_)
  exact zL_tail (pc := 585) q2 hk hn dL_law_585 dL_law_587 dL_law_588 dL_law_591 dL_law_593 dL_law_598 dL_law_600 dL_law_603 dL_law_604 dL_law_605 dL_law_606 dL_law_608 dL_law_609 dL_law_610 dL_law_615 (by decide) K
theorem lw_heap (Wl : lwI (lwC E b p e s m below meth c) b L xs i nn sl) (hB : B ≤ 1000) (r : Rel h h t n jn old ac rn B) (K : lwK (lwC E b p e s m below meth c) b i nn sl B) : zVl (lwC E b p e s m below meth c) nn sl 618 (lvL E b i) [] h := by
  obtain ⟨hs, hL, hnc, hi, hx, hn⟩ := Wl
  refine zL_aload_nr dL_law_618 rfl rfl ?_
  refine zL_arg hs hL rfl rfl (by omega) dL_law_619 dL_law_620 dL_law_622 dL_law_623 dL_law_624 ?_
  refine zL_aload_nr dL_law_625 rfl rfl ?_
  refine zL_callSH (As := [zrv E 0, ziv (xs (i + 1).toNat), zrv E 103]) (st := []) slL_152 hnc (st_heap (hx _) r) ⟨by decide, by omega, by omega⟩ rfl (by decide) dL_law_626 (fun r1 h1 q => ?_)
  obtain ⟨k, rfl, hk, hm⟩ := q
  show zVl (lwC E b p e s m below meth c) (nn + 4) (sl + 6 * 4) 629 (lvL E b i) [ziv k] h1
  refine zL_istore dL_law_629 (show 5 < 7 by decide) rfl ?_
  refine zL_aload_nr dL_law_631 rfl rfl ?_
  refine zL_arg hs hL rfl rfl (by omega) dL_law_632 dL_law_633 dL_law_635 dL_law_636 dL_law_637 ?_
  refine zL_callV (As := [ziv (xs (i + 1).toNat)]) (k := 64) (st := []) lkL_154 rfl rfl rfl hm ⟨by decide, by omega, by omega⟩ rfl (by decide) dL_law_638 (fun r2 h2 q2 => ?_)
  exact zL_tail (pc := 641) q2 hk hn dL_law_641 dL_law_643 dL_law_644 dL_law_647 dL_law_649 dL_law_654 dL_law_656 dL_law_659 dL_law_660 dL_law_661 dL_law_662 dL_law_664 dL_law_665 dL_law_666 dL_law_671 (by decide) K
theorem lw_cases (Wl : lwI (lwC E b p e s m below meth c) b L xs i nn sl) (hB : B ≤ 1000) (r : Rel h h t n jn old ac rn B) (K : lwK (lwC E b p e s m below meth c) b i nn sl B) : zVl (lwC E b p e s m below meth c) nn sl 674 (lvL E b i) [] h := by
  obtain ⟨hs, hL, hnc, hi, hx, hn⟩ := Wl
  refine zL_aload_nr dL_law_674 rfl rfl ?_
  refine zL_arg hs hL rfl rfl (by omega) dL_law_675 dL_law_676 dL_law_678 dL_law_679 dL_law_680 ?_
  refine zL_callV (As := [ziv (xs (i + 1).toNat)]) (k := 0) (st := []) lkL_155 rfl rfl rfl (sd_cases (hx _) r) ⟨by decide, by omega, by omega⟩ rfl (by decide) dL_law_681 (fun r1 h1 q => ?_)
  obtain ⟨v, rfl, hm⟩ := q
  show zVl (lwC E b p e s m below meth c) (nn + 4) (sl + 6 * 4) 684 (lvL E b i) [ziv v] h1
  refine zL_aload_nr dL_law_684 rfl rfl ?_
  refine zL_arg hs hL rfl rfl (by omega) dL_law_685 dL_law_686 dL_law_688 dL_law_689 dL_law_690 ?_
  refine zL_callV (As := [ziv (xs (i + 1).toNat)]) (k := 64) (st := [ziv v]) lkL_158 rfl rfl rfl hm ⟨by decide, by omega, by omega⟩ rfl (Nat.le_of_ble_eq_true rfl) dL_law_691 (fun r2 h2 q2 => ?_)
  obtain ⟨rfl, R⟩ := q2
  show zVl (lwC E b p e s m below meth c) (nn + 8) (sl + 48) 694 (lvL E b i) [ziv v, ziv v] h2
  exact zL_icmp_eq (tgt := 2533) dL_law_694 (by decide) (fun _ => K h2 R) (fun z => absurd rfl z)
theorem lw_change (Wl : lwI (lwC E b p e s m below meth c) b L xs i nn sl) (hB : B ≤ 1000) (r : Rel h h t n jn old ac rn B) (K : lwK (lwC E b p e s m below meth c) b i nn sl B) : zVl (lwC E b p e s m below meth c) nn sl 699 (lvL E b i) [] h := by
  obtain ⟨hs, hL, hnc, hi, hx, hn⟩ := Wl
  refine zL_aload_nr dL_law_699 rfl rfl ?_
  refine zL_arg hs hL rfl rfl (by omega) dL_law_700 dL_law_701 dL_law_703 dL_law_704 dL_law_705 ?_
  refine zL_arg hs hL rfl rfl (by omega) dL_law_706 dL_law_707 dL_law_709 dL_law_710 dL_law_711 ?_
  refine zL_aload_nr dL_law_712 rfl rfl ?_
  refine zL_callSH (As := [zrv E 0, ziv (xs (i + 1).toNat), ziv (xs (i + 2).toNat), zrv E 103]) (st := []) slL_159 hnc (st_change (hx _) (hx _) r) ⟨by decide, by omega, by omega⟩ rfl (by decide) dL_law_713 (fun r1 h1 q => ?_)
  obtain ⟨k, rfl, hk, hm⟩ := q
  show zVl (lwC E b p e s m below meth c) (nn + 4) (sl + 6 * 4) 716 (lvL E b i) [ziv k] h1
  refine zL_istore dL_law_716 (show 5 < 7 by decide) rfl ?_
  refine zL_aload_nr dL_law_718 rfl rfl ?_
  refine zL_arg hs hL rfl rfl (by omega) dL_law_719 dL_law_720 dL_law_722 dL_law_723 dL_law_724 ?_
  refine zL_arg hs hL rfl rfl (by omega) dL_law_725 dL_law_726 dL_law_728 dL_law_729 dL_law_730 ?_
  refine zL_callV (As := [ziv (xs (i + 1).toNat), ziv (xs (i + 2).toNat)]) (k := 64) (st := []) lkL_161 rfl rfl rfl hm ⟨by decide, by omega, by omega⟩ rfl (by decide) dL_law_731 (fun r2 h2 q2 => ?_)
  exact zL_tailZ (pc := 734) q2 hk hn dL_law_734 dL_law_736 dL_law_737 dL_law_740 dL_law_742 dL_law_747 dL_law_749 dL_law_752 dL_law_753 dL_law_754 dL_law_755 dL_law_757 dL_law_760 dL_law_761 dL_law_764 dL_law_765 dL_law_766 dL_law_771 (by decide) K
theorem lw_hand (Wl : lwI (lwC E b p e s m below meth c) b L xs i nn sl) (hB : B ≤ 1000) (r : Rel h h t n jn old ac rn B) (K : lwK (lwC E b p e s m below meth c) b i nn sl B) : zVl (lwC E b p e s m below meth c) nn sl 774 (lvL E b i) [] h := by
  obtain ⟨hs, hL, hnc, hi, hx, hn⟩ := Wl
  refine zL_aload_nr dL_law_774 rfl rfl ?_
  refine zL_arg hs hL rfl rfl (by omega) dL_law_775 dL_law_776 dL_law_778 dL_law_779 dL_law_780 ?_
  refine zL_arg hs hL rfl rfl (by omega) dL_law_781 dL_law_782 dL_law_784 dL_law_785 dL_law_786 ?_
  refine zL_aload_nr dL_law_787 rfl rfl ?_
  refine zL_callSH (As := [zrv E 0, ziv (xs (i + 1).toNat), ziv (xs (i + 2).toNat), zrv E 103]) (st := []) slL_162 hnc (st_hand (hx _) (hx _) r) ⟨by decide, by omega, by omega⟩ rfl (by decide) dL_law_788 (fun r1 h1 q => ?_)
  obtain ⟨k, rfl, hk, hm⟩ := q
  show zVl (lwC E b p e s m below meth c) (nn + 4) (sl + 6 * 4) 791 (lvL E b i) [ziv k] h1
  refine zL_istore dL_law_791 (show 5 < 7 by decide) rfl ?_
  refine zL_aload_nr dL_law_793 rfl rfl ?_
  refine zL_arg hs hL rfl rfl (by omega) dL_law_794 dL_law_795 dL_law_797 dL_law_798 dL_law_799 ?_
  refine zL_arg hs hL rfl rfl (by omega) dL_law_800 dL_law_801 dL_law_803 dL_law_804 dL_law_805 ?_
  refine zL_callV (As := [ziv (xs (i + 1).toNat), ziv (xs (i + 2).toNat)]) (k := 64) (st := []) lkL_164 rfl rfl rfl hm ⟨by decide, by omega, by omega⟩ rfl (by decide) dL_law_806 (fun r2 h2 q2 => ?_)
  exact zL_tail (pc := 809) q2 hk hn dL_law_809 dL_law_811 dL_law_812 dL_law_815 dL_law_817 dL_law_822 dL_law_824 dL_law_827 dL_law_828 dL_law_829 dL_law_830 dL_law_832 dL_law_833 dL_law_834 dL_law_839 (by decide) K
theorem lw_pot (Wl : lwI (lwC E b p e s m below meth c) b L xs i nn sl) (hB : B ≤ 1000) (r : Rel h h t n jn old ac rn B) (K : lwK (lwC E b p e s m below meth c) b i nn sl B) : zVl (lwC E b p e s m below meth c) nn sl 842 (lvL E b i) [] h := by
  obtain ⟨hs, hL, hnc, hi, hx, hn⟩ := Wl
  refine zL_aload_nr dL_law_842 rfl rfl ?_
  refine zL_arg hs hL rfl rfl (by omega) dL_law_843 dL_law_844 dL_law_846 dL_law_847 dL_law_848 ?_
  refine zL_callV (As := [ziv (xs (i + 1).toNat)]) (k := 0) (st := []) lkL_165 rfl rfl rfl (sd_pot (hx _) r) ⟨by decide, by omega, by omega⟩ rfl (by decide) dL_law_849 (fun r1 h1 q => ?_)
  obtain ⟨v, rfl, hm⟩ := q
  show zVl (lwC E b p e s m below meth c) (nn + 4) (sl + 6 * 4) 852 (lvL E b i) [ziv v] h1
  refine zL_aload_nr dL_law_852 rfl rfl ?_
  refine zL_arg hs hL rfl rfl (by omega) dL_law_853 dL_law_854 dL_law_856 dL_law_857 dL_law_858 ?_
  refine zL_callV (As := [ziv (xs (i + 1).toNat)]) (k := 64) (st := [ziv v]) lkL_168 rfl rfl rfl hm ⟨by decide, by omega, by omega⟩ rfl (Nat.le_of_ble_eq_true rfl) dL_law_859 (fun r2 h2 q2 => ?_)
  obtain ⟨rfl, R⟩ := q2
  show zVl (lwC E b p e s m below meth c) (nn + 8) (sl + 48) 862 (lvL E b i) [ziv v, ziv v] h2
  exact zL_icmp_eq (tgt := 2533) dL_law_862 (by decide) (fun _ => K h2 R) (fun z => absurd rfl z)
theorem lw_put (Wl : lwI (lwC E b p e s m below meth c) b L xs i nn sl) (hB : B ≤ 1000) (r : Rel h h t n jn old ac rn B) (K : lwK (lwC E b p e s m below meth c) b i nn sl B) : zVl (lwC E b p e s m below meth c) nn sl 867 (lvL E b i) [] h := by
  obtain ⟨hs, hL, hnc, hi, hx, hn⟩ := Wl
  refine zL_aload_nr dL_law_867 rfl rfl ?_
  refine zL_arg hs hL rfl rfl (by omega) dL_law_868 dL_law_869 dL_law_871 dL_law_872 dL_law_873 ?_
  refine zL_arg hs hL rfl rfl (by omega) dL_law_874 dL_law_875 dL_law_877 dL_law_878 dL_law_879 ?_
  refine zL_aload_nr dL_law_880 rfl rfl ?_
  refine zL_callSH (As := [zrv E 0, ziv (xs (i + 1).toNat), ziv (xs (i + 2).toNat), zrv E 103]) (st := []) slL_169 hnc (st_put (hx _) (hx _) r) ⟨by decide, by omega, by omega⟩ rfl (by decide) dL_law_881 (fun r1 h1 q => ?_)
  obtain ⟨k, rfl, hk, hm⟩ := q
  show zVl (lwC E b p e s m below meth c) (nn + 4) (sl + 6 * 4) 884 (lvL E b i) [ziv k] h1
  refine zL_istore dL_law_884 (show 5 < 7 by decide) rfl ?_
  refine zL_aload_nr dL_law_886 rfl rfl ?_
  refine zL_arg hs hL rfl rfl (by omega) dL_law_887 dL_law_888 dL_law_890 dL_law_891 dL_law_892 ?_
  refine zL_arg hs hL rfl rfl (by omega) dL_law_893 dL_law_894 dL_law_896 dL_law_897 dL_law_898 ?_
  refine zL_callV (As := [ziv (xs (i + 1).toNat), ziv (xs (i + 2).toNat)]) (k := 64) (st := []) lkL_171 rfl rfl rfl hm ⟨by decide, by omega, by omega⟩ rfl (by decide) dL_law_899 (fun r2 h2 q2 => ?_)
  exact zL_tail (pc := 902) q2 hk hn dL_law_902 dL_law_904 dL_law_905 dL_law_908 dL_law_910 dL_law_915 dL_law_917 dL_law_920 dL_law_921 dL_law_922 dL_law_923 dL_law_925 dL_law_926 dL_law_927 dL_law_932 (by decide) K
theorem lw_undo (Wl : lwI (lwC E b p e s m below meth c) b L xs i nn sl) (hB : B ≤ 1000) (r : Rel h h t n jn old ac rn B) (K : lwK (lwC E b p e s m below meth c) b i nn sl B) : zVl (lwC E b p e s m below meth c) nn sl 935 (lvL E b i) [] h := by
  obtain ⟨hs, hL, hnc, hi, hx, hn⟩ := Wl
  refine zL_aload_nr dL_law_935 rfl rfl ?_
  refine zL_callV (As := []) (k := 0) (st := []) lkL_172 rfl rfl rfl (sd_undo  r) ⟨by decide, by omega, by omega⟩ rfl (by decide) dL_law_936 (fun r1 h1 q => ?_)
  obtain ⟨v, rfl, hm⟩ := q
  show zVl (lwC E b p e s m below meth c) (nn + 4) (sl + 6 * 4) 939 (lvL E b i) [ziv v] h1
  refine zL_aload_nr dL_law_939 rfl rfl ?_
  refine zL_callV (As := []) (k := 64) (st := [ziv v]) lkL_175 rfl rfl rfl hm ⟨by decide, by omega, by omega⟩ rfl (Nat.le_of_ble_eq_true rfl) dL_law_940 (fun r2 h2 q2 => ?_)
  obtain ⟨rfl, R⟩ := q2
  show zVl (lwC E b p e s m below meth c) (nn + 8) (sl + 48) 943 (lvL E b i) [ziv v, ziv v] h2
  exact zL_icmp_eq (tgt := 2533) dL_law_943 (by decide) (fun _ => K h2 R) (fun z => absurd rfl z)
theorem lw_verdict (Wl : lwI (lwC E b p e s m below meth c) b L xs i nn sl) (hB : B ≤ 1000) (r : Rel h h t n jn old ac rn B) (K : lwK (lwC E b p e s m below meth c) b i nn sl B) : zVl (lwC E b p e s m below meth c) nn sl 948 (lvL E b i) [] h := by
  obtain ⟨hs, hL, hnc, hi, hx, hn⟩ := Wl
  refine zL_aload_nr dL_law_948 rfl rfl ?_
  refine zL_arg hs hL rfl rfl (by omega) dL_law_949 dL_law_950 dL_law_952 dL_law_953 dL_law_954 ?_
  refine zL_arg hs hL rfl rfl (by omega) dL_law_955 dL_law_956 dL_law_958 dL_law_959 dL_law_960 ?_
  refine zL_aload_nr dL_law_961 rfl rfl ?_
  refine zL_callSH (As := [zrv E 0, ziv (xs (i + 1).toNat), ziv (xs (i + 2).toNat), zrv E 103]) (st := []) slL_176 hnc (st_verdict (hx _) (hx _) r) ⟨by decide, by omega, by omega⟩ rfl (by decide) dL_law_962 (fun r1 h1 q => ?_)
  obtain ⟨k, rfl, hk, hm⟩ := q
  show zVl (lwC E b p e s m below meth c) (nn + 4) (sl + 6 * 4) 965 (lvL E b i) [ziv k] h1
  refine zL_istore dL_law_965 (show 5 < 7 by decide) rfl ?_
  refine zL_aload_nr dL_law_967 rfl rfl ?_
  refine zL_arg hs hL rfl rfl (by omega) dL_law_968 dL_law_969 dL_law_971 dL_law_972 dL_law_973 ?_
  refine zL_arg hs hL rfl rfl (by omega) dL_law_974 dL_law_975 dL_law_977 dL_law_978 dL_law_979 ?_
  refine zL_callV (As := [ziv (xs (i + 1).toNat), ziv (xs (i + 2).toNat)]) (k := 64) (st := []) lkL_178 rfl rfl rfl hm ⟨by decide, by omega, by omega⟩ rfl (by decide) dL_law_980 (fun r2 h2 q2 => ?_)
  exact zL_tail (pc := 983) q2 hk hn dL_law_983 dL_law_985 dL_law_986 dL_law_989 dL_law_991 dL_law_996 dL_law_998 dL_law_1001 dL_law_1002 dL_law_1003 dL_law_1004 dL_law_1006 dL_law_1007 dL_law_1008 dL_law_1013 (by decide) K
theorem lw_lies (Wl : lwI (lwC E b p e s m below meth c) b L xs i nn sl) (hB : B ≤ 1000) (r : Rel h h t n jn old ac rn B) (K : lwK (lwC E b p e s m below meth c) b i nn sl B) : zVl (lwC E b p e s m below meth c) nn sl 1016 (lvL E b i) [] h := by
  obtain ⟨hs, hL, hnc, hi, hx, hn⟩ := Wl
  refine zL_aload_nr dL_law_1016 rfl rfl ?_
  refine zL_arg hs hL rfl rfl (by omega) dL_law_1017 dL_law_1018 dL_law_1020 dL_law_1021 dL_law_1022 ?_
  refine zL_arg hs hL rfl rfl (by omega) dL_law_1023 dL_law_1024 dL_law_1026 dL_law_1027 dL_law_1028 ?_
  refine zL_aload_nr dL_law_1029 rfl rfl ?_
  refine zL_callSH (As := [zrv E 0, ziv (xs (i + 1).toNat), ziv (xs (i + 2).toNat), zrv E 103]) (st := []) slL_179 hnc (st_lies (hx _) (hx _) r) ⟨by decide, by omega, by omega⟩ rfl (by decide) dL_law_1030 (fun r1 h1 q => ?_)
  obtain ⟨k, rfl, hk, hm⟩ := q
  show zVl (lwC E b p e s m below meth c) (nn + 4) (sl + 6 * 4) 1033 (lvL E b i) [ziv k] h1
  refine zL_istore dL_law_1033 (show 5 < 7 by decide) rfl ?_
  refine zL_aload_nr dL_law_1035 rfl rfl ?_
  refine zL_arg hs hL rfl rfl (by omega) dL_law_1036 dL_law_1037 dL_law_1039 dL_law_1040 dL_law_1041 ?_
  refine zL_arg hs hL rfl rfl (by omega) dL_law_1042 dL_law_1043 dL_law_1045 dL_law_1046 dL_law_1047 ?_
  refine zL_callV (As := [ziv (xs (i + 1).toNat), ziv (xs (i + 2).toNat)]) (k := 64) (st := []) lkL_181 rfl rfl rfl hm ⟨by decide, by omega, by omega⟩ rfl (by decide) dL_law_1048 (fun r2 h2 q2 => ?_)
  exact zL_tail (pc := 1051) q2 hk hn dL_law_1051 dL_law_1053 dL_law_1054 dL_law_1057 dL_law_1059 dL_law_1064 dL_law_1066 dL_law_1069 dL_law_1070 dL_law_1071 dL_law_1072 dL_law_1074 dL_law_1075 dL_law_1076 dL_law_1081 (by decide) K
theorem lw_often (Wl : lwI (lwC E b p e s m below meth c) b L xs i nn sl) (hB : B ≤ 1000) (r : Rel h h t n jn old ac rn B) (K : lwK (lwC E b p e s m below meth c) b i nn sl B) : zVl (lwC E b p e s m below meth c) nn sl 1084 (lvL E b i) [] h := by
  obtain ⟨hs, hL, hnc, hi, hx, hn⟩ := Wl
  refine zL_aload_nr dL_law_1084 rfl rfl ?_
  refine zL_arg hs hL rfl rfl (by omega) dL_law_1085 dL_law_1086 dL_law_1088 dL_law_1089 dL_law_1090 ?_
  refine zL_arg hs hL rfl rfl (by omega) dL_law_1091 dL_law_1092 dL_law_1094 dL_law_1095 dL_law_1096 ?_
  refine zL_aload_nr dL_law_1097 rfl rfl ?_
  refine zL_callSH (As := [zrv E 0, ziv (xs (i + 1).toNat), ziv (xs (i + 2).toNat), zrv E 103]) (st := []) slL_182 hnc (st_often (hx _) (hx _) r) ⟨by decide, by omega, by omega⟩ rfl (by decide) dL_law_1098 (fun r1 h1 q => ?_)
  obtain ⟨k, rfl, hk, hm⟩ := q
  show zVl (lwC E b p e s m below meth c) (nn + 4) (sl + 6 * 4) 1101 (lvL E b i) [ziv k] h1
  refine zL_istore dL_law_1101 (show 5 < 7 by decide) rfl ?_
  refine zL_aload_nr dL_law_1103 rfl rfl ?_
  refine zL_arg hs hL rfl rfl (by omega) dL_law_1104 dL_law_1105 dL_law_1107 dL_law_1108 dL_law_1109 ?_
  refine zL_arg hs hL rfl rfl (by omega) dL_law_1110 dL_law_1111 dL_law_1113 dL_law_1114 dL_law_1115 ?_
  refine zL_callV (As := [ziv (xs (i + 1).toNat), ziv (xs (i + 2).toNat)]) (k := 64) (st := []) lkL_184 rfl rfl rfl hm ⟨by decide, by omega, by omega⟩ rfl (by decide) dL_law_1116 (fun r2 h2 q2 => ?_)
  exact zL_tail (pc := 1119) q2 hk hn dL_law_1119 dL_law_1121 dL_law_1122 dL_law_1125 dL_law_1127 dL_law_1132 dL_law_1134 dL_law_1137 dL_law_1138 dL_law_1139 dL_law_1140 dL_law_1142 dL_law_1143 dL_law_1144 dL_law_1149 (by decide) K
theorem lw_first (Wl : lwI (lwC E b p e s m below meth c) b L xs i nn sl) (hB : B ≤ 1000) (r : Rel h h t n jn old ac rn B) (K : lwK (lwC E b p e s m below meth c) b i nn sl B) : zVl (lwC E b p e s m below meth c) nn sl 1152 (lvL E b i) [] h := by
  obtain ⟨hs, hL, hnc, hi, hx, hn⟩ := Wl
  refine zL_aload_nr dL_law_1152 rfl rfl ?_
  refine zL_arg hs hL rfl rfl (by omega) dL_law_1153 dL_law_1154 dL_law_1156 dL_law_1157 dL_law_1158 ?_
  refine zL_aload_nr dL_law_1159 rfl rfl ?_
  refine zL_callSH (As := [zrv E 0, ziv (xs (i + 1).toNat), zrv E 103]) (st := []) slL_185 hnc (st_first (hx _) r) ⟨by decide, by omega, by omega⟩ rfl (by decide) dL_law_1160 (fun r1 h1 q => ?_)
  obtain ⟨k, rfl, hk, hm⟩ := q
  show zVl (lwC E b p e s m below meth c) (nn + 4) (sl + 6 * 4) 1163 (lvL E b i) [ziv k] h1
  refine zL_istore dL_law_1163 (show 5 < 7 by decide) rfl ?_
  refine zL_aload_nr dL_law_1165 rfl rfl ?_
  refine zL_arg hs hL rfl rfl (by omega) dL_law_1166 dL_law_1167 dL_law_1169 dL_law_1170 dL_law_1171 ?_
  refine zL_callV (As := [ziv (xs (i + 1).toNat)]) (k := 64) (st := []) lkL_187 rfl rfl rfl hm ⟨by decide, by omega, by omega⟩ rfl (by decide) dL_law_1172 (fun r2 h2 q2 => ?_)
  exact zL_tail (pc := 1175) q2 hk hn dL_law_1175 dL_law_1177 dL_law_1178 dL_law_1181 dL_law_1183 dL_law_1188 dL_law_1190 dL_law_1193 dL_law_1194 dL_law_1195 dL_law_1196 dL_law_1198 dL_law_1199 dL_law_1200 dL_law_1205 (by decide) K
theorem lw_round (Wl : lwI (lwC E b p e s m below meth c) b L xs i nn sl) (hB : B ≤ 1000) (r : Rel h h t n jn old ac rn B) (K : lwK (lwC E b p e s m below meth c) b i nn sl B) : zVl (lwC E b p e s m below meth c) nn sl 1208 (lvL E b i) [] h := by
  obtain ⟨hs, hL, hnc, hi, hx, hn⟩ := Wl
  refine zL_aload_nr dL_law_1208 rfl rfl ?_
  refine zL_callV (As := []) (k := 0) (st := []) lkL_188 rfl rfl rfl (sd_round  r) ⟨by decide, by omega, by omega⟩ rfl (by decide) dL_law_1209 (fun r1 h1 q => ?_)
  obtain ⟨v, rfl, hm⟩ := q
  show zVl (lwC E b p e s m below meth c) (nn + 4) (sl + 6 * 4) 1212 (lvL E b i) [ziv v] h1
  refine zL_aload_nr dL_law_1212 rfl rfl ?_
  refine zL_callV (As := []) (k := 64) (st := [ziv v]) lkL_191 rfl rfl rfl hm ⟨by decide, by omega, by omega⟩ rfl (Nat.le_of_ble_eq_true rfl) dL_law_1213 (fun r2 h2 q2 => ?_)
  obtain ⟨rfl, R⟩ := q2
  show zVl (lwC E b p e s m below meth c) (nn + 8) (sl + 48) 1216 (lvL E b i) [ziv v, ziv v] h2
  exact zL_icmp_eq (tgt := 2533) dL_law_1216 (by decide) (fun _ => K h2 R) (fun z => absurd rfl z)
theorem lw_pleased (Wl : lwI (lwC E b p e s m below meth c) b L xs i nn sl) (hB : B ≤ 1000) (r : Rel h h t n jn old ac rn B) (K : lwK (lwC E b p e s m below meth c) b i nn sl B) : zVl (lwC E b p e s m below meth c) nn sl 1221 (lvL E b i) [] h := by
  obtain ⟨hs, hL, hnc, hi, hx, hn⟩ := Wl
  refine zL_aload_nr dL_law_1221 rfl rfl ?_
  refine zL_arg hs hL rfl rfl (by omega) dL_law_1222 dL_law_1223 dL_law_1225 dL_law_1226 dL_law_1227 ?_
  refine zL_aload_nr dL_law_1228 rfl rfl ?_
  refine zL_callSH (As := [zrv E 0, ziv (xs (i + 1).toNat), zrv E 103]) (st := []) slL_192 hnc (st_pleased (hx _) r) ⟨by decide, by omega, by omega⟩ rfl (by decide) dL_law_1229 (fun r1 h1 q => ?_)
  obtain ⟨k, rfl, hk, hm⟩ := q
  show zVl (lwC E b p e s m below meth c) (nn + 4) (sl + 6 * 4) 1232 (lvL E b i) [ziv k] h1
  refine zL_istore dL_law_1232 (show 5 < 7 by decide) rfl ?_
  refine zL_aload_nr dL_law_1234 rfl rfl ?_
  refine zL_arg hs hL rfl rfl (by omega) dL_law_1235 dL_law_1236 dL_law_1238 dL_law_1239 dL_law_1240 ?_
  refine zL_callV (As := [ziv (xs (i + 1).toNat)]) (k := 64) (st := []) lkL_194 rfl rfl rfl hm ⟨by decide, by omega, by omega⟩ rfl (by decide) dL_law_1241 (fun r2 h2 q2 => ?_)
  exact zL_tail (pc := 1244) q2 hk hn dL_law_1244 dL_law_1246 dL_law_1247 dL_law_1250 dL_law_1252 dL_law_1257 dL_law_1259 dL_law_1262 dL_law_1263 dL_law_1264 dL_law_1265 dL_law_1267 dL_law_1268 dL_law_1269 dL_law_1274 (by decide) K
theorem lw_swept (Wl : lwI (lwC E b p e s m below meth c) b L xs i nn sl) (hB : B ≤ 1000) (r : Rel h h t n jn old ac rn B) (K : lwK (lwC E b p e s m below meth c) b i nn sl B) : zVl (lwC E b p e s m below meth c) nn sl 1277 (lvL E b i) [] h := by
  obtain ⟨hs, hL, hnc, hi, hx, hn⟩ := Wl
  refine zL_aload_nr dL_law_1277 rfl rfl ?_
  refine zL_arg hs hL rfl rfl (by omega) dL_law_1278 dL_law_1279 dL_law_1281 dL_law_1282 dL_law_1283 ?_
  refine zL_aload_nr dL_law_1284 rfl rfl ?_
  refine zL_callSH (As := [zrv E 0, ziv (xs (i + 1).toNat), zrv E 103]) (st := []) slL_195 hnc (st_swept (hx _) r) ⟨by decide, by omega, by omega⟩ rfl (by decide) dL_law_1285 (fun r1 h1 q => ?_)
  obtain ⟨k, rfl, hk, hm⟩ := q
  show zVl (lwC E b p e s m below meth c) (nn + 4) (sl + 6 * 4) 1288 (lvL E b i) [ziv k] h1
  refine zL_istore dL_law_1288 (show 5 < 7 by decide) rfl ?_
  refine zL_aload_nr dL_law_1290 rfl rfl ?_
  refine zL_arg hs hL rfl rfl (by omega) dL_law_1291 dL_law_1292 dL_law_1294 dL_law_1295 dL_law_1296 ?_
  refine zL_callV (As := [ziv (xs (i + 1).toNat)]) (k := 64) (st := []) lkL_197 rfl rfl rfl hm ⟨by decide, by omega, by omega⟩ rfl (by decide) dL_law_1297 (fun r2 h2 q2 => ?_)
  exact zL_tail (pc := 1300) q2 hk hn dL_law_1300 dL_law_1302 dL_law_1303 dL_law_1306 dL_law_1308 dL_law_1313 dL_law_1315 dL_law_1318 dL_law_1319 dL_law_1320 dL_law_1321 dL_law_1323 dL_law_1324 dL_law_1325 dL_law_1330 (by decide) K
theorem lw_orders (Wl : lwI (lwC E b p e s m below meth c) b L xs i nn sl) (hB : B ≤ 1000) (r : Rel h h t n jn old ac rn B) (K : lwK (lwC E b p e s m below meth c) b i nn sl B) : zVl (lwC E b p e s m below meth c) nn sl 1333 (lvL E b i) [] h := by
  obtain ⟨hs, hL, hnc, hi, hx, hn⟩ := Wl
  refine zL_aload_nr dL_law_1333 rfl rfl ?_
  refine zL_arg hs hL rfl rfl (by omega) dL_law_1334 dL_law_1335 dL_law_1337 dL_law_1338 dL_law_1339 ?_
  refine zL_arg hs hL rfl rfl (by omega) dL_law_1340 dL_law_1341 dL_law_1343 dL_law_1344 dL_law_1345 ?_
  refine zL_aload_nr dL_law_1346 rfl rfl ?_
  refine zL_callSH (As := [zrv E 0, ziv (xs (i + 1).toNat), ziv (xs (i + 2).toNat), zrv E 103]) (st := []) slL_198 hnc (st_orders (hx _) (hx _) r) ⟨by decide, by omega, by omega⟩ rfl (by decide) dL_law_1347 (fun r1 h1 q => ?_)
  obtain ⟨k, rfl, hk, hm⟩ := q
  show zVl (lwC E b p e s m below meth c) (nn + 4) (sl + 6 * 4) 1350 (lvL E b i) [ziv k] h1
  refine zL_istore dL_law_1350 (show 5 < 7 by decide) rfl ?_
  refine zL_aload_nr dL_law_1352 rfl rfl ?_
  refine zL_arg hs hL rfl rfl (by omega) dL_law_1353 dL_law_1354 dL_law_1356 dL_law_1357 dL_law_1358 ?_
  refine zL_arg hs hL rfl rfl (by omega) dL_law_1359 dL_law_1360 dL_law_1362 dL_law_1363 dL_law_1364 ?_
  refine zL_callV (As := [ziv (xs (i + 1).toNat), ziv (xs (i + 2).toNat)]) (k := 64) (st := []) lkL_200 rfl rfl rfl hm ⟨by decide, by omega, by omega⟩ rfl (by decide) dL_law_1365 (fun r2 h2 q2 => ?_)
  exact zL_tail (pc := 1368) q2 hk hn dL_law_1368 dL_law_1370 dL_law_1371 dL_law_1374 dL_law_1376 dL_law_1381 dL_law_1383 dL_law_1386 dL_law_1387 dL_law_1388 dL_law_1389 dL_law_1391 dL_law_1392 dL_law_1393 dL_law_1398 (by decide) K
theorem lw_decisive (Wl : lwI (lwC E b p e s m below meth c) b L xs i nn sl) (hB : B ≤ 1000) (r : Rel h h t n jn old ac rn B) (K : lwK (lwC E b p e s m below meth c) b i nn sl B) : zVl (lwC E b p e s m below meth c) nn sl 1401 (lvL E b i) [] h := by
  obtain ⟨hs, hL, hnc, hi, hx, hn⟩ := Wl
  refine zL_aload_nr dL_law_1401 rfl rfl ?_
  refine zL_callV (As := []) (k := 0) (st := []) lkL_201 rfl rfl rfl (sd_decisive  r) ⟨by decide, by omega, by omega⟩ rfl (by decide) dL_law_1402 (fun r1 h1 q => ?_)
  obtain ⟨v, rfl, hm⟩ := q
  show zVl (lwC E b p e s m below meth c) (nn + 4) (sl + 6 * 4) 1405 (lvL E b i) [ziv v] h1
  refine zL_aload_nr dL_law_1405 rfl rfl ?_
  refine zL_callV (As := []) (k := 64) (st := [ziv v]) lkL_204 rfl rfl rfl hm ⟨by decide, by omega, by omega⟩ rfl (Nat.le_of_ble_eq_true rfl) dL_law_1406 (fun r2 h2 q2 => ?_)
  obtain ⟨rfl, R⟩ := q2
  show zVl (lwC E b p e s m below meth c) (nn + 8) (sl + 48) 1409 (lvL E b i) [ziv v, ziv v] h2
  exact zL_icmp_eq (tgt := 2533) dL_law_1409 (by decide) (fun _ => K h2 R) (fun z => absurd rfl z)
theorem lw_toTurn (Wl : lwI (lwC E b p e s m below meth c) b L xs i nn sl) (hB : B ≤ 1000) (r : Rel h h t n jn old ac rn B) (K : lwK (lwC E b p e s m below meth c) b i nn sl B) : zVl (lwC E b p e s m below meth c) nn sl 1414 (lvL E b i) [] h := by
  obtain ⟨hs, hL, hnc, hi, hx, hn⟩ := Wl
  refine zL_aload_nr dL_law_1414 rfl rfl ?_
  refine zL_arg hs hL rfl rfl (by omega) dL_law_1415 dL_law_1416 dL_law_1418 dL_law_1419 dL_law_1420 ?_
  refine zL_aload_nr dL_law_1421 rfl rfl ?_
  refine zL_callSH (As := [zrv E 0, ziv (xs (i + 1).toNat), zrv E 103]) (st := []) slL_205 hnc (st_toTurn (hx _) r) ⟨by decide, by omega, by omega⟩ rfl (by decide) dL_law_1422 (fun r1 h1 q => ?_)
  obtain ⟨k, rfl, hk, hm⟩ := q
  show zVl (lwC E b p e s m below meth c) (nn + 4) (sl + 6 * 4) 1425 (lvL E b i) [ziv k] h1
  refine zL_istore dL_law_1425 (show 5 < 7 by decide) rfl ?_
  refine zL_aload_nr dL_law_1427 rfl rfl ?_
  refine zL_arg hs hL rfl rfl (by omega) dL_law_1428 dL_law_1429 dL_law_1431 dL_law_1432 dL_law_1433 ?_
  refine zL_callV (As := [ziv (xs (i + 1).toNat)]) (k := 64) (st := []) lkL_207 rfl rfl rfl hm ⟨by decide, by omega, by omega⟩ rfl (by decide) dL_law_1434 (fun r2 h2 q2 => ?_)
  exact zL_tail (pc := 1437) q2 hk hn dL_law_1437 dL_law_1439 dL_law_1440 dL_law_1443 dL_law_1445 dL_law_1450 dL_law_1452 dL_law_1455 dL_law_1456 dL_law_1457 dL_law_1458 dL_law_1460 dL_law_1461 dL_law_1462 dL_law_1467 (by decide) K
theorem lw_toDrink (Wl : lwI (lwC E b p e s m below meth c) b L xs i nn sl) (hB : B ≤ 1000) (r : Rel h h t n jn old ac rn B) (K : lwK (lwC E b p e s m below meth c) b i nn sl B) : zVl (lwC E b p e s m below meth c) nn sl 1470 (lvL E b i) [] h := by
  obtain ⟨hs, hL, hnc, hi, hx, hn⟩ := Wl
  refine zL_aload_nr dL_law_1470 rfl rfl ?_
  refine zL_arg hs hL rfl rfl (by omega) dL_law_1471 dL_law_1472 dL_law_1474 dL_law_1475 dL_law_1476 ?_
  refine zL_arg hs hL rfl rfl (by omega) dL_law_1477 dL_law_1478 dL_law_1480 dL_law_1481 dL_law_1482 ?_
  refine zL_aload_nr dL_law_1483 rfl rfl ?_
  refine zL_callSH (As := [zrv E 0, ziv (xs (i + 1).toNat), ziv (xs (i + 2).toNat), zrv E 103]) (st := []) slL_208 hnc (st_toDrink (hx _) (hx _) r) ⟨by decide, by omega, by omega⟩ rfl (by decide) dL_law_1484 (fun r1 h1 q => ?_)
  obtain ⟨k, rfl, hk, hm⟩ := q
  show zVl (lwC E b p e s m below meth c) (nn + 4) (sl + 6 * 4) 1487 (lvL E b i) [ziv k] h1
  refine zL_istore dL_law_1487 (show 5 < 7 by decide) rfl ?_
  refine zL_aload_nr dL_law_1489 rfl rfl ?_
  refine zL_arg hs hL rfl rfl (by omega) dL_law_1490 dL_law_1491 dL_law_1493 dL_law_1494 dL_law_1495 ?_
  refine zL_arg hs hL rfl rfl (by omega) dL_law_1496 dL_law_1497 dL_law_1499 dL_law_1500 dL_law_1501 ?_
  refine zL_callV (As := [ziv (xs (i + 1).toNat), ziv (xs (i + 2).toNat)]) (k := 64) (st := []) lkL_210 rfl rfl rfl hm ⟨by decide, by omega, by omega⟩ rfl (by decide) dL_law_1502 (fun r2 h2 q2 => ?_)
  exact zL_tail (pc := 1505) q2 hk hn dL_law_1505 dL_law_1507 dL_law_1508 dL_law_1511 dL_law_1513 dL_law_1518 dL_law_1520 dL_law_1523 dL_law_1524 dL_law_1525 dL_law_1526 dL_law_1528 dL_law_1529 dL_law_1530 dL_law_1535 (by decide) K
theorem lw_toPour (Wl : lwI (lwC E b p e s m below meth c) b L xs i nn sl) (hB : B ≤ 1000) (r : Rel h h t n jn old ac rn B) (K : lwK (lwC E b p e s m below meth c) b i nn sl B) : zVl (lwC E b p e s m below meth c) nn sl 1538 (lvL E b i) [] h := by
  obtain ⟨hs, hL, hnc, hi, hx, hn⟩ := Wl
  refine zL_aload_nr dL_law_1538 rfl rfl ?_
  refine zL_arg hs hL rfl rfl (by omega) dL_law_1539 dL_law_1540 dL_law_1542 dL_law_1543 dL_law_1544 ?_
  refine zL_aload_nr dL_law_1545 rfl rfl ?_
  refine zL_callSH (As := [zrv E 0, ziv (xs (i + 1).toNat), zrv E 103]) (st := []) slL_211 hnc (st_toPour (hx _) r) ⟨by decide, by omega, by omega⟩ rfl (by decide) dL_law_1546 (fun r1 h1 q => ?_)
  obtain ⟨k, rfl, hk, hm⟩ := q
  show zVl (lwC E b p e s m below meth c) (nn + 4) (sl + 6 * 4) 1549 (lvL E b i) [ziv k] h1
  refine zL_istore dL_law_1549 (show 5 < 7 by decide) rfl ?_
  refine zL_aload_nr dL_law_1551 rfl rfl ?_
  refine zL_arg hs hL rfl rfl (by omega) dL_law_1552 dL_law_1553 dL_law_1555 dL_law_1556 dL_law_1557 ?_
  refine zL_callV (As := [ziv (xs (i + 1).toNat)]) (k := 64) (st := []) lkL_213 rfl rfl rfl hm ⟨by decide, by omega, by omega⟩ rfl (by decide) dL_law_1558 (fun r2 h2 q2 => ?_)
  exact zL_tail (pc := 1561) q2 hk hn dL_law_1561 dL_law_1563 dL_law_1564 dL_law_1567 dL_law_1569 dL_law_1574 dL_law_1576 dL_law_1579 dL_law_1580 dL_law_1581 dL_law_1582 dL_law_1584 dL_law_1585 dL_law_1586 dL_law_1591 (by decide) K
theorem lw_toLay (Wl : lwI (lwC E b p e s m below meth c) b L xs i nn sl) (hB : B ≤ 1000) (r : Rel h h t n jn old ac rn B) (K : lwK (lwC E b p e s m below meth c) b i nn sl B) : zVl (lwC E b p e s m below meth c) nn sl 1594 (lvL E b i) [] h := by
  obtain ⟨hs, hL, hnc, hi, hx, hn⟩ := Wl
  refine zL_aload_nr dL_law_1594 rfl rfl ?_
  refine zL_arg hs hL rfl rfl (by omega) dL_law_1595 dL_law_1596 dL_law_1598 dL_law_1599 dL_law_1600 ?_
  refine zL_arg hs hL rfl rfl (by omega) dL_law_1601 dL_law_1602 dL_law_1604 dL_law_1605 dL_law_1606 ?_
  refine zL_aload_nr dL_law_1607 rfl rfl ?_
  refine zL_callSH (As := [zrv E 0, ziv (xs (i + 1).toNat), ziv (xs (i + 2).toNat), zrv E 103]) (st := []) slL_214 hnc (st_toLay (hx _) (hx _) r) ⟨by decide, by omega, by omega⟩ rfl (by decide) dL_law_1608 (fun r1 h1 q => ?_)
  obtain ⟨k, rfl, hk, hm⟩ := q
  show zVl (lwC E b p e s m below meth c) (nn + 4) (sl + 6 * 4) 1611 (lvL E b i) [ziv k] h1
  refine zL_istore dL_law_1611 (show 5 < 7 by decide) rfl ?_
  refine zL_aload_nr dL_law_1613 rfl rfl ?_
  refine zL_arg hs hL rfl rfl (by omega) dL_law_1614 dL_law_1615 dL_law_1617 dL_law_1618 dL_law_1619 ?_
  refine zL_arg hs hL rfl rfl (by omega) dL_law_1620 dL_law_1621 dL_law_1623 dL_law_1624 dL_law_1625 ?_
  refine zL_callV (As := [ziv (xs (i + 1).toNat), ziv (xs (i + 2).toNat)]) (k := 64) (st := []) lkL_216 rfl rfl rfl hm ⟨by decide, by omega, by omega⟩ rfl (by decide) dL_law_1626 (fun r2 h2 q2 => ?_)
  exact zL_tail (pc := 1629) q2 hk hn dL_law_1629 dL_law_1631 dL_law_1632 dL_law_1635 dL_law_1637 dL_law_1642 dL_law_1644 dL_law_1647 dL_law_1648 dL_law_1649 dL_law_1650 dL_law_1652 dL_law_1653 dL_law_1654 dL_law_1659 (by decide) K
theorem lw_better (Wl : lwI (lwC E b p e s m below meth c) b L xs i nn sl) (hB : B ≤ 1000) (r : Rel h h t n jn old ac rn B) (K : lwK (lwC E b p e s m below meth c) b i nn sl B) : zVl (lwC E b p e s m below meth c) nn sl 1662 (lvL E b i) [] h := by
  obtain ⟨hs, hL, hnc, hi, hx, hn⟩ := Wl
  refine zL_aload_nr dL_law_1662 rfl rfl ?_
  refine zL_arg hs hL rfl rfl (by omega) dL_law_1663 dL_law_1664 dL_law_1666 dL_law_1667 dL_law_1668 ?_
  refine zL_aload_nr dL_law_1669 rfl rfl ?_
  refine zL_callSH (As := [zrv E 0, ziv (xs (i + 1).toNat), zrv E 103]) (st := []) slL_217 hnc (st_better (hx _) r) ⟨by decide, by omega, by omega⟩ rfl (by decide) dL_law_1670 (fun r1 h1 q => ?_)
  obtain ⟨k, rfl, hk, hm⟩ := q
  show zVl (lwC E b p e s m below meth c) (nn + 4) (sl + 6 * 4) 1673 (lvL E b i) [ziv k] h1
  refine zL_istore dL_law_1673 (show 5 < 7 by decide) rfl ?_
  refine zL_aload_nr dL_law_1675 rfl rfl ?_
  refine zL_arg hs hL rfl rfl (by omega) dL_law_1676 dL_law_1677 dL_law_1679 dL_law_1680 dL_law_1681 ?_
  refine zL_callV (As := [ziv (xs (i + 1).toNat)]) (k := 64) (st := []) lkL_219 rfl rfl rfl hm ⟨by decide, by omega, by omega⟩ rfl (by decide) dL_law_1682 (fun r2 h2 q2 => ?_)
  exact zL_tail (pc := 1685) q2 hk hn dL_law_1685 dL_law_1687 dL_law_1688 dL_law_1691 dL_law_1693 dL_law_1698 dL_law_1700 dL_law_1703 dL_law_1704 dL_law_1705 dL_law_1706 dL_law_1708 dL_law_1709 dL_law_1710 dL_law_1715 (by decide) K
theorem lw_stir (Wl : lwI (lwC E b p e s m below meth c) b L xs i nn sl) (hB : B ≤ 1000) (r : Rel h h t n jn old ac rn B) (K : lwK (lwC E b p e s m below meth c) b i nn sl B) : zVl (lwC E b p e s m below meth c) nn sl 1718 (lvL E b i) [] h := by
  obtain ⟨hs, hL, hnc, hi, hx, hn⟩ := Wl
  refine zL_aload_nr dL_law_1718 rfl rfl ?_
  refine zL_arg hs hL rfl rfl (by omega) dL_law_1719 dL_law_1720 dL_law_1722 dL_law_1723 dL_law_1724 ?_
  refine zL_arg hs hL rfl rfl (by omega) dL_law_1725 dL_law_1726 dL_law_1728 dL_law_1729 dL_law_1730 ?_
  refine zL_arg hs hL rfl rfl (by omega) dL_law_1731 dL_law_1732 dL_law_1734 dL_law_1735 dL_law_1736 ?_
  refine zL_aload_nr dL_law_1737 rfl rfl ?_
  refine zL_callSH (As := [zrv E 0, ziv (xs (i + 1).toNat), ziv (xs (i + 2).toNat), ziv (xs (i + 3).toNat), zrv E 103]) (st := []) slL_220 hnc (st_stir (hx _) (hx _) (hx _) r) ⟨by decide, by omega, by omega⟩ rfl (by decide) dL_law_1738 (fun r1 h1 q => ?_)
  obtain ⟨k, rfl, hk, hm⟩ := q
  show zVl (lwC E b p e s m below meth c) (nn + 4) (sl + 6 * 4) 1741 (lvL E b i) [ziv k] h1
  refine zL_istore dL_law_1741 (show 5 < 7 by decide) rfl ?_
  refine zL_aload_nr dL_law_1743 rfl rfl ?_
  refine zL_arg hs hL rfl rfl (by omega) dL_law_1744 dL_law_1745 dL_law_1747 dL_law_1748 dL_law_1749 ?_
  refine zL_arg hs hL rfl rfl (by omega) dL_law_1750 dL_law_1751 dL_law_1753 dL_law_1754 dL_law_1755 ?_
  refine zL_arg hs hL rfl rfl (by omega) dL_law_1756 dL_law_1757 dL_law_1759 dL_law_1760 dL_law_1761 ?_
  refine zL_callV (As := [ziv (xs (i + 1).toNat), ziv (xs (i + 2).toNat), ziv (xs (i + 3).toNat)]) (k := 64) (st := []) lkL_223 rfl rfl rfl hm ⟨by decide, by omega, by omega⟩ rfl (by decide) dL_law_1762 (fun r2 h2 q2 => ?_)
  exact zL_tail (pc := 1765) q2 hk hn dL_law_1765 dL_law_1767 dL_law_1768 dL_law_1771 dL_law_1773 dL_law_1778 dL_law_1780 dL_law_1783 dL_law_1784 dL_law_1785 dL_law_1786 dL_law_1788 dL_law_1789 dL_law_1790 dL_law_1795 (by decide) K
theorem lw_apart (Wl : lwI (lwC E b p e s m below meth c) b L xs i nn sl) (hB : B ≤ 1000) (r : Rel h h t n jn old ac rn B) (K : lwK (lwC E b p e s m below meth c) b i nn sl B) : zVl (lwC E b p e s m below meth c) nn sl 1798 (lvL E b i) [] h := by
  obtain ⟨hs, hL, hnc, hi, hx, hn⟩ := Wl
  refine zL_aload_nr dL_law_1798 rfl rfl ?_
  refine zL_arg hs hL rfl rfl (by omega) dL_law_1799 dL_law_1800 dL_law_1802 dL_law_1803 dL_law_1804 ?_
  refine zL_arg hs hL rfl rfl (by omega) dL_law_1805 dL_law_1806 dL_law_1808 dL_law_1809 dL_law_1810 ?_
  refine zL_aload_nr dL_law_1811 rfl rfl ?_
  refine zL_callSH (As := [zrv E 0, ziv (xs (i + 1).toNat), ziv (xs (i + 2).toNat), zrv E 103]) (st := []) slL_224 hnc (st_apart (hx _) (hx _) r) ⟨by decide, by omega, by omega⟩ rfl (by decide) dL_law_1812 (fun r1 h1 q => ?_)
  obtain ⟨k, rfl, hk, hm⟩ := q
  show zVl (lwC E b p e s m below meth c) (nn + 4) (sl + 6 * 4) 1815 (lvL E b i) [ziv k] h1
  refine zL_istore dL_law_1815 (show 5 < 7 by decide) rfl ?_
  refine zL_aload_nr dL_law_1817 rfl rfl ?_
  refine zL_arg hs hL rfl rfl (by omega) dL_law_1818 dL_law_1819 dL_law_1821 dL_law_1822 dL_law_1823 ?_
  refine zL_arg hs hL rfl rfl (by omega) dL_law_1824 dL_law_1825 dL_law_1827 dL_law_1828 dL_law_1829 ?_
  refine zL_callV (As := [ziv (xs (i + 1).toNat), ziv (xs (i + 2).toNat)]) (k := 64) (st := []) lkL_226 rfl rfl rfl hm ⟨by decide, by omega, by omega⟩ rfl (by decide) dL_law_1830 (fun r2 h2 q2 => ?_)
  exact zL_tail (pc := 1833) q2 hk hn dL_law_1833 dL_law_1835 dL_law_1836 dL_law_1839 dL_law_1841 dL_law_1846 dL_law_1848 dL_law_1851 dL_law_1852 dL_law_1853 dL_law_1854 dL_law_1856 dL_law_1857 dL_law_1858 dL_law_1863 (by decide) K
theorem lw_drunk (Wl : lwI (lwC E b p e s m below meth c) b L xs i nn sl) (hB : B ≤ 1000) (r : Rel h h t n jn old ac rn B) (K : lwK (lwC E b p e s m below meth c) b i nn sl B) : zVl (lwC E b p e s m below meth c) nn sl 1866 (lvL E b i) [] h := by
  obtain ⟨hs, hL, hnc, hi, hx, hn⟩ := Wl
  refine zL_aload_nr dL_law_1866 rfl rfl ?_
  refine zL_arg hs hL rfl rfl (by omega) dL_law_1867 dL_law_1868 dL_law_1870 dL_law_1871 dL_law_1872 ?_
  refine zL_arg hs hL rfl rfl (by omega) dL_law_1873 dL_law_1874 dL_law_1876 dL_law_1877 dL_law_1878 ?_
  refine zL_aload_nr dL_law_1879 rfl rfl ?_
  refine zL_callSH (As := [zrv E 0, ziv (xs (i + 1).toNat), ziv (xs (i + 2).toNat), zrv E 103]) (st := []) slL_227 hnc (st_drunk (hx _) (hx _) r) ⟨by decide, by omega, by omega⟩ rfl (by decide) dL_law_1880 (fun r1 h1 q => ?_)
  obtain ⟨k, rfl, hk, hm⟩ := q
  show zVl (lwC E b p e s m below meth c) (nn + 4) (sl + 6 * 4) 1883 (lvL E b i) [ziv k] h1
  refine zL_istore dL_law_1883 (show 5 < 7 by decide) rfl ?_
  refine zL_aload_nr dL_law_1885 rfl rfl ?_
  refine zL_arg hs hL rfl rfl (by omega) dL_law_1886 dL_law_1887 dL_law_1889 dL_law_1890 dL_law_1891 ?_
  refine zL_arg hs hL rfl rfl (by omega) dL_law_1892 dL_law_1893 dL_law_1895 dL_law_1896 dL_law_1897 ?_
  refine zL_callV (As := [ziv (xs (i + 1).toNat), ziv (xs (i + 2).toNat)]) (k := 64) (st := []) lkL_229 rfl rfl rfl hm ⟨by decide, by omega, by omega⟩ rfl (by decide) dL_law_1898 (fun r2 h2 q2 => ?_)
  exact zL_tail (pc := 1901) q2 hk hn dL_law_1901 dL_law_1903 dL_law_1904 dL_law_1907 dL_law_1909 dL_law_1914 dL_law_1916 dL_law_1919 dL_law_1920 dL_law_1921 dL_law_1922 dL_law_1924 dL_law_1925 dL_law_1926 dL_law_1931 (by decide) K
theorem lw_thirstiest (Wl : lwI (lwC E b p e s m below meth c) b L xs i nn sl) (hB : B ≤ 1000) (r : Rel h h t n jn old ac rn B) (K : lwK (lwC E b p e s m below meth c) b i nn sl B) : zVl (lwC E b p e s m below meth c) nn sl 1934 (lvL E b i) [] h := by
  obtain ⟨hs, hL, hnc, hi, hx, hn⟩ := Wl
  refine zL_aload_nr dL_law_1934 rfl rfl ?_
  refine zL_arg hs hL rfl rfl (by omega) dL_law_1935 dL_law_1936 dL_law_1938 dL_law_1939 dL_law_1940 ?_
  refine zL_aload_nr dL_law_1941 rfl rfl ?_
  refine zL_callSH (As := [zrv E 0, ziv (xs (i + 1).toNat), zrv E 103]) (st := []) slL_230 hnc (st_thirstiest (hx _) r) ⟨by decide, by omega, by omega⟩ rfl (by decide) dL_law_1942 (fun r1 h1 q => ?_)
  obtain ⟨k, rfl, hk, hm⟩ := q
  show zVl (lwC E b p e s m below meth c) (nn + 4) (sl + 6 * 4) 1945 (lvL E b i) [ziv k] h1
  refine zL_istore dL_law_1945 (show 5 < 7 by decide) rfl ?_
  refine zL_aload_nr dL_law_1947 rfl rfl ?_
  refine zL_arg hs hL rfl rfl (by omega) dL_law_1948 dL_law_1949 dL_law_1951 dL_law_1952 dL_law_1953 ?_
  refine zL_callV (As := [ziv (xs (i + 1).toNat)]) (k := 64) (st := []) lkL_232 rfl rfl rfl hm ⟨by decide, by omega, by omega⟩ rfl (by decide) dL_law_1954 (fun r2 h2 q2 => ?_)
  exact zL_tail (pc := 1957) q2 hk hn dL_law_1957 dL_law_1959 dL_law_1960 dL_law_1963 dL_law_1965 dL_law_1970 dL_law_1972 dL_law_1975 dL_law_1976 dL_law_1977 dL_law_1978 dL_law_1980 dL_law_1981 dL_law_1982 dL_law_1987 (by decide) K
theorem lw_streak (Wl : lwI (lwC E b p e s m below meth c) b L xs i nn sl) (hB : B ≤ 1000) (r : Rel h h t n jn old ac rn B) (K : lwK (lwC E b p e s m below meth c) b i nn sl B) : zVl (lwC E b p e s m below meth c) nn sl 1990 (lvL E b i) [] h := by
  obtain ⟨hs, hL, hnc, hi, hx, hn⟩ := Wl
  refine zL_aload_nr dL_law_1990 rfl rfl ?_
  refine zL_arg hs hL rfl rfl (by omega) dL_law_1991 dL_law_1992 dL_law_1994 dL_law_1995 dL_law_1996 ?_
  refine zL_aload_nr dL_law_1997 rfl rfl ?_
  refine zL_callSH (As := [zrv E 0, ziv (xs (i + 1).toNat), zrv E 103]) (st := []) slL_233 hnc (st_streak (hx _) r) ⟨by decide, by omega, by omega⟩ rfl (by decide) dL_law_1998 (fun r1 h1 q => ?_)
  obtain ⟨k, rfl, hk, hm⟩ := q
  show zVl (lwC E b p e s m below meth c) (nn + 4) (sl + 6 * 4) 2001 (lvL E b i) [ziv k] h1
  refine zL_istore dL_law_2001 (show 5 < 7 by decide) rfl ?_
  refine zL_aload_nr dL_law_2003 rfl rfl ?_
  refine zL_arg hs hL rfl rfl (by omega) dL_law_2004 dL_law_2005 dL_law_2007 dL_law_2008 dL_law_2009 ?_
  refine zL_callV (As := [ziv (xs (i + 1).toNat)]) (k := 64) (st := []) lkL_235 rfl rfl rfl hm ⟨by decide, by omega, by omega⟩ rfl (by decide) dL_law_2010 (fun r2 h2 q2 => ?_)
  exact zL_tail (pc := 2013) q2 hk hn dL_law_2013 dL_law_2015 dL_law_2016 dL_law_2019 dL_law_2021 dL_law_2026 dL_law_2028 dL_law_2031 dL_law_2032 dL_law_2033 dL_law_2034 dL_law_2036 dL_law_2037 dL_law_2038 dL_law_2043 (by decide) K
theorem lw_come (Wl : lwI (lwC E b p e s m below meth c) b L xs i nn sl) (hB : B ≤ 1000) (r : Rel h h t n jn old ac rn B) (K : lwK (lwC E b p e s m below meth c) b i nn sl B) : zVl (lwC E b p e s m below meth c) nn sl 2046 (lvL E b i) [] h := by
  obtain ⟨hs, hL, hnc, hi, hx, hn⟩ := Wl
  refine zL_aload_nr dL_law_2046 rfl rfl ?_
  refine zL_arg hs hL rfl rfl (by omega) dL_law_2047 dL_law_2048 dL_law_2050 dL_law_2051 dL_law_2052 ?_
  refine zL_aload_nr dL_law_2053 rfl rfl ?_
  refine zL_callSH (As := [zrv E 0, ziv (xs (i + 1).toNat), zrv E 103]) (st := []) slL_236 hnc (st_come (hx _) r) ⟨by decide, by omega, by omega⟩ rfl (by decide) dL_law_2054 (fun r1 h1 q => ?_)
  obtain ⟨k, rfl, hk, hm⟩ := q
  show zVl (lwC E b p e s m below meth c) (nn + 4) (sl + 6 * 4) 2057 (lvL E b i) [ziv k] h1
  refine zL_istore dL_law_2057 (show 5 < 7 by decide) rfl ?_
  refine zL_aload_nr dL_law_2059 rfl rfl ?_
  refine zL_arg hs hL rfl rfl (by omega) dL_law_2060 dL_law_2061 dL_law_2063 dL_law_2064 dL_law_2065 ?_
  refine zL_callV (As := [ziv (xs (i + 1).toNat)]) (k := 64) (st := []) lkL_238 rfl rfl rfl hm ⟨by decide, by omega, by omega⟩ rfl (by decide) dL_law_2066 (fun r2 h2 q2 => ?_)
  exact zL_tail (pc := 2069) q2 hk hn dL_law_2069 dL_law_2071 dL_law_2072 dL_law_2075 dL_law_2077 dL_law_2082 dL_law_2084 dL_law_2087 dL_law_2088 dL_law_2089 dL_law_2090 dL_law_2092 dL_law_2093 dL_law_2094 dL_law_2099 (by decide) K
theorem lw_weight (Wl : lwI (lwC E b p e s m below meth c) b L xs i nn sl) (hB : B ≤ 1000) (r : Rel h h t n jn old ac rn B) (K : lwK (lwC E b p e s m below meth c) b i nn sl B) : zVl (lwC E b p e s m below meth c) nn sl 2102 (lvL E b i) [] h := by
  obtain ⟨hs, hL, hnc, hi, hx, hn⟩ := Wl
  refine zL_aload_nr dL_law_2102 rfl rfl ?_
  refine zL_arg hs hL rfl rfl (by omega) dL_law_2103 dL_law_2104 dL_law_2106 dL_law_2107 dL_law_2108 ?_
  refine zL_aload_nr dL_law_2109 rfl rfl ?_
  refine zL_callSH (As := [zrv E 0, ziv (xs (i + 1).toNat), zrv E 103]) (st := []) slL_239 hnc (st_weight (hx _) r) ⟨by decide, by omega, by omega⟩ rfl (by decide) dL_law_2110 (fun r1 h1 q => ?_)
  obtain ⟨k, rfl, hk, hm⟩ := q
  show zVl (lwC E b p e s m below meth c) (nn + 4) (sl + 6 * 4) 2113 (lvL E b i) [ziv k] h1
  refine zL_istore dL_law_2113 (show 5 < 7 by decide) rfl ?_
  refine zL_aload_nr dL_law_2115 rfl rfl ?_
  refine zL_arg hs hL rfl rfl (by omega) dL_law_2116 dL_law_2117 dL_law_2119 dL_law_2120 dL_law_2121 ?_
  refine zL_callV (As := [ziv (xs (i + 1).toNat)]) (k := 64) (st := []) lkL_241 rfl rfl rfl hm ⟨by decide, by omega, by omega⟩ rfl (by decide) dL_law_2122 (fun r2 h2 q2 => ?_)
  exact zL_tail (pc := 2125) q2 hk hn dL_law_2125 dL_law_2127 dL_law_2128 dL_law_2131 dL_law_2133 dL_law_2138 dL_law_2140 dL_law_2143 dL_law_2144 dL_law_2145 dL_law_2146 dL_law_2148 dL_law_2149 dL_law_2150 dL_law_2155 (by decide) K
theorem lw_read (Wl : lwI (lwC E b p e s m below meth c) b L xs i nn sl) (hB : B ≤ 1000) (r : Rel h h t n jn old ac rn B) (K : lwK (lwC E b p e s m below meth c) b i nn sl B) : zVl (lwC E b p e s m below meth c) nn sl 2158 (lvL E b i) [] h := by
  obtain ⟨hs, hL, hnc, hi, hx, hn⟩ := Wl
  refine zL_aload_nr dL_law_2158 rfl rfl ?_
  refine zL_arg hs hL rfl rfl (by omega) dL_law_2159 dL_law_2160 dL_law_2162 dL_law_2163 dL_law_2164 ?_
  refine zL_arg hs hL rfl rfl (by omega) dL_law_2165 dL_law_2166 dL_law_2168 dL_law_2169 dL_law_2170 ?_
  refine zL_aload_nr dL_law_2171 rfl rfl ?_
  refine zL_callSH (As := [zrv E 0, ziv (xs (i + 1).toNat), ziv (xs (i + 2).toNat), zrv E 103]) (st := []) slL_242 hnc (st_read (hx _) (hx _) r) ⟨by decide, by omega, by omega⟩ rfl (by decide) dL_law_2172 (fun r1 h1 q => ?_)
  obtain ⟨k, rfl, hk, hm⟩ := q
  show zVl (lwC E b p e s m below meth c) (nn + 4) (sl + 6 * 4) 2175 (lvL E b i) [ziv k] h1
  refine zL_istore dL_law_2175 (show 5 < 7 by decide) rfl ?_
  refine zL_aload_nr dL_law_2177 rfl rfl ?_
  refine zL_arg hs hL rfl rfl (by omega) dL_law_2178 dL_law_2179 dL_law_2181 dL_law_2182 dL_law_2183 ?_
  refine zL_arg hs hL rfl rfl (by omega) dL_law_2184 dL_law_2185 dL_law_2187 dL_law_2188 dL_law_2189 ?_
  refine zL_callV (As := [ziv (xs (i + 1).toNat), ziv (xs (i + 2).toNat)]) (k := 64) (st := []) lkL_244 rfl rfl rfl hm ⟨by decide, by omega, by omega⟩ rfl (by decide) dL_law_2190 (fun r2 h2 q2 => ?_)
  exact zL_tail (pc := 2193) q2 hk hn dL_law_2193 dL_law_2195 dL_law_2196 dL_law_2199 dL_law_2201 dL_law_2206 dL_law_2208 dL_law_2211 dL_law_2212 dL_law_2213 dL_law_2214 dL_law_2216 dL_law_2217 dL_law_2218 dL_law_2223 (by decide) K
theorem lw_handed (Wl : lwI (lwC E b p e s m below meth c) b L xs i nn sl) (hB : B ≤ 1000) (r : Rel h h t n jn old ac rn B) (K : lwK (lwC E b p e s m below meth c) b i nn sl B) : zVl (lwC E b p e s m below meth c) nn sl 2226 (lvL E b i) [] h := by
  obtain ⟨hs, hL, hnc, hi, hx, hn⟩ := Wl
  refine zL_aload_nr dL_law_2226 rfl rfl ?_
  refine zL_arg hs hL rfl rfl (by omega) dL_law_2227 dL_law_2228 dL_law_2230 dL_law_2231 dL_law_2232 ?_
  refine zL_aload_nr dL_law_2233 rfl rfl ?_
  refine zL_callSH (As := [zrv E 0, ziv (xs (i + 1).toNat), zrv E 103]) (st := []) slL_245 hnc (st_handed (hx _) r) ⟨by decide, by omega, by omega⟩ rfl (by decide) dL_law_2234 (fun r1 h1 q => ?_)
  obtain ⟨k, rfl, hk, hm⟩ := q
  show zVl (lwC E b p e s m below meth c) (nn + 4) (sl + 6 * 4) 2237 (lvL E b i) [ziv k] h1
  refine zL_istore dL_law_2237 (show 5 < 7 by decide) rfl ?_
  refine zL_aload_nr dL_law_2239 rfl rfl ?_
  refine zL_arg hs hL rfl rfl (by omega) dL_law_2240 dL_law_2241 dL_law_2243 dL_law_2244 dL_law_2245 ?_
  refine zL_callV (As := [ziv (xs (i + 1).toNat)]) (k := 64) (st := []) lkL_247 rfl rfl rfl hm ⟨by decide, by omega, by omega⟩ rfl (by decide) dL_law_2246 (fun r2 h2 q2 => ?_)
  exact zL_tail (pc := 2249) q2 hk hn dL_law_2249 dL_law_2251 dL_law_2252 dL_law_2255 dL_law_2257 dL_law_2262 dL_law_2264 dL_law_2267 dL_law_2268 dL_law_2269 dL_law_2270 dL_law_2272 dL_law_2273 dL_law_2274 dL_law_2279 (by decide) K
theorem lw_look (Wl : lwI (lwC E b p e s m below meth c) b L xs i nn sl) (hB : B ≤ 1000) (r : Rel h h t n jn old ac rn B) (K : lwK (lwC E b p e s m below meth c) b i nn sl B) : zVl (lwC E b p e s m below meth c) nn sl 2282 (lvL E b i) [] h := by
  obtain ⟨hs, hL, hnc, hi, hx, hn⟩ := Wl
  refine zL_aload_nr dL_law_2282 rfl rfl ?_
  refine zL_arg hs hL rfl rfl (by omega) dL_law_2283 dL_law_2284 dL_law_2286 dL_law_2287 dL_law_2288 ?_
  refine zL_aload_nr dL_law_2289 rfl rfl ?_
  refine zL_callSH (As := [zrv E 0, ziv (xs (i + 1).toNat), zrv E 103]) (st := []) slL_248 hnc (st_look (hx _) r) ⟨by decide, by omega, by omega⟩ rfl (by decide) dL_law_2290 (fun r1 h1 q => ?_)
  obtain ⟨k, rfl, hk, hm⟩ := q
  show zVl (lwC E b p e s m below meth c) (nn + 4) (sl + 6 * 4) 2293 (lvL E b i) [ziv k] h1
  refine zL_istore dL_law_2293 (show 5 < 7 by decide) rfl ?_
  refine zL_aload_nr dL_law_2295 rfl rfl ?_
  refine zL_arg hs hL rfl rfl (by omega) dL_law_2296 dL_law_2297 dL_law_2299 dL_law_2300 dL_law_2301 ?_
  refine zL_callV (As := [ziv (xs (i + 1).toNat)]) (k := 64) (st := []) lkL_250 rfl rfl rfl hm ⟨by decide, by omega, by omega⟩ rfl (by decide) dL_law_2302 (fun r2 h2 q2 => ?_)
  exact zL_tail (pc := 2305) q2 hk hn dL_law_2305 dL_law_2307 dL_law_2308 dL_law_2311 dL_law_2313 dL_law_2318 dL_law_2320 dL_law_2323 dL_law_2324 dL_law_2325 dL_law_2326 dL_law_2328 dL_law_2329 dL_law_2330 dL_law_2335 (by decide) K
theorem lw_forget (Wl : lwI (lwC E b p e s m below meth c) b L xs i nn sl) (hB : B ≤ 1000) (r : Rel h h t n jn old ac rn B) (K : lwK (lwC E b p e s m below meth c) b i nn sl B) : zVl (lwC E b p e s m below meth c) nn sl 2338 (lvL E b i) [] h := by
  obtain ⟨hs, hL, hnc, hi, hx, hn⟩ := Wl
  refine zL_aload_nr dL_law_2338 rfl rfl ?_
  refine zL_callV (As := []) (k := 0) (st := []) lkL_251 rfl rfl rfl (sd_forget  r) ⟨by decide, by omega, by omega⟩ rfl (by decide) dL_law_2339 (fun r1 h1 q => ?_)
  obtain ⟨rfl, hm⟩ := q
  show zVl (lwC E b p e s m below meth c) (nn + 4) (sl + 6 * 4) 2342 (lvL E b i) [] h1
  refine zL_aload_nr dL_law_2342 rfl rfl ?_
  refine zL_callV (As := []) (k := 64) (st := []) lkL_254 rfl rfl rfl hm ⟨by decide, by omega, by omega⟩ rfl (by decide) dL_law_2343 (fun r2 h2 q2 => ?_)
  obtain ⟨rfl, R⟩ := q2
  show zVl (lwC E b p e s m below meth c) (nn + 8) (sl + 48) 2346 (lvL E b i) [] h2
  exact zL_goto (tgt := 2533) dL_law_2346 (by decide) (K h2 R)
theorem lw_game (Wl : lwI (lwC E b p e s m below meth c) b L xs i nn sl) (hB : B ≤ 1000) (r : Rel h h t n jn old ac rn B) (K : lwK (lwC E b p e s m below meth c) b i nn sl B) : zVl (lwC E b p e s m below meth c) nn sl 2349 (lvL E b i) [] h := by
  obtain ⟨hs, hL, hnc, hi, hx, hn⟩ := Wl
  refine zL_aload_nr dL_law_2349 rfl rfl ?_
  refine zL_arg hs hL rfl rfl (by omega) dL_law_2350 dL_law_2351 dL_law_2353 dL_law_2354 dL_law_2355 ?_
  refine zL_arg hs hL rfl rfl (by omega) dL_law_2356 dL_law_2357 dL_law_2359 dL_law_2360 dL_law_2361 ?_
  refine zL_arg hs hL rfl rfl (by omega) dL_law_2362 dL_law_2363 dL_law_2365 dL_law_2366 dL_law_2367 ?_
  refine zL_aload_nr dL_law_2368 rfl rfl ?_
  refine zL_callSH (As := [zrv E 0, ziv (xs (i + 1).toNat), ziv (xs (i + 2).toNat), ziv (xs (i + 3).toNat), zrv E 103]) (st := []) slL_255 hnc (st_game (hx _) (hx _) (hx _) r) ⟨by decide, by omega, by omega⟩ rfl (by decide) dL_law_2369 (fun r1 h1 q => ?_)
  obtain ⟨k, rfl, hk, hm⟩ := q
  show zVl (lwC E b p e s m below meth c) (nn + 4) (sl + 6 * 4) 2372 (lvL E b i) [ziv k] h1
  refine zL_istore dL_law_2372 (show 5 < 7 by decide) rfl ?_
  refine zL_aload_nr dL_law_2374 rfl rfl ?_
  refine zL_arg hs hL rfl rfl (by omega) dL_law_2375 dL_law_2376 dL_law_2378 dL_law_2379 dL_law_2380 ?_
  refine zL_arg hs hL rfl rfl (by omega) dL_law_2381 dL_law_2382 dL_law_2384 dL_law_2385 dL_law_2386 ?_
  refine zL_arg hs hL rfl rfl (by omega) dL_law_2387 dL_law_2388 dL_law_2390 dL_law_2391 dL_law_2392 ?_
  refine zL_callV (As := [ziv (xs (i + 1).toNat), ziv (xs (i + 2).toNat), ziv (xs (i + 3).toNat)]) (k := 64) (st := []) lkL_257 rfl rfl rfl hm ⟨by decide, by omega, by omega⟩ rfl (by decide) dL_law_2393 (fun r2 h2 q2 => ?_)
  exact zL_tail (pc := 2396) q2 hk hn dL_law_2396 dL_law_2398 dL_law_2399 dL_law_2402 dL_law_2404 dL_law_2409 dL_law_2411 dL_law_2414 dL_law_2415 dL_law_2416 dL_law_2417 dL_law_2419 dL_law_2420 dL_law_2421 dL_law_2426 (by decide) K
theorem lw_years (Wl : lwI (lwC E b p e s m below meth c) b L xs i nn sl) (hB : B ≤ 1000) (r : Rel h h t n jn old ac rn B) (K : lwK (lwC E b p e s m below meth c) b i nn sl B) : zVl (lwC E b p e s m below meth c) nn sl 2429 (lvL E b i) [] h := by
  obtain ⟨hs, hL, hnc, hi, hx, hn⟩ := Wl
  refine zL_aload_nr dL_law_2429 rfl rfl ?_
  refine zL_arg hs hL rfl rfl (by omega) dL_law_2430 dL_law_2431 dL_law_2433 dL_law_2434 dL_law_2435 ?_
  refine zL_arg hs hL rfl rfl (by omega) dL_law_2436 dL_law_2437 dL_law_2439 dL_law_2440 dL_law_2441 ?_
  refine zL_arg hs hL rfl rfl (by omega) dL_law_2442 dL_law_2443 dL_law_2445 dL_law_2446 dL_law_2447 ?_
  refine zL_aload_nr dL_law_2448 rfl rfl ?_
  refine zL_callSH (As := [zrv E 0, ziv (xs (i + 1).toNat), ziv (xs (i + 2).toNat), ziv (xs (i + 3).toNat), zrv E 103]) (st := []) slL_258 hnc (st_years (hx _) (hx _) (hx _) r) ⟨by decide, by omega, by omega⟩ rfl (by decide) dL_law_2449 (fun r1 h1 q => ?_)
  obtain ⟨k, rfl, hk, hm⟩ := q
  show zVl (lwC E b p e s m below meth c) (nn + 4) (sl + 6 * 4) 2452 (lvL E b i) [ziv k] h1
  refine zL_istore dL_law_2452 (show 5 < 7 by decide) rfl ?_
  refine zL_aload_nr dL_law_2454 rfl rfl ?_
  refine zL_arg hs hL rfl rfl (by omega) dL_law_2455 dL_law_2456 dL_law_2458 dL_law_2459 dL_law_2460 ?_
  refine zL_arg hs hL rfl rfl (by omega) dL_law_2461 dL_law_2462 dL_law_2464 dL_law_2465 dL_law_2466 ?_
  refine zL_arg hs hL rfl rfl (by omega) dL_law_2467 dL_law_2468 dL_law_2470 dL_law_2471 dL_law_2472 ?_
  refine zL_callV (As := [ziv (xs (i + 1).toNat), ziv (xs (i + 2).toNat), ziv (xs (i + 3).toNat)]) (k := 64) (st := []) lkL_260 rfl rfl rfl hm ⟨by decide, by omega, by omega⟩ rfl (by decide) dL_law_2473 (fun r2 h2 q2 => ?_)
  exact zL_tail (pc := 2476) q2 hk hn dL_law_2476 dL_law_2478 dL_law_2479 dL_law_2482 dL_law_2484 dL_law_2489 dL_law_2491 dL_law_2494 dL_law_2495 dL_law_2496 dL_law_2497 dL_law_2499 dL_law_2500 dL_law_2501 dL_law_2506 (by decide) K
theorem lw_image (Wl : lwI (lwC E b p e s m below meth c) b L xs i nn sl) (hB : B ≤ 1000) (r : Rel h h t n jn old ac rn B) (K : lwK (lwC E b p e s m below meth c) b i nn sl B) : zVl (lwC E b p e s m below meth c) nn sl 2509 (lvL E b i) [] h := by
  obtain ⟨hs, hL, hnc, hi, hx, hn⟩ := Wl
  refine zL_aload_nr dL_law_2509 rfl rfl ?_
  refine zL_callV (As := []) (k := 0) (st := []) lkL_261 rfl rfl rfl (sd_image  r) ⟨by decide, by omega, by omega⟩ rfl (by decide) dL_law_2510 (fun r1 h1 q => ?_)
  obtain ⟨rfl, hm⟩ := q
  show zVl (lwC E b p e s m below meth c) (nn + 4) (sl + 6 * 4) 2513 (lvL E b i) [] h1
  refine zL_aload_nr dL_law_2513 rfl rfl ?_
  refine zL_callV (As := []) (k := 64) (st := []) lkL_264 rfl rfl rfl hm ⟨by decide, by omega, by omega⟩ rfl (by decide) dL_law_2514 (fun r2 h2 q2 => ?_)
  obtain ⟨rfl, R⟩ := q2
  show zVl (lwC E b p e s m below meth c) (nn + 8) (sl + 48) 2517 (lvL E b i) [] h2
  exact zL_goto (tgt := 2533) dL_law_2517 (by decide) (K h2 R)
theorem lw_restore (Wl : lwI (lwC E b p e s m below meth c) b L xs i nn sl) (hB : B ≤ 1000) (r : Rel h h t n jn old ac rn B) (K : lwK (lwC E b p e s m below meth c) b i nn sl B) : zVl (lwC E b p e s m below meth c) nn sl 2520 (lvL E b i) [] h := by
  obtain ⟨hs, hL, hnc, hi, hx, hn⟩ := Wl
  refine zL_aload_nr dL_law_2520 rfl rfl ?_
  refine zL_callV (As := []) (k := 0) (st := []) lkL_265 rfl rfl rfl (sd_restore  r) ⟨by decide, by omega, by omega⟩ rfl (by decide) dL_law_2521 (fun r1 h1 q => ?_)
  obtain ⟨v, rfl, hm⟩ := q
  show zVl (lwC E b p e s m below meth c) (nn + 4) (sl + 6 * 4) 2524 (lvL E b i) [ziv v] h1
  refine zL_aload_nr dL_law_2524 rfl rfl ?_
  refine zL_callV (As := []) (k := 64) (st := [ziv v]) lkL_269 rfl rfl rfl hm ⟨by decide, by omega, by omega⟩ rfl (Nat.le_of_ble_eq_true rfl) dL_law_2525 (fun r2 h2 q2 => ?_)
  obtain ⟨rfl, R⟩ := q2
  show zVl (lwC E b p e s m below meth c) (nn + 8) (sl + 48) 2528 (lvL E b i) [ziv v, ziv v] h2
  exact zL_icmp_eq (tgt := 2533) dL_law_2528 (by decide) (fun _ => K h2 R) (fun z => absurd rfl z)
end ZVR
