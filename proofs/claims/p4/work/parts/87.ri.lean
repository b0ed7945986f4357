/-! the reference's constructor -/
set_option maxHeartbeats 4000000 in
set_option maxRecDepth 100000 in
theorem ri_69_0 {G : WG} {J : IM} {L : LM} {Post : PostT} {r : Nat × Nat × Nat} (h : X mR_init G r (SP 70 [(59, 11, 0)]) (upr J 69 (fL (List.take 8 m8L))) L 120 [.ref 59, .null] [.ref 69, .ref 59] Post) : X mR_init G r (SP 70 [(59, 11, 0)]) (upr J 69 (fL (List.take 0 m8L))) L 86 [.ref 59, .null] [.ref 69, .ref 59] Post := by
  refine x_dup dR_init_86 rfl ?_
  refine x_iconst (v := 0) dR_init_87 rfl ?_
  refine x_iconst (v := -1) dR_init_88 rfl ?_
  refine x_iastJ (j := 0) dR_init_89 rfl rfl rfl (by decide) ?_
  rw [fL_t (l := m8L) (i := 0) rfl]
  refine x_dup dR_init_90 rfl ?_
  refine x_iconst (v := 1) dR_init_91 rfl ?_
  refine x_iconst (v := -1) dR_init_92 rfl ?_
  refine x_iastJ (j := 1) dR_init_93 rfl rfl rfl (by decide) ?_
  rw [fL_t (l := m8L) (i := 1) rfl]
  refine x_dup dR_init_94 rfl ?_
  refine x_iconst (v := 2) dR_init_95 rfl ?_
  refine x_iconst (v := -1) dR_init_96 rfl ?_
  refine x_iastJ (j := 2) dR_init_97 rfl rfl rfl (by decide) ?_
  rw [fL_t (l := m8L) (i := 2) rfl]
  refine x_dup dR_init_98 rfl ?_
  refine x_iconst (v := 3) dR_init_99 rfl ?_
  refine x_iconst (v := -1) dR_init_100 rfl ?_
  refine x_iastJ (j := 3) dR_init_101 rfl rfl rfl (by decide) ?_
  rw [fL_t (l := m8L) (i := 3) rfl]
  refine x_dup dR_init_102 rfl ?_
  refine x_iconst (v := 4) dR_init_103 rfl ?_
  refine x_iconst (v := -1) dR_init_104 rfl ?_
  refine x_iastJ (j := 4) dR_init_105 rfl rfl rfl (by decide) ?_
  rw [fL_t (l := m8L) (i := 4) rfl]
  refine x_dup dR_init_106 rfl ?_
  refine x_iconst (v := 5) dR_init_107 rfl ?_
  refine x_iconst (v := -1) dR_init_108 rfl ?_
  refine x_iastJ (j := 5) dR_init_109 rfl rfl rfl (by decide) ?_
  rw [fL_t (l := m8L) (i := 5) rfl]
  refine x_dup dR_init_110 rfl ?_
  refine x_bipush (v := 6) dR_init_111 rfl ?_
  refine x_iconst (v := -1) dR_init_113 rfl ?_
  refine x_iastJ (j := 6) dR_init_114 rfl rfl rfl (by decide) ?_
  rw [fL_t (l := m8L) (i := 6) rfl]
  refine x_dup dR_init_115 rfl ?_
  refine x_bipush (v := 7) dR_init_116 rfl ?_
  refine x_iconst (v := -1) dR_init_118 rfl ?_
  refine x_iastJ (j := 7) dR_init_119 rfl rfl rfl (by decide) ?_
  rw [fL_t (l := m8L) (i := 7) rfl]
  exact h
set_option maxHeartbeats 4000000 in
set_option maxRecDepth 100000 in
theorem ri_88_0 {G : WG} {J : IM} {L : LM} {Post : PostT} {r : Nat × Nat × Nat} (h : X mR_init G r (SP 89 [(59, 40, 0)]) (upr J 88 (fL (List.take 4 m4L))) L 289 [.ref 59, .null] [.ref 88, .ref 59] Post) : X mR_init G r (SP 89 [(59, 40, 0)]) (upr J 88 (fL (List.take 0 m4L))) L 273 [.ref 59, .null] [.ref 88, .ref 59] Post := by
  refine x_dup dR_init_273 rfl ?_
  refine x_iconst (v := 0) dR_init_274 rfl ?_
  refine x_iconst (v := -1) dR_init_275 rfl ?_
  refine x_iastJ (j := 0) dR_init_276 rfl rfl rfl (by decide) ?_
  rw [fL_t (l := m4L) (i := 0) rfl]
  refine x_dup dR_init_277 rfl ?_
  refine x_iconst (v := 1) dR_init_278 rfl ?_
  refine x_iconst (v := -1) dR_init_279 rfl ?_
  refine x_iastJ (j := 1) dR_init_280 rfl rfl rfl (by decide) ?_
  rw [fL_t (l := m4L) (i := 1) rfl]
  refine x_dup dR_init_281 rfl ?_
  refine x_iconst (v := 2) dR_init_282 rfl ?_
  refine x_iconst (v := -1) dR_init_283 rfl ?_
  refine x_iastJ (j := 2) dR_init_284 rfl rfl rfl (by decide) ?_
  rw [fL_t (l := m4L) (i := 2) rfl]
  refine x_dup dR_init_285 rfl ?_
  refine x_iconst (v := 3) dR_init_286 rfl ?_
  refine x_iconst (v := -1) dR_init_287 rfl ?_
  refine x_iastJ (j := 3) dR_init_288 rfl rfl rfl (by decide) ?_
  rw [fL_t (l := m4L) (i := 3) rfl]
  exact h
set_option maxHeartbeats 4000000 in
set_option maxRecDepth 100000 in
theorem ri_91_0 {G : WG} {J : IM} {L : LM} {Post : PostT} {r : Nat × Nat × Nat} (h : X mR_init G r (SP 92 [(59, 43, 0)]) (upr J 91 (fL (List.take 15 lawL))) L 397 [.ref 59, .null] [.ref 91, .ref 59] Post) : X mR_init G r (SP 92 [(59, 43, 0)]) (upr J 91 (fL (List.take 0 lawL))) L 313 [.ref 59, .null] [.ref 91, .ref 59] Post := by
  refine x_dup dR_init_313 rfl ?_
  refine x_iconst (v := 0) dR_init_314 rfl ?_
  refine x_bipush (v := 104) dR_init_315 rfl ?_
  refine x_iastJ (j := 0) dR_init_317 rfl rfl rfl (by decide) ?_
  rw [fL_t (l := lawL) (i := 0) rfl]
  refine x_dup dR_init_318 rfl ?_
  refine x_iconst (v := 1) dR_init_319 rfl ?_
  refine x_bipush (v := 101) dR_init_320 rfl ?_
  refine x_iastJ (j := 1) dR_init_322 rfl rfl rfl (by decide) ?_
  rw [fL_t (l := lawL) (i := 1) rfl]
  refine x_dup dR_init_323 rfl ?_
  refine x_iconst (v := 2) dR_init_324 rfl ?_
  refine x_bipush (v := 97) dR_init_325 rfl ?_
  refine x_iastJ (j := 2) dR_init_327 rfl rfl rfl (by decide) ?_
  rw [fL_t (l := lawL) (i := 2) rfl]
  refine x_dup dR_init_328 rfl ?_
  refine x_iconst (v := 3) dR_init_329 rfl ?_
  refine x_bipush (v := 114) dR_init_330 rfl ?_
  refine x_iastJ (j := 3) dR_init_332 rfl rfl rfl (by decide) ?_
  rw [fL_t (l := lawL) (i := 3) rfl]
  refine x_dup dR_init_333 rfl ?_
  refine x_iconst (v := 4) dR_init_334 rfl ?_
  refine x_bipush (v := 100) dR_init_335 rfl ?_
  refine x_iastJ (j := 4) dR_init_337 rfl rfl rfl (by decide) ?_
  rw [fL_t (l := lawL) (i := 4) rfl]
  refine x_dup dR_init_338 rfl ?_
  refine x_iconst (v := 5) dR_init_339 rfl ?_
  refine x_bipush (v := 32) dR_init_340 rfl ?_
  refine x_iastJ (j := 5) dR_init_342 rfl rfl rfl (by decide) ?_
  rw [fL_t (l := lawL) (i := 5) rfl]
  refine x_dup dR_init_343 rfl ?_
  refine x_bipush (v := 6) dR_init_344 rfl ?_
  refine x_bipush (v := 52) dR_init_346 rfl ?_
  refine x_iastJ (j := 6) dR_init_348 rfl rfl rfl (by decide) ?_
  rw [fL_t (l := lawL) (i := 6) rfl]
  refine x_dup dR_init_349 rfl ?_
  refine x_bipush (v := 7) dR_init_350 rfl ?_
  refine x_bipush (v := 48) dR_init_352 rfl ?_
  refine x_iastJ (j := 7) dR_init_354 rfl rfl rfl (by decide) ?_
  rw [fL_t (l := lawL) (i := 7) rfl]
  refine x_dup dR_init_355 rfl ?_
  refine x_bipush (v := 8) dR_init_356 rfl ?_
  refine x_bipush (v := 32) dR_init_358 rfl ?_
  refine x_iastJ (j := 8) dR_init_360 rfl rfl rfl (by decide) ?_
  rw [fL_t (l := lawL) (i := 8) rfl]
  refine x_dup dR_init_361 rfl ?_
  refine x_bipush (v := 9) dR_init_362 rfl ?_
  refine x_bipush (v := 43) dR_init_364 rfl ?_
  refine x_iastJ (j := 9) dR_init_366 rfl rfl rfl (by decide) ?_
  rw [fL_t (l := lawL) (i := 9) rfl]
  refine x_dup dR_init_367 rfl ?_
  refine x_bipush (v := 10) dR_init_368 rfl ?_
  refine x_bipush (v := 32) dR_init_370 rfl ?_
  refine x_iastJ (j := 10) dR_init_372 rfl rfl rfl (by decide) ?_
  rw [fL_t (l := lawL) (i := 10) rfl]
  refine x_dup dR_init_373 rfl ?_
  refine x_bipush (v := 11) dR_init_374 rfl ?_
  refine x_bipush (v := 108) dR_init_376 rfl ?_
  refine x_iastJ (j := 11) dR_init_378 rfl rfl rfl (by decide) ?_
  rw [fL_t (l := lawL) (i := 11) rfl]
  refine x_dup dR_init_379 rfl ?_
  refine x_bipush (v := 12) dR_init_380 rfl ?_
  refine x_bipush (v := 111) dR_init_382 rfl ?_
  refine x_iastJ (j := 12) dR_init_384 rfl rfl rfl (by decide) ?_
  rw [fL_t (l := lawL) (i := 12) rfl]
  refine x_dup dR_init_385 rfl ?_
  refine x_bipush (v := 13) dR_init_386 rfl ?_
  refine x_bipush (v := 117) dR_init_388 rfl ?_
  refine x_iastJ (j := 13) dR_init_390 rfl rfl rfl (by decide) ?_
  rw [fL_t (l := lawL) (i := 13) rfl]
  refine x_dup dR_init_391 rfl ?_
  refine x_bipush (v := 14) dR_init_392 rfl ?_
  refine x_bipush (v := 100) dR_init_394 rfl ?_
  refine x_iastJ (j := 14) dR_init_396 rfl rfl rfl (by decide) ?_
  rw [fL_t (l := lawL) (i := 14) rfl]
  exact h
set_option maxHeartbeats 4000000 in
set_option maxRecDepth 100000 in
theorem ri_91_15 {G : WG} {J : IM} {L : LM} {Post : PostT} {r : Nat × Nat × Nat} (h : X mR_init G r (SP 92 [(59, 43, 0)]) (upr J 91 (fL (List.take 30 lawL))) L 487 [.ref 59, .null] [.ref 91, .ref 59] Post) : X mR_init G r (SP 92 [(59, 43, 0)]) (upr J 91 (fL (List.take 15 lawL))) L 397 [.ref 59, .null] [.ref 91, .ref 59] Post := by
  refine x_dup dR_init_397 rfl ?_
  refine x_bipush (v := 15) dR_init_398 rfl ?_
  refine x_bipush (v := 32) dR_init_400 rfl ?_
  refine x_iastJ (j := 15) dR_init_402 rfl rfl rfl (by decide) ?_
  rw [fL_t (l := lawL) (i := 15) rfl]
  refine x_dup dR_init_403 rfl ?_
  refine x_bipush (v := 16) dR_init_404 rfl ?_
  refine x_bipush (v := 42) dR_init_406 rfl ?_
  refine x_iastJ (j := 16) dR_init_408 rfl rfl rfl (by decide) ?_
  rw [fL_t (l := lawL) (i := 16) rfl]
  refine x_dup dR_init_409 rfl ?_
  refine x_bipush (v := 17) dR_init_410 rfl ?_
  refine x_bipush (v := 32) dR_init_412 rfl ?_
  refine x_iastJ (j := 17) dR_init_414 rfl rfl rfl (by decide) ?_
  rw [fL_t (l := lawL) (i := 17) rfl]
  refine x_dup dR_init_415 rfl ?_
  refine x_bipush (v := 18) dR_init_416 rfl ?_
  refine x_bipush (v := 49) dR_init_418 rfl ?_
  refine x_iastJ (j := 18) dR_init_420 rfl rfl rfl (by decide) ?_
  rw [fL_t (l := lawL) (i := 18) rfl]
  refine x_dup dR_init_421 rfl ?_
  refine x_bipush (v := 19) dR_init_422 rfl ?_
  refine x_bipush (v := 50) dR_init_424 rfl ?_
  refine x_iastJ (j := 19) dR_init_426 rfl rfl rfl (by decide) ?_
  rw [fL_t (l := lawL) (i := 19) rfl]
  refine x_dup dR_init_427 rfl ?_
  refine x_bipush (v := 20) dR_init_428 rfl ?_
  refine x_bipush (v := 32) dR_init_430 rfl ?_
  refine x_iastJ (j := 20) dR_init_432 rfl rfl rfl (by decide) ?_
  rw [fL_t (l := lawL) (i := 20) rfl]
  refine x_dup dR_init_433 rfl ?_
  refine x_bipush (v := 21) dR_init_434 rfl ?_
  refine x_bipush (v := 45) dR_init_436 rfl ?_
  refine x_iastJ (j := 21) dR_init_438 rfl rfl rfl (by decide) ?_
  rw [fL_t (l := lawL) (i := 21) rfl]
  refine x_dup dR_init_439 rfl ?_
  refine x_bipush (v := 22) dR_init_440 rfl ?_
  refine x_bipush (v := 32) dR_init_442 rfl ?_
  refine x_iastJ (j := 22) dR_init_444 rfl rfl rfl (by decide) ?_
  rw [fL_t (l := lawL) (i := 22) rfl]
  refine x_dup dR_init_445 rfl ?_
  refine x_bipush (v := 23) dR_init_446 rfl ?_
  refine x_bipush (v := 102) dR_init_448 rfl ?_
  refine x_iastJ (j := 23) dR_init_450 rfl rfl rfl (by decide) ?_
  rw [fL_t (l := lawL) (i := 23) rfl]
  refine x_dup dR_init_451 rfl ?_
  refine x_bipush (v := 24) dR_init_452 rfl ?_
  refine x_bipush (v := 97) dR_init_454 rfl ?_
  refine x_iastJ (j := 24) dR_init_456 rfl rfl rfl (by decide) ?_
  rw [fL_t (l := lawL) (i := 24) rfl]
  refine x_dup dR_init_457 rfl ?_
  refine x_bipush (v := 25) dR_init_458 rfl ?_
  refine x_bipush (v := 114) dR_init_460 rfl ?_
  refine x_iastJ (j := 25) dR_init_462 rfl rfl rfl (by decide) ?_
  rw [fL_t (l := lawL) (i := 25) rfl]
  refine x_dup dR_init_463 rfl ?_
  refine x_bipush (v := 26) dR_init_464 rfl ?_
  refine x_bipush (v := 32) dR_init_466 rfl ?_
  refine x_iastJ (j := 26) dR_init_468 rfl rfl rfl (by decide) ?_
  rw [fL_t (l := lawL) (i := 26) rfl]
  refine x_dup dR_init_469 rfl ?_
  refine x_bipush (v := 27) dR_init_470 rfl ?_
  refine x_bipush (v := 42) dR_init_472 rfl ?_
  refine x_iastJ (j := 27) dR_init_474 rfl rfl rfl (by decide) ?_
  rw [fL_t (l := lawL) (i := 27) rfl]
  refine x_dup dR_init_475 rfl ?_
  refine x_bipush (v := 28) dR_init_476 rfl ?_
  refine x_bipush (v := 32) dR_init_478 rfl ?_
  refine x_iastJ (j := 28) dR_init_480 rfl rfl rfl (by decide) ?_
  rw [fL_t (l := lawL) (i := 28) rfl]
  refine x_dup dR_init_481 rfl ?_
  refine x_bipush (v := 29) dR_init_482 rfl ?_
  refine x_bipush (v := 49) dR_init_484 rfl ?_
  refine x_iastJ (j := 29) dR_init_486 rfl rfl rfl (by decide) ?_
  rw [fL_t (l := lawL) (i := 29) rfl]
  exact h
set_option maxHeartbeats 4000000 in
set_option maxRecDepth 100000 in
theorem ri_91_30 {G : WG} {J : IM} {L : LM} {Post : PostT} {r : Nat × Nat × Nat} (h : X mR_init G r (SP 92 [(59, 43, 0)]) (upr J 91 (fL (List.take 45 lawL))) L 577 [.ref 59, .null] [.ref 91, .ref 59] Post) : X mR_init G r (SP 92 [(59, 43, 0)]) (upr J 91 (fL (List.take 30 lawL))) L 487 [.ref 59, .null] [.ref 91, .ref 59] Post := by
  refine x_dup dR_init_487 rfl ?_
  refine x_bipush (v := 30) dR_init_488 rfl ?_
  refine x_bipush (v := 53) dR_init_490 rfl ?_
  refine x_iastJ (j := 30) dR_init_492 rfl rfl rfl (by decide) ?_
  rw [fL_t (l := lawL) (i := 30) rfl]
  refine x_dup dR_init_493 rfl ?_
  refine x_bipush (v := 31) dR_init_494 rfl ?_
  refine x_bipush (v := 32) dR_init_496 rfl ?_
  refine x_iastJ (j := 31) dR_init_498 rfl rfl rfl (by decide) ?_
  rw [fL_t (l := lawL) (i := 31) rfl]
  refine x_dup dR_init_499 rfl ?_
  refine x_bipush (v := 32) dR_init_500 rfl ?_
  refine x_bipush (v := 43) dR_init_502 rfl ?_
  refine x_iastJ (j := 32) dR_init_504 rfl rfl rfl (by decide) ?_
  rw [fL_t (l := lawL) (i := 32) rfl]
  refine x_dup dR_init_505 rfl ?_
  refine x_bipush (v := 33) dR_init_506 rfl ?_
  refine x_bipush (v := 32) dR_init_508 rfl ?_
  refine x_iastJ (j := 33) dR_init_510 rfl rfl rfl (by decide) ?_
  rw [fL_t (l := lawL) (i := 33) rfl]
  refine x_dup dR_init_511 rfl ?_
  refine x_bipush (v := 34) dR_init_512 rfl ?_
  refine x_bipush (v := 101) dR_init_514 rfl ?_
  refine x_iastJ (j := 34) dR_init_516 rfl rfl rfl (by decide) ?_
  rw [fL_t (l := lawL) (i := 34) rfl]
  refine x_dup dR_init_517 rfl ?_
  refine x_bipush (v := 35) dR_init_518 rfl ?_
  refine x_bipush (v := 97) dR_init_520 rfl ?_
  refine x_iastJ (j := 35) dR_init_522 rfl rfl rfl (by decide) ?_
  rw [fL_t (l := lawL) (i := 35) rfl]
  refine x_dup dR_init_523 rfl ?_
  refine x_bipush (v := 36) dR_init_524 rfl ?_
  refine x_bipush (v := 114) dR_init_526 rfl ?_
  refine x_iastJ (j := 36) dR_init_528 rfl rfl rfl (by decide) ?_
  rw [fL_t (l := lawL) (i := 36) rfl]
  refine x_dup dR_init_529 rfl ?_
  refine x_bipush (v := 37) dR_init_530 rfl ?_
  refine x_bipush (v := 32) dR_init_532 rfl ?_
  refine x_iastJ (j := 37) dR_init_534 rfl rfl rfl (by decide) ?_
  rw [fL_t (l := lawL) (i := 37) rfl]
  refine x_dup dR_init_535 rfl ?_
  refine x_bipush (v := 38) dR_init_536 rfl ?_
  refine x_bipush (v := 42) dR_init_538 rfl ?_
  refine x_iastJ (j := 38) dR_init_540 rfl rfl rfl (by decide) ?_
  rw [fL_t (l := lawL) (i := 38) rfl]
  refine x_dup dR_init_541 rfl ?_
  refine x_bipush (v := 39) dR_init_542 rfl ?_
  refine x_bipush (v := 32) dR_init_544 rfl ?_
  refine x_iastJ (j := 39) dR_init_546 rfl rfl rfl (by decide) ?_
  rw [fL_t (l := lawL) (i := 39) rfl]
  refine x_dup dR_init_547 rfl ?_
  refine x_bipush (v := 40) dR_init_548 rfl ?_
  refine x_bipush (v := 51) dR_init_550 rfl ?_
  refine x_iastJ (j := 40) dR_init_552 rfl rfl rfl (by decide) ?_
  rw [fL_t (l := lawL) (i := 40) rfl]
  refine x_dup dR_init_553 rfl ?_
  refine x_bipush (v := 41) dR_init_554 rfl ?_
  refine x_bipush (v := 32) dR_init_556 rfl ?_
  refine x_iastJ (j := 41) dR_init_558 rfl rfl rfl (by decide) ?_
  rw [fL_t (l := lawL) (i := 41) rfl]
  refine x_dup dR_init_559 rfl ?_
  refine x_bipush (v := 42) dR_init_560 rfl ?_
  refine x_bipush (v := 59) dR_init_562 rfl ?_
  refine x_iastJ (j := 42) dR_init_564 rfl rfl rfl (by decide) ?_
  rw [fL_t (l := lawL) (i := 42) rfl]
  refine x_dup dR_init_565 rfl ?_
  refine x_bipush (v := 43) dR_init_566 rfl ?_
  refine x_bipush (v := 32) dR_init_568 rfl ?_
  refine x_iastJ (j := 43) dR_init_570 rfl rfl rfl (by decide) ?_
  rw [fL_t (l := lawL) (i := 43) rfl]
  refine x_dup dR_init_571 rfl ?_
  refine x_bipush (v := 44) dR_init_572 rfl ?_
  refine x_bipush (v := 115) dR_init_574 rfl ?_
  refine x_iastJ (j := 44) dR_init_576 rfl rfl rfl (by decide) ?_
  rw [fL_t (l := lawL) (i := 44) rfl]
  exact h
set_option maxHeartbeats 4000000 in
set_option maxRecDepth 100000 in
theorem ri_91_45 {G : WG} {J : IM} {L : LM} {Post : PostT} {r : Nat × Nat × Nat} (h : X mR_init G r (SP 92 [(59, 43, 0)]) (upr J 91 (fL (List.take 60 lawL))) L 667 [.ref 59, .null] [.ref 91, .ref 59] Post) : X mR_init G r (SP 92 [(59, 43, 0)]) (upr J 91 (fL (List.take 45 lawL))) L 577 [.ref 59, .null] [.ref 91, .ref 59] Post := by
  refine x_dup dR_init_577 rfl ?_
  refine x_bipush (v := 45) dR_init_578 rfl ?_
  refine x_bipush (v := 104) dR_init_580 rfl ?_
  refine x_iastJ (j := 45) dR_init_582 rfl rfl rfl (by decide) ?_
  rw [fL_t (l := lawL) (i := 45) rfl]
  refine x_dup dR_init_583 rfl ?_
  refine x_bipush (v := 46) dR_init_584 rfl ?_
  refine x_bipush (v := 97) dR_init_586 rfl ?_
  refine x_iastJ (j := 46) dR_init_588 rfl rfl rfl (by decide) ?_
  rw [fL_t (l := lawL) (i := 46) rfl]
  refine x_dup dR_init_589 rfl ?_
  refine x_bipush (v := 47) dR_init_590 rfl ?_
  refine x_bipush (v := 114) dR_init_592 rfl ?_
  refine x_iastJ (j := 47) dR_init_594 rfl rfl rfl (by decide) ?_
  rw [fL_t (l := lawL) (i := 47) rfl]
  refine x_dup dR_init_595 rfl ?_
  refine x_bipush (v := 48) dR_init_596 rfl ?_
  refine x_bipush (v := 101) dR_init_598 rfl ?_
  refine x_iastJ (j := 48) dR_init_600 rfl rfl rfl (by decide) ?_
  rw [fL_t (l := lawL) (i := 48) rfl]
  refine x_dup dR_init_601 rfl ?_
  refine x_bipush (v := 49) dR_init_602 rfl ?_
  refine x_bipush (v := 32) dR_init_604 rfl ?_
  refine x_iastJ (j := 49) dR_init_606 rfl rfl rfl (by decide) ?_
  rw [fL_t (l := lawL) (i := 49) rfl]
  refine x_dup dR_init_607 rfl ?_
  refine x_bipush (v := 50) dR_init_608 rfl ?_
  refine x_bipush (v := 110) dR_init_610 rfl ?_
  refine x_iastJ (j := 50) dR_init_612 rfl rfl rfl (by decide) ?_
  rw [fL_t (l := lawL) (i := 50) rfl]
  refine x_dup dR_init_613 rfl ?_
  refine x_bipush (v := 51) dR_init_614 rfl ?_
  refine x_bipush (v := 101) dR_init_616 rfl ?_
  refine x_iastJ (j := 51) dR_init_618 rfl rfl rfl (by decide) ?_
  rw [fL_t (l := lawL) (i := 51) rfl]
  refine x_dup dR_init_619 rfl ?_
  refine x_bipush (v := 52) dR_init_620 rfl ?_
  refine x_bipush (v := 101) dR_init_622 rfl ?_
  refine x_iastJ (j := 52) dR_init_624 rfl rfl rfl (by decide) ?_
  rw [fL_t (l := lawL) (i := 52) rfl]
  refine x_dup dR_init_625 rfl ?_
  refine x_bipush (v := 53) dR_init_626 rfl ?_
  refine x_bipush (v := 100) dR_init_628 rfl ?_
  refine x_iastJ (j := 53) dR_init_630 rfl rfl rfl (by decide) ?_
  rw [fL_t (l := lawL) (i := 53) rfl]
  refine x_dup dR_init_631 rfl ?_
  refine x_bipush (v := 54) dR_init_632 rfl ?_
  refine x_bipush (v := 32) dR_init_634 rfl ?_
  refine x_iastJ (j := 54) dR_init_636 rfl rfl rfl (by decide) ?_
  rw [fL_t (l := lawL) (i := 54) rfl]
  refine x_dup dR_init_637 rfl ?_
  refine x_bipush (v := 55) dR_init_638 rfl ?_
  refine x_bipush (v := 59) dR_init_640 rfl ?_
  refine x_iastJ (j := 55) dR_init_642 rfl rfl rfl (by decide) ?_
  rw [fL_t (l := lawL) (i := 55) rfl]
  refine x_dup dR_init_643 rfl ?_
  refine x_bipush (v := 56) dR_init_644 rfl ?_
  refine x_bipush (v := 32) dR_init_646 rfl ?_
  refine x_iastJ (j := 56) dR_init_648 rfl rfl rfl (by decide) ?_
  rw [fL_t (l := lawL) (i := 56) rfl]
  refine x_dup dR_init_649 rfl ?_
  refine x_bipush (v := 57) dR_init_650 rfl ?_
  refine x_bipush (v := 112) dR_init_652 rfl ?_
  refine x_iastJ (j := 57) dR_init_654 rfl rfl rfl (by decide) ?_
  rw [fL_t (l := lawL) (i := 57) rfl]
  refine x_dup dR_init_655 rfl ?_
  refine x_bipush (v := 58) dR_init_656 rfl ?_
  refine x_bipush (v := 97) dR_init_658 rfl ?_
  refine x_iastJ (j := 58) dR_init_660 rfl rfl rfl (by decide) ?_
  rw [fL_t (l := lawL) (i := 58) rfl]
  refine x_dup dR_init_661 rfl ?_
  refine x_bipush (v := 59) dR_init_662 rfl ?_
  refine x_bipush (v := 105) dR_init_664 rfl ?_
  refine x_iastJ (j := 59) dR_init_666 rfl rfl rfl (by decide) ?_
  rw [fL_t (l := lawL) (i := 59) rfl]
  exact h
set_option maxHeartbeats 4000000 in
set_option maxRecDepth 100000 in
theorem ri_91_60 {G : WG} {J : IM} {L : LM} {Post : PostT} {r : Nat × Nat × Nat} (h : X mR_init G r (SP 92 [(59, 43, 0)]) (upr J 91 (fL (List.take 75 lawL))) L 757 [.ref 59, .null] [.ref 91, .ref 59] Post) : X mR_init G r (SP 92 [(59, 43, 0)]) (upr J 91 (fL (List.take 60 lawL))) L 667 [.ref 59, .null] [.ref 91, .ref 59] Post := by
  refine x_dup dR_init_667 rfl ?_
  refine x_bipush (v := 60) dR_init_668 rfl ?_
  refine x_bipush (v := 110) dR_init_670 rfl ?_
  refine x_iastJ (j := 60) dR_init_672 rfl rfl rfl (by decide) ?_
  rw [fL_t (l := lawL) (i := 60) rfl]
  refine x_dup dR_init_673 rfl ?_
  refine x_bipush (v := 61) dR_init_674 rfl ?_
  refine x_bipush (v := 32) dR_init_676 rfl ?_
  refine x_iastJ (j := 61) dR_init_678 rfl rfl rfl (by decide) ?_
  rw [fL_t (l := lawL) (i := 61) rfl]
  refine x_dup dR_init_679 rfl ?_
  refine x_bipush (v := 62) dR_init_680 rfl ?_
  refine x_bipush (v := 110) dR_init_682 rfl ?_
  refine x_iastJ (j := 62) dR_init_684 rfl rfl rfl (by decide) ?_
  rw [fL_t (l := lawL) (i := 62) rfl]
  refine x_dup dR_init_685 rfl ?_
  refine x_bipush (v := 63) dR_init_686 rfl ?_
  refine x_bipush (v := 101) dR_init_688 rfl ?_
  refine x_iastJ (j := 63) dR_init_690 rfl rfl rfl (by decide) ?_
  rw [fL_t (l := lawL) (i := 63) rfl]
  refine x_dup dR_init_691 rfl ?_
  refine x_bipush (v := 64) dR_init_692 rfl ?_
  refine x_bipush (v := 101) dR_init_694 rfl ?_
  refine x_iastJ (j := 64) dR_init_696 rfl rfl rfl (by decide) ?_
  rw [fL_t (l := lawL) (i := 64) rfl]
  refine x_dup dR_init_697 rfl ?_
  refine x_bipush (v := 65) dR_init_698 rfl ?_
  refine x_bipush (v := 100) dR_init_700 rfl ?_
  refine x_iastJ (j := 65) dR_init_702 rfl rfl rfl (by decide) ?_
  rw [fL_t (l := lawL) (i := 65) rfl]
  refine x_dup dR_init_703 rfl ?_
  refine x_bipush (v := 66) dR_init_704 rfl ?_
  refine x_bipush (v := 32) dR_init_706 rfl ?_
  refine x_iastJ (j := 66) dR_init_708 rfl rfl rfl (by decide) ?_
  rw [fL_t (l := lawL) (i := 66) rfl]
  refine x_dup dR_init_709 rfl ?_
  refine x_bipush (v := 67) dR_init_710 rfl ?_
  refine x_bipush (v := 42) dR_init_712 rfl ?_
  refine x_iastJ (j := 67) dR_init_714 rfl rfl rfl (by decide) ?_
  rw [fL_t (l := lawL) (i := 67) rfl]
  refine x_dup dR_init_715 rfl ?_
  refine x_bipush (v := 68) dR_init_716 rfl ?_
  refine x_bipush (v := 32) dR_init_718 rfl ?_
  refine x_iastJ (j := 68) dR_init_720 rfl rfl rfl (by decide) ?_
  rw [fL_t (l := lawL) (i := 68) rfl]
  refine x_dup dR_init_721 rfl ?_
  refine x_bipush (v := 69) dR_init_722 rfl ?_
  refine x_bipush (v := 98) dR_init_724 rfl ?_
  refine x_iastJ (j := 69) dR_init_726 rfl rfl rfl (by decide) ?_
  rw [fL_t (l := lawL) (i := 69) rfl]
  refine x_dup dR_init_727 rfl ?_
  refine x_bipush (v := 70) dR_init_728 rfl ?_
  refine x_bipush (v := 97) dR_init_730 rfl ?_
  refine x_iastJ (j := 70) dR_init_732 rfl rfl rfl (by decide) ?_
  rw [fL_t (l := lawL) (i := 70) rfl]
  refine x_dup dR_init_733 rfl ?_
  refine x_bipush (v := 71) dR_init_734 rfl ?_
  refine x_bipush (v := 115) dR_init_736 rfl ?_
  refine x_iastJ (j := 71) dR_init_738 rfl rfl rfl (by decide) ?_
  rw [fL_t (l := lawL) (i := 71) rfl]
  refine x_dup dR_init_739 rfl ?_
  refine x_bipush (v := 72) dR_init_740 rfl ?_
  refine x_bipush (v := 101) dR_init_742 rfl ?_
  refine x_iastJ (j := 72) dR_init_744 rfl rfl rfl (by decide) ?_
  rw [fL_t (l := lawL) (i := 72) rfl]
  refine x_dup dR_init_745 rfl ?_
  refine x_bipush (v := 73) dR_init_746 rfl ?_
  refine x_bipush (v := 32) dR_init_748 rfl ?_
  refine x_iastJ (j := 73) dR_init_750 rfl rfl rfl (by decide) ?_
  rw [fL_t (l := lawL) (i := 73) rfl]
  refine x_dup dR_init_751 rfl ?_
  refine x_bipush (v := 74) dR_init_752 rfl ?_
  refine x_bipush (v := 59) dR_init_754 rfl ?_
  refine x_iastJ (j := 74) dR_init_756 rfl rfl rfl (by decide) ?_
  rw [fL_t (l := lawL) (i := 74) rfl]
  exact h
set_option maxHeartbeats 4000000 in
set_option maxRecDepth 100000 in
theorem ri_92_0 {G : WG} {J : IM} {L : LM} {Post : PostT} {r : Nat × Nat × Nat} (h : X mR_init G r (SP 93 [(59, 44, 0)]) (upr J 92 (fL (List.take 15 wordsL))) L 849 [.ref 59, .null] [.ref 92, .ref 59] Post) : X mR_init G r (SP 93 [(59, 44, 0)]) (upr J 92 (fL (List.take 0 wordsL))) L 765 [.ref 59, .null] [.ref 92, .ref 59] Post := by
  refine x_dup dR_init_765 rfl ?_
  refine x_iconst (v := 0) dR_init_766 rfl ?_
  refine x_bipush (v := 104) dR_init_767 rfl ?_
  refine x_iastJ (j := 0) dR_init_769 rfl rfl rfl (by decide) ?_
  rw [fL_t (l := wordsL) (i := 0) rfl]
  refine x_dup dR_init_770 rfl ?_
  refine x_iconst (v := 1) dR_init_771 rfl ?_
  refine x_bipush (v := 101) dR_init_772 rfl ?_
  refine x_iastJ (j := 1) dR_init_774 rfl rfl rfl (by decide) ?_
  rw [fL_t (l := wordsL) (i := 1) rfl]
  refine x_dup dR_init_775 rfl ?_
  refine x_iconst (v := 2) dR_init_776 rfl ?_
  refine x_bipush (v := 97) dR_init_777 rfl ?_
  refine x_iastJ (j := 2) dR_init_779 rfl rfl rfl (by decide) ?_
  rw [fL_t (l := wordsL) (i := 2) rfl]
  refine x_dup dR_init_780 rfl ?_
  refine x_iconst (v := 3) dR_init_781 rfl ?_
  refine x_bipush (v := 114) dR_init_782 rfl ?_
  refine x_iastJ (j := 3) dR_init_784 rfl rfl rfl (by decide) ?_
  rw [fL_t (l := wordsL) (i := 3) rfl]
  refine x_dup dR_init_785 rfl ?_
  refine x_iconst (v := 4) dR_init_786 rfl ?_
  refine x_bipush (v := 100) dR_init_787 rfl ?_
  refine x_iastJ (j := 4) dR_init_789 rfl rfl rfl (by decide) ?_
  rw [fL_t (l := wordsL) (i := 4) rfl]
  refine x_dup dR_init_790 rfl ?_
  refine x_iconst (v := 5) dR_init_791 rfl ?_
  refine x_bipush (v := 32) dR_init_792 rfl ?_
  refine x_iastJ (j := 5) dR_init_794 rfl rfl rfl (by decide) ?_
  rw [fL_t (l := wordsL) (i := 5) rfl]
  refine x_dup dR_init_795 rfl ?_
  refine x_bipush (v := 6) dR_init_796 rfl ?_
  refine x_bipush (v := 32) dR_init_798 rfl ?_
  refine x_iastJ (j := 6) dR_init_800 rfl rfl rfl (by decide) ?_
  rw [fL_t (l := wordsL) (i := 6) rfl]
  refine x_dup dR_init_801 rfl ?_
  refine x_bipush (v := 7) dR_init_802 rfl ?_
  refine x_bipush (v := 32) dR_init_804 rfl ?_
  refine x_iastJ (j := 7) dR_init_806 rfl rfl rfl (by decide) ?_
  rw [fL_t (l := wordsL) (i := 7) rfl]
  refine x_dup dR_init_807 rfl ?_
  refine x_bipush (v := 8) dR_init_808 rfl ?_
  refine x_bipush (v := 115) dR_init_810 rfl ?_
  refine x_iastJ (j := 8) dR_init_812 rfl rfl rfl (by decide) ?_
  rw [fL_t (l := wordsL) (i := 8) rfl]
  refine x_dup dR_init_813 rfl ?_
  refine x_bipush (v := 9) dR_init_814 rfl ?_
  refine x_bipush (v := 104) dR_init_816 rfl ?_
  refine x_iastJ (j := 9) dR_init_818 rfl rfl rfl (by decide) ?_
  rw [fL_t (l := wordsL) (i := 9) rfl]
  refine x_dup dR_init_819 rfl ?_
  refine x_bipush (v := 10) dR_init_820 rfl ?_
  refine x_bipush (v := 97) dR_init_822 rfl ?_
  refine x_iastJ (j := 10) dR_init_824 rfl rfl rfl (by decide) ?_
  rw [fL_t (l := wordsL) (i := 10) rfl]
  refine x_dup dR_init_825 rfl ?_
  refine x_bipush (v := 11) dR_init_826 rfl ?_
  refine x_bipush (v := 114) dR_init_828 rfl ?_
  refine x_iastJ (j := 11) dR_init_830 rfl rfl rfl (by decide) ?_
  rw [fL_t (l := wordsL) (i := 11) rfl]
  refine x_dup dR_init_831 rfl ?_
  refine x_bipush (v := 12) dR_init_832 rfl ?_
  refine x_bipush (v := 101) dR_init_834 rfl ?_
  refine x_iastJ (j := 12) dR_init_836 rfl rfl rfl (by decide) ?_
  rw [fL_t (l := wordsL) (i := 12) rfl]
  refine x_dup dR_init_837 rfl ?_
  refine x_bipush (v := 13) dR_init_838 rfl ?_
  refine x_bipush (v := 32) dR_init_840 rfl ?_
  refine x_iastJ (j := 13) dR_init_842 rfl rfl rfl (by decide) ?_
  rw [fL_t (l := wordsL) (i := 13) rfl]
  refine x_dup dR_init_843 rfl ?_
  refine x_bipush (v := 14) dR_init_844 rfl ?_
  refine x_bipush (v := 32) dR_init_846 rfl ?_
  refine x_iastJ (j := 14) dR_init_848 rfl rfl rfl (by decide) ?_
  rw [fL_t (l := wordsL) (i := 14) rfl]
  exact h
set_option maxHeartbeats 4000000 in
set_option maxRecDepth 100000 in
theorem ri_92_15 {G : WG} {J : IM} {L : LM} {Post : PostT} {r : Nat × Nat × Nat} (h : X mR_init G r (SP 93 [(59, 44, 0)]) (upr J 92 (fL (List.take 30 wordsL))) L 939 [.ref 59, .null] [.ref 92, .ref 59] Post) : X mR_init G r (SP 93 [(59, 44, 0)]) (upr J 92 (fL (List.take 15 wordsL))) L 849 [.ref 59, .null] [.ref 92, .ref 59] Post := by
  refine x_dup dR_init_849 rfl ?_
  refine x_bipush (v := 15) dR_init_850 rfl ?_
  refine x_bipush (v := 32) dR_init_852 rfl ?_
  refine x_iastJ (j := 15) dR_init_854 rfl rfl rfl (by decide) ?_
  rw [fL_t (l := wordsL) (i := 15) rfl]
  refine x_dup dR_init_855 rfl ?_
  refine x_bipush (v := 16) dR_init_856 rfl ?_
  refine x_bipush (v := 112) dR_init_858 rfl ?_
  refine x_iastJ (j := 16) dR_init_860 rfl rfl rfl (by decide) ?_
  rw [fL_t (l := wordsL) (i := 16) rfl]
  refine x_dup dR_init_861 rfl ?_
  refine x_bipush (v := 17) dR_init_862 rfl ?_
  refine x_bipush (v := 97) dR_init_864 rfl ?_
  refine x_iastJ (j := 17) dR_init_866 rfl rfl rfl (by decide) ?_
  rw [fL_t (l := wordsL) (i := 17) rfl]
  refine x_dup dR_init_867 rfl ?_
  refine x_bipush (v := 18) dR_init_868 rfl ?_
  refine x_bipush (v := 105) dR_init_870 rfl ?_
  refine x_iastJ (j := 18) dR_init_872 rfl rfl rfl (by decide) ?_
  rw [fL_t (l := wordsL) (i := 18) rfl]
  refine x_dup dR_init_873 rfl ?_
  refine x_bipush (v := 19) dR_init_874 rfl ?_
  refine x_bipush (v := 110) dR_init_876 rfl ?_
  refine x_iastJ (j := 19) dR_init_878 rfl rfl rfl (by decide) ?_
  rw [fL_t (l := wordsL) (i := 19) rfl]
  refine x_dup dR_init_879 rfl ?_
  refine x_bipush (v := 20) dR_init_880 rfl ?_
  refine x_bipush (v := 32) dR_init_882 rfl ?_
  refine x_iastJ (j := 20) dR_init_884 rfl rfl rfl (by decide) ?_
  rw [fL_t (l := wordsL) (i := 20) rfl]
  refine x_dup dR_init_885 rfl ?_
  refine x_bipush (v := 21) dR_init_886 rfl ?_
  refine x_bipush (v := 32) dR_init_888 rfl ?_
  refine x_iastJ (j := 21) dR_init_890 rfl rfl rfl (by decide) ?_
  rw [fL_t (l := wordsL) (i := 21) rfl]
  refine x_dup dR_init_891 rfl ?_
  refine x_bipush (v := 22) dR_init_892 rfl ?_
  refine x_bipush (v := 32) dR_init_894 rfl ?_
  refine x_iastJ (j := 22) dR_init_896 rfl rfl rfl (by decide) ?_
  rw [fL_t (l := wordsL) (i := 22) rfl]
  refine x_dup dR_init_897 rfl ?_
  refine x_bipush (v := 23) dR_init_898 rfl ?_
  refine x_bipush (v := 32) dR_init_900 rfl ?_
  refine x_iastJ (j := 23) dR_init_902 rfl rfl rfl (by decide) ?_
  rw [fL_t (l := wordsL) (i := 23) rfl]
  refine x_dup dR_init_903 rfl ?_
  refine x_bipush (v := 24) dR_init_904 rfl ?_
  refine x_bipush (v := 108) dR_init_906 rfl ?_
  refine x_iastJ (j := 24) dR_init_908 rfl rfl rfl (by decide) ?_
  rw [fL_t (l := wordsL) (i := 24) rfl]
  refine x_dup dR_init_909 rfl ?_
  refine x_bipush (v := 25) dR_init_910 rfl ?_
  refine x_bipush (v := 111) dR_init_912 rfl ?_
  refine x_iastJ (j := 25) dR_init_914 rfl rfl rfl (by decide) ?_
  rw [fL_t (l := wordsL) (i := 25) rfl]
  refine x_dup dR_init_915 rfl ?_
  refine x_bipush (v := 26) dR_init_916 rfl ?_
  refine x_bipush (v := 117) dR_init_918 rfl ?_
  refine x_iastJ (j := 26) dR_init_920 rfl rfl rfl (by decide) ?_
  rw [fL_t (l := wordsL) (i := 26) rfl]
  refine x_dup dR_init_921 rfl ?_
  refine x_bipush (v := 27) dR_init_922 rfl ?_
  refine x_bipush (v := 100) dR_init_924 rfl ?_
  refine x_iastJ (j := 27) dR_init_926 rfl rfl rfl (by decide) ?_
  rw [fL_t (l := wordsL) (i := 27) rfl]
  refine x_dup dR_init_927 rfl ?_
  refine x_bipush (v := 28) dR_init_928 rfl ?_
  refine x_bipush (v := 32) dR_init_930 rfl ?_
  refine x_iastJ (j := 28) dR_init_932 rfl rfl rfl (by decide) ?_
  rw [fL_t (l := wordsL) (i := 28) rfl]
  refine x_dup dR_init_933 rfl ?_
  refine x_bipush (v := 29) dR_init_934 rfl ?_
  refine x_bipush (v := 32) dR_init_936 rfl ?_
  refine x_iastJ (j := 29) dR_init_938 rfl rfl rfl (by decide) ?_
  rw [fL_t (l := wordsL) (i := 29) rfl]
  exact h
set_option maxHeartbeats 4000000 in
set_option maxRecDepth 100000 in
theorem ri_92_30 {G : WG} {J : IM} {L : LM} {Post : PostT} {r : Nat × Nat × Nat} (h : X mR_init G r (SP 93 [(59, 44, 0)]) (upr J 92 (fL (List.take 45 wordsL))) L 1029 [.ref 59, .null] [.ref 92, .ref 59] Post) : X mR_init G r (SP 93 [(59, 44, 0)]) (upr J 92 (fL (List.take 30 wordsL))) L 939 [.ref 59, .null] [.ref 92, .ref 59] Post := by
  refine x_dup dR_init_939 rfl ?_
  refine x_bipush (v := 30) dR_init_940 rfl ?_
  refine x_bipush (v := 32) dR_init_942 rfl ?_
  refine x_iastJ (j := 30) dR_init_944 rfl rfl rfl (by decide) ?_
  rw [fL_t (l := wordsL) (i := 30) rfl]
  refine x_dup dR_init_945 rfl ?_
  refine x_bipush (v := 31) dR_init_946 rfl ?_
  refine x_bipush (v := 32) dR_init_948 rfl ?_
  refine x_iastJ (j := 31) dR_init_950 rfl rfl rfl (by decide) ?_
  rw [fL_t (l := wordsL) (i := 31) rfl]
  refine x_dup dR_init_951 rfl ?_
  refine x_bipush (v := 32) dR_init_952 rfl ?_
  refine x_bipush (v := 102) dR_init_954 rfl ?_
  refine x_iastJ (j := 32) dR_init_956 rfl rfl rfl (by decide) ?_
  rw [fL_t (l := wordsL) (i := 32) rfl]
  refine x_dup dR_init_957 rfl ?_
  refine x_bipush (v := 33) dR_init_958 rfl ?_
  refine x_bipush (v := 97) dR_init_960 rfl ?_
  refine x_iastJ (j := 33) dR_init_962 rfl rfl rfl (by decide) ?_
  rw [fL_t (l := wordsL) (i := 33) rfl]
  refine x_dup dR_init_963 rfl ?_
  refine x_bipush (v := 34) dR_init_964 rfl ?_
  refine x_bipush (v := 114) dR_init_966 rfl ?_
  refine x_iastJ (j := 34) dR_init_968 rfl rfl rfl (by decide) ?_
  rw [fL_t (l := wordsL) (i := 34) rfl]
  refine x_dup dR_init_969 rfl ?_
  refine x_bipush (v := 35) dR_init_970 rfl ?_
  refine x_bipush (v := 32) dR_init_972 rfl ?_
  refine x_iastJ (j := 35) dR_init_974 rfl rfl rfl (by decide) ?_
  rw [fL_t (l := wordsL) (i := 35) rfl]
  refine x_dup dR_init_975 rfl ?_
  refine x_bipush (v := 36) dR_init_976 rfl ?_
  refine x_bipush (v := 32) dR_init_978 rfl ?_
  refine x_iastJ (j := 36) dR_init_980 rfl rfl rfl (by decide) ?_
  rw [fL_t (l := wordsL) (i := 36) rfl]
  refine x_dup dR_init_981 rfl ?_
  refine x_bipush (v := 37) dR_init_982 rfl ?_
  refine x_bipush (v := 32) dR_init_984 rfl ?_
  refine x_iastJ (j := 37) dR_init_986 rfl rfl rfl (by decide) ?_
  rw [fL_t (l := wordsL) (i := 37) rfl]
  refine x_dup dR_init_987 rfl ?_
  refine x_bipush (v := 38) dR_init_988 rfl ?_
  refine x_bipush (v := 32) dR_init_990 rfl ?_
  refine x_iastJ (j := 38) dR_init_992 rfl rfl rfl (by decide) ?_
  rw [fL_t (l := wordsL) (i := 38) rfl]
  refine x_dup dR_init_993 rfl ?_
  refine x_bipush (v := 39) dR_init_994 rfl ?_
  refine x_bipush (v := 32) dR_init_996 rfl ?_
  refine x_iastJ (j := 39) dR_init_998 rfl rfl rfl (by decide) ?_
  rw [fL_t (l := wordsL) (i := 39) rfl]
  refine x_dup dR_init_999 rfl ?_
  refine x_bipush (v := 40) dR_init_1000 rfl ?_
  refine x_bipush (v := 101) dR_init_1002 rfl ?_
  refine x_iastJ (j := 40) dR_init_1004 rfl rfl rfl (by decide) ?_
  rw [fL_t (l := wordsL) (i := 40) rfl]
  refine x_dup dR_init_1005 rfl ?_
  refine x_bipush (v := 41) dR_init_1006 rfl ?_
  refine x_bipush (v := 97) dR_init_1008 rfl ?_
  refine x_iastJ (j := 41) dR_init_1010 rfl rfl rfl (by decide) ?_
  rw [fL_t (l := wordsL) (i := 41) rfl]
  refine x_dup dR_init_1011 rfl ?_
  refine x_bipush (v := 42) dR_init_1012 rfl ?_
  refine x_bipush (v := 114) dR_init_1014 rfl ?_
  refine x_iastJ (j := 42) dR_init_1016 rfl rfl rfl (by decide) ?_
  rw [fL_t (l := wordsL) (i := 42) rfl]
  refine x_dup dR_init_1017 rfl ?_
  refine x_bipush (v := 43) dR_init_1018 rfl ?_
  refine x_bipush (v := 32) dR_init_1020 rfl ?_
  refine x_iastJ (j := 43) dR_init_1022 rfl rfl rfl (by decide) ?_
  rw [fL_t (l := wordsL) (i := 43) rfl]
  refine x_dup dR_init_1023 rfl ?_
  refine x_bipush (v := 44) dR_init_1024 rfl ?_
  refine x_bipush (v := 32) dR_init_1026 rfl ?_
  refine x_iastJ (j := 44) dR_init_1028 rfl rfl rfl (by decide) ?_
  rw [fL_t (l := wordsL) (i := 44) rfl]
  exact h
set_option maxHeartbeats 4000000 in
set_option maxRecDepth 100000 in
theorem ri_92_45 {G : WG} {J : IM} {L : LM} {Post : PostT} {r : Nat × Nat × Nat} (h : X mR_init G r (SP 93 [(59, 44, 0)]) (upr J 92 (fL (List.take 60 wordsL))) L 1119 [.ref 59, .null] [.ref 92, .ref 59] Post) : X mR_init G r (SP 93 [(59, 44, 0)]) (upr J 92 (fL (List.take 45 wordsL))) L 1029 [.ref 59, .null] [.ref 92, .ref 59] Post := by
  refine x_dup dR_init_1029 rfl ?_
  refine x_bipush (v := 45) dR_init_1030 rfl ?_
  refine x_bipush (v := 32) dR_init_1032 rfl ?_
  refine x_iastJ (j := 45) dR_init_1034 rfl rfl rfl (by decide) ?_
  rw [fL_t (l := wordsL) (i := 45) rfl]
  refine x_dup dR_init_1035 rfl ?_
  refine x_bipush (v := 46) dR_init_1036 rfl ?_
  refine x_bipush (v := 32) dR_init_1038 rfl ?_
  refine x_iastJ (j := 46) dR_init_1040 rfl rfl rfl (by decide) ?_
  rw [fL_t (l := wordsL) (i := 46) rfl]
  refine x_dup dR_init_1041 rfl ?_
  refine x_bipush (v := 47) dR_init_1042 rfl ?_
  refine x_bipush (v := 32) dR_init_1044 rfl ?_
  refine x_iastJ (j := 47) dR_init_1046 rfl rfl rfl (by decide) ?_
  rw [fL_t (l := wordsL) (i := 47) rfl]
  refine x_dup dR_init_1047 rfl ?_
  refine x_bipush (v := 48) dR_init_1048 rfl ?_
  refine x_bipush (v := 110) dR_init_1050 rfl ?_
  refine x_iastJ (j := 48) dR_init_1052 rfl rfl rfl (by decide) ?_
  rw [fL_t (l := wordsL) (i := 48) rfl]
  refine x_dup dR_init_1053 rfl ?_
  refine x_bipush (v := 49) dR_init_1054 rfl ?_
  refine x_bipush (v := 101) dR_init_1056 rfl ?_
  refine x_iastJ (j := 49) dR_init_1058 rfl rfl rfl (by decide) ?_
  rw [fL_t (l := wordsL) (i := 49) rfl]
  refine x_dup dR_init_1059 rfl ?_
  refine x_bipush (v := 50) dR_init_1060 rfl ?_
  refine x_bipush (v := 101) dR_init_1062 rfl ?_
  refine x_iastJ (j := 50) dR_init_1064 rfl rfl rfl (by decide) ?_
  rw [fL_t (l := wordsL) (i := 50) rfl]
  refine x_dup dR_init_1065 rfl ?_
  refine x_bipush (v := 51) dR_init_1066 rfl ?_
  refine x_bipush (v := 100) dR_init_1068 rfl ?_
  refine x_iastJ (j := 51) dR_init_1070 rfl rfl rfl (by decide) ?_
  rw [fL_t (l := wordsL) (i := 51) rfl]
  refine x_dup dR_init_1071 rfl ?_
  refine x_bipush (v := 52) dR_init_1072 rfl ?_
  refine x_bipush (v := 32) dR_init_1074 rfl ?_
  refine x_iastJ (j := 52) dR_init_1076 rfl rfl rfl (by decide) ?_
  rw [fL_t (l := wordsL) (i := 52) rfl]
  refine x_dup dR_init_1077 rfl ?_
  refine x_bipush (v := 53) dR_init_1078 rfl ?_
  refine x_bipush (v := 32) dR_init_1080 rfl ?_
  refine x_iastJ (j := 53) dR_init_1082 rfl rfl rfl (by decide) ?_
  rw [fL_t (l := wordsL) (i := 53) rfl]
  refine x_dup dR_init_1083 rfl ?_
  refine x_bipush (v := 54) dR_init_1084 rfl ?_
  refine x_bipush (v := 32) dR_init_1086 rfl ?_
  refine x_iastJ (j := 54) dR_init_1088 rfl rfl rfl (by decide) ?_
  rw [fL_t (l := wordsL) (i := 54) rfl]
  refine x_dup dR_init_1089 rfl ?_
  refine x_bipush (v := 55) dR_init_1090 rfl ?_
  refine x_bipush (v := 32) dR_init_1092 rfl ?_
  refine x_iastJ (j := 55) dR_init_1094 rfl rfl rfl (by decide) ?_
  rw [fL_t (l := wordsL) (i := 55) rfl]
  refine x_dup dR_init_1095 rfl ?_
  refine x_bipush (v := 56) dR_init_1096 rfl ?_
  refine x_bipush (v := 109) dR_init_1098 rfl ?_
  refine x_iastJ (j := 56) dR_init_1100 rfl rfl rfl (by decide) ?_
  rw [fL_t (l := wordsL) (i := 56) rfl]
  refine x_dup dR_init_1101 rfl ?_
  refine x_bipush (v := 57) dR_init_1102 rfl ?_
  refine x_bipush (v := 97) dR_init_1104 rfl ?_
  refine x_iastJ (j := 57) dR_init_1106 rfl rfl rfl (by decide) ?_
  rw [fL_t (l := wordsL) (i := 57) rfl]
  refine x_dup dR_init_1107 rfl ?_
  refine x_bipush (v := 58) dR_init_1108 rfl ?_
  refine x_bipush (v := 110) dR_init_1110 rfl ?_
  refine x_iastJ (j := 58) dR_init_1112 rfl rfl rfl (by decide) ?_
  rw [fL_t (l := wordsL) (i := 58) rfl]
  refine x_dup dR_init_1113 rfl ?_
  refine x_bipush (v := 59) dR_init_1114 rfl ?_
  refine x_bipush (v := 121) dR_init_1116 rfl ?_
  refine x_iastJ (j := 59) dR_init_1118 rfl rfl rfl (by decide) ?_
  rw [fL_t (l := wordsL) (i := 59) rfl]
  exact h
set_option maxHeartbeats 4000000 in
set_option maxRecDepth 100000 in
theorem ri_92_60 {G : WG} {J : IM} {L : LM} {Post : PostT} {r : Nat × Nat × Nat} (h : X mR_init G r (SP 93 [(59, 44, 0)]) (upr J 92 (fL (List.take 75 wordsL))) L 1209 [.ref 59, .null] [.ref 92, .ref 59] Post) : X mR_init G r (SP 93 [(59, 44, 0)]) (upr J 92 (fL (List.take 60 wordsL))) L 1119 [.ref 59, .null] [.ref 92, .ref 59] Post := by
  refine x_dup dR_init_1119 rfl ?_
  refine x_bipush (v := 60) dR_init_1120 rfl ?_
  refine x_bipush (v := 32) dR_init_1122 rfl ?_
  refine x_iastJ (j := 60) dR_init_1124 rfl rfl rfl (by decide) ?_
  rw [fL_t (l := wordsL) (i := 60) rfl]
  refine x_dup dR_init_1125 rfl ?_
  refine x_bipush (v := 61) dR_init_1126 rfl ?_
  refine x_bipush (v := 32) dR_init_1128 rfl ?_
  refine x_iastJ (j := 61) dR_init_1130 rfl rfl rfl (by decide) ?_
  rw [fL_t (l := wordsL) (i := 61) rfl]
  refine x_dup dR_init_1131 rfl ?_
  refine x_bipush (v := 62) dR_init_1132 rfl ?_
  refine x_bipush (v := 32) dR_init_1134 rfl ?_
  refine x_iastJ (j := 62) dR_init_1136 rfl rfl rfl (by decide) ?_
  rw [fL_t (l := wordsL) (i := 62) rfl]
  refine x_dup dR_init_1137 rfl ?_
  refine x_bipush (v := 63) dR_init_1138 rfl ?_
  refine x_bipush (v := 32) dR_init_1140 rfl ?_
  refine x_iastJ (j := 63) dR_init_1142 rfl rfl rfl (by decide) ?_
  rw [fL_t (l := wordsL) (i := 63) rfl]
  refine x_dup dR_init_1143 rfl ?_
  refine x_bipush (v := 64) dR_init_1144 rfl ?_
  refine x_bipush (v := 98) dR_init_1146 rfl ?_
  refine x_iastJ (j := 64) dR_init_1148 rfl rfl rfl (by decide) ?_
  rw [fL_t (l := wordsL) (i := 64) rfl]
  refine x_dup dR_init_1149 rfl ?_
  refine x_bipush (v := 65) dR_init_1150 rfl ?_
  refine x_bipush (v := 97) dR_init_1152 rfl ?_
  refine x_iastJ (j := 65) dR_init_1154 rfl rfl rfl (by decide) ?_
  rw [fL_t (l := wordsL) (i := 65) rfl]
  refine x_dup dR_init_1155 rfl ?_
  refine x_bipush (v := 66) dR_init_1156 rfl ?_
  refine x_bipush (v := 115) dR_init_1158 rfl ?_
  refine x_iastJ (j := 66) dR_init_1160 rfl rfl rfl (by decide) ?_
  rw [fL_t (l := wordsL) (i := 66) rfl]
  refine x_dup dR_init_1161 rfl ?_
  refine x_bipush (v := 67) dR_init_1162 rfl ?_
  refine x_bipush (v := 101) dR_init_1164 rfl ?_
  refine x_iastJ (j := 67) dR_init_1166 rfl rfl rfl (by decide) ?_
  rw [fL_t (l := wordsL) (i := 67) rfl]
  refine x_dup dR_init_1167 rfl ?_
  refine x_bipush (v := 68) dR_init_1168 rfl ?_
  refine x_bipush (v := 32) dR_init_1170 rfl ?_
  refine x_iastJ (j := 68) dR_init_1172 rfl rfl rfl (by decide) ?_
  rw [fL_t (l := wordsL) (i := 68) rfl]
  refine x_dup dR_init_1173 rfl ?_
  refine x_bipush (v := 69) dR_init_1174 rfl ?_
  refine x_bipush (v := 32) dR_init_1176 rfl ?_
  refine x_iastJ (j := 69) dR_init_1178 rfl rfl rfl (by decide) ?_
  rw [fL_t (l := wordsL) (i := 69) rfl]
  refine x_dup dR_init_1179 rfl ?_
  refine x_bipush (v := 70) dR_init_1180 rfl ?_
  refine x_bipush (v := 32) dR_init_1182 rfl ?_
  refine x_iastJ (j := 70) dR_init_1184 rfl rfl rfl (by decide) ?_
  rw [fL_t (l := wordsL) (i := 70) rfl]
  refine x_dup dR_init_1185 rfl ?_
  refine x_bipush (v := 71) dR_init_1186 rfl ?_
  refine x_bipush (v := 32) dR_init_1188 rfl ?_
  refine x_iastJ (j := 71) dR_init_1190 rfl rfl rfl (by decide) ?_
  rw [fL_t (l := wordsL) (i := 71) rfl]
  refine x_dup dR_init_1191 rfl ?_
  refine x_bipush (v := 72) dR_init_1192 rfl ?_
  refine x_bipush (v := 111) dR_init_1194 rfl ?_
  refine x_iastJ (j := 72) dR_init_1196 rfl rfl rfl (by decide) ?_
  rw [fL_t (l := wordsL) (i := 72) rfl]
  refine x_dup dR_init_1197 rfl ?_
  refine x_bipush (v := 73) dR_init_1198 rfl ?_
  refine x_bipush (v := 114) dR_init_1200 rfl ?_
  refine x_iastJ (j := 73) dR_init_1202 rfl rfl rfl (by decide) ?_
  rw [fL_t (l := wordsL) (i := 73) rfl]
  refine x_dup dR_init_1203 rfl ?_
  refine x_bipush (v := 74) dR_init_1204 rfl ?_
  refine x_bipush (v := 32) dR_init_1206 rfl ?_
  refine x_iastJ (j := 74) dR_init_1208 rfl rfl rfl (by decide) ?_
  rw [fL_t (l := wordsL) (i := 74) rfl]
  exact h
set_option maxHeartbeats 4000000 in
set_option maxRecDepth 100000 in
theorem ri_92_75 {G : WG} {J : IM} {L : LM} {Post : PostT} {r : Nat × Nat × Nat} (h : X mR_init G r (SP 93 [(59, 44, 0)]) (upr J 92 (fL (List.take 90 wordsL))) L 1299 [.ref 59, .null] [.ref 92, .ref 59] Post) : X mR_init G r (SP 93 [(59, 44, 0)]) (upr J 92 (fL (List.take 75 wordsL))) L 1209 [.ref 59, .null] [.ref 92, .ref 59] Post := by
  refine x_dup dR_init_1209 rfl ?_
  refine x_bipush (v := 75) dR_init_1210 rfl ?_
  refine x_bipush (v := 32) dR_init_1212 rfl ?_
  refine x_iastJ (j := 75) dR_init_1214 rfl rfl rfl (by decide) ?_
  rw [fL_t (l := wordsL) (i := 75) rfl]
  refine x_dup dR_init_1215 rfl ?_
  refine x_bipush (v := 76) dR_init_1216 rfl ?_
  refine x_bipush (v := 32) dR_init_1218 rfl ?_
  refine x_iastJ (j := 76) dR_init_1220 rfl rfl rfl (by decide) ?_
  rw [fL_t (l := wordsL) (i := 76) rfl]
  refine x_dup dR_init_1221 rfl ?_
  refine x_bipush (v := 77) dR_init_1222 rfl ?_
  refine x_bipush (v := 32) dR_init_1224 rfl ?_
  refine x_iastJ (j := 77) dR_init_1226 rfl rfl rfl (by decide) ?_
  rw [fL_t (l := wordsL) (i := 77) rfl]
  refine x_dup dR_init_1227 rfl ?_
  refine x_bipush (v := 78) dR_init_1228 rfl ?_
  refine x_bipush (v := 32) dR_init_1230 rfl ?_
  refine x_iastJ (j := 78) dR_init_1232 rfl rfl rfl (by decide) ?_
  rw [fL_t (l := wordsL) (i := 78) rfl]
  refine x_dup dR_init_1233 rfl ?_
  refine x_bipush (v := 79) dR_init_1234 rfl ?_
  refine x_bipush (v := 32) dR_init_1236 rfl ?_
  refine x_iastJ (j := 79) dR_init_1238 rfl rfl rfl (by decide) ?_
  rw [fL_t (l := wordsL) (i := 79) rfl]
  refine x_dup dR_init_1239 rfl ?_
  refine x_bipush (v := 80) dR_init_1240 rfl ?_
  refine x_bipush (v := 97) dR_init_1242 rfl ?_
  refine x_iastJ (j := 80) dR_init_1244 rfl rfl rfl (by decide) ?_
  rw [fL_t (l := wordsL) (i := 80) rfl]
  refine x_dup dR_init_1245 rfl ?_
  refine x_bipush (v := 81) dR_init_1246 rfl ?_
  refine x_bipush (v := 110) dR_init_1248 rfl ?_
  refine x_iastJ (j := 81) dR_init_1250 rfl rfl rfl (by decide) ?_
  rw [fL_t (l := wordsL) (i := 81) rfl]
  refine x_dup dR_init_1251 rfl ?_
  refine x_bipush (v := 82) dR_init_1252 rfl ?_
  refine x_bipush (v := 100) dR_init_1254 rfl ?_
  refine x_iastJ (j := 82) dR_init_1256 rfl rfl rfl (by decide) ?_
  rw [fL_t (l := wordsL) (i := 82) rfl]
  refine x_dup dR_init_1257 rfl ?_
  refine x_bipush (v := 83) dR_init_1258 rfl ?_
  refine x_bipush (v := 32) dR_init_1260 rfl ?_
  refine x_iastJ (j := 83) dR_init_1262 rfl rfl rfl (by decide) ?_
  rw [fL_t (l := wordsL) (i := 83) rfl]
  refine x_dup dR_init_1263 rfl ?_
  refine x_bipush (v := 84) dR_init_1264 rfl ?_
  refine x_bipush (v := 32) dR_init_1266 rfl ?_
  refine x_iastJ (j := 84) dR_init_1268 rfl rfl rfl (by decide) ?_
  rw [fL_t (l := wordsL) (i := 84) rfl]
  refine x_dup dR_init_1269 rfl ?_
  refine x_bipush (v := 85) dR_init_1270 rfl ?_
  refine x_bipush (v := 32) dR_init_1272 rfl ?_
  refine x_iastJ (j := 85) dR_init_1274 rfl rfl rfl (by decide) ?_
  rw [fL_t (l := wordsL) (i := 85) rfl]
  refine x_dup dR_init_1275 rfl ?_
  refine x_bipush (v := 86) dR_init_1276 rfl ?_
  refine x_bipush (v := 32) dR_init_1278 rfl ?_
  refine x_iastJ (j := 86) dR_init_1280 rfl rfl rfl (by decide) ?_
  rw [fL_t (l := wordsL) (i := 86) rfl]
  refine x_dup dR_init_1281 rfl ?_
  refine x_bipush (v := 87) dR_init_1282 rfl ?_
  refine x_bipush (v := 32) dR_init_1284 rfl ?_
  refine x_iastJ (j := 87) dR_init_1286 rfl rfl rfl (by decide) ?_
  rw [fL_t (l := wordsL) (i := 87) rfl]
  refine x_dup dR_init_1287 rfl ?_
  refine x_bipush (v := 88) dR_init_1288 rfl ?_
  refine x_bipush (v := 110) dR_init_1290 rfl ?_
  refine x_iastJ (j := 88) dR_init_1292 rfl rfl rfl (by decide) ?_
  rw [fL_t (l := wordsL) (i := 88) rfl]
  refine x_dup dR_init_1293 rfl ?_
  refine x_bipush (v := 89) dR_init_1294 rfl ?_
  refine x_bipush (v := 111) dR_init_1296 rfl ?_
  refine x_iastJ (j := 89) dR_init_1298 rfl rfl rfl (by decide) ?_
  rw [fL_t (l := wordsL) (i := 89) rfl]
  exact h
set_option maxHeartbeats 4000000 in
set_option maxRecDepth 100000 in
theorem ri_92_90 {G : WG} {J : IM} {L : LM} {Post : PostT} {r : Nat × Nat × Nat} (h : X mR_init G r (SP 93 [(59, 44, 0)]) (upr J 92 (fL (List.take 96 wordsL))) L 1335 [.ref 59, .null] [.ref 92, .ref 59] Post) : X mR_init G r (SP 93 [(59, 44, 0)]) (upr J 92 (fL (List.take 90 wordsL))) L 1299 [.ref 59, .null] [.ref 92, .ref 59] Post := by
  refine x_dup dR_init_1299 rfl ?_
  refine x_bipush (v := 90) dR_init_1300 rfl ?_
  refine x_bipush (v := 116) dR_init_1302 rfl ?_
  refine x_iastJ (j := 90) dR_init_1304 rfl rfl rfl (by decide) ?_
  rw [fL_t (l := wordsL) (i := 90) rfl]
  refine x_dup dR_init_1305 rfl ?_
  refine x_bipush (v := 91) dR_init_1306 rfl ?_
  refine x_bipush (v := 32) dR_init_1308 rfl ?_
  refine x_iastJ (j := 91) dR_init_1310 rfl rfl rfl (by decide) ?_
  rw [fL_t (l := wordsL) (i := 91) rfl]
  refine x_dup dR_init_1311 rfl ?_
  refine x_bipush (v := 92) dR_init_1312 rfl ?_
  refine x_bipush (v := 32) dR_init_1314 rfl ?_
  refine x_iastJ (j := 92) dR_init_1316 rfl rfl rfl (by decide) ?_
  rw [fL_t (l := wordsL) (i := 92) rfl]
  refine x_dup dR_init_1317 rfl ?_
  refine x_bipush (v := 93) dR_init_1318 rfl ?_
  refine x_bipush (v := 32) dR_init_1320 rfl ?_
  refine x_iastJ (j := 93) dR_init_1322 rfl rfl rfl (by decide) ?_
  rw [fL_t (l := wordsL) (i := 93) rfl]
  refine x_dup dR_init_1323 rfl ?_
  refine x_bipush (v := 94) dR_init_1324 rfl ?_
  refine x_bipush (v := 32) dR_init_1326 rfl ?_
  refine x_iastJ (j := 94) dR_init_1328 rfl rfl rfl (by decide) ?_
  rw [fL_t (l := wordsL) (i := 94) rfl]
  refine x_dup dR_init_1329 rfl ?_
  refine x_bipush (v := 95) dR_init_1330 rfl ?_
  refine x_bipush (v := 32) dR_init_1332 rfl ?_
  refine x_iastJ (j := 95) dR_init_1334 rfl rfl rfl (by decide) ?_
  rw [fL_t (l := wordsL) (i := 95) rfl]
  exact h
def sp_R_size : SpT := fun as S I L Post => ∃ v : Int32, as = [.int v] ∧ Post (some (.int (if 0 ≤ v then v else -v))) S I L
set_option maxHeartbeats 4000000 in
set_option maxRecDepth 100000 in
theorem c_R_size : Con mR_size 2 0 0 sp_R_size := by
  refine con_of_X rfl fun G as S I L Post hs => ?_
  obtain ⟨v, rfl, h1⟩ := hs
  refine ⟨0, Nat.le_of_ble_eq_true rfl, ?_⟩
  show X mR_size G _ S I L 0 [.int v] [] Post
  refine x_iload_n dR_size_0 rfl ?_
  -- at 1: .ifCond .ge 8
  refine x_if_ge (tgt := 9) dR_size_1 (by decide) (fun c1 => ?_) (fun c1 => ?_)
  · rw [if_pos c1] at h1
    refine x_iload_n dR_size_9 rfl ?_
    -- at 10: .ireturn
    refine x_ireturn dR_size_10 rfl rfl ?_
    exact h1
  · rw [if_neg c1] at h1
    refine x_iload_n dR_size_4 rfl ?_
    refine x_ineg dR_size_5 ?_
    refine x_goto (tgt := 10) dR_size_6 (by decide) ?_
    -- at 10: .ireturn
    refine x_ireturn dR_size_10 rfl rfl ?_
    exact h1
theorem tw_r (i : Nat) (hi : i < 36) : (if 0 ≤ nI i / 6 - (nI i - nI i / 6 * 6) then nI i / 6 - (nI i - nI i / 6 * 6) else -(nI i / 6 - (nI i - nI i / 6 * 6))) = fa0 i :=
  (show ∀ i, i < 36 → (if 0 ≤ nI i / 6 - (nI i - nI i / 6 * 6) then nI i / 6 - (nI i - nI i / 6 * 6) else -(nI i / 6 - (nI i - nI i / 6 * 6))) = fa0 i by decide +kernel) i hi
/-- the reference's first state, ahead of how far -/
def EY : IM := upr EZ 0 (fun _ => 0)
theorem rE_first {I0 J : IM} (h : Fill 60 100 (up2 (up2 I0 59 2 2) 59 60 (-1)) J) (hz : I0 59 = fun _ => 0) : (clr (rE (up2 (upr J 78 (fL (lawL.take 75))) 59 23 75)) = EY) ∧ rOwn (up2 (upr J 78 (fL (lawL.take 75))) 59 23 75) := by
  generalize hK : up2 (upr J 78 (fL (lawL.take 75))) 59 23 75 = K
  have h59 : K 59 = up1 (up1 (up1 (fun _ => 0) 2 2) 60 (-1)) 23 75 := by
    rw [← hK, up2_s, upr_n _ _ (by decide), h.1 59 (by decide), up2_s, up2_s, hz]
  have r : ∀ i, 60 ≤ i → i < 100 → i ≠ 78 → K i = rowI i := fun i h1 h2 h3 => by
    rw [← hK, up2_n _ _ _ (by omega), upr_n _ _ h3]
    exact h.2 i h1 h2
  have s : ∀ j, j ≠ 2 → j ≠ 60 → j ≠ 23 → K 59 j = 0 := fun j h1 h2 h3 => by
    rw [h59, up1_n _ _ h3, up1_n _ _ h2, up1_n _ _ h1]
  have c0 : ∀ j, j ≠ 2 → j ≠ 60 → j ≠ 23 → cl (K 59 j) = 0 := fun j h1 h2 h3 => by
    rw [s j h1 h2 h3]
    rfl
  refine ⟨?_, ?_⟩
  · funext x
    unfold clr EY
    by_cases e18 : x = 18
    · subst e18
      rw [upr_s]
      rfl
    rw [upr_n _ _ e18]
    by_cases e29 : x = 29
    · subst e29
      rw [up2_s, upr_n _ _ (by decide)]
      funext j
      by_cases e6 : j = 6
      · subst e6
        rw [up1_s]
        rfl
      · rw [up1_n _ _ e6]
        show rSc K j = if j = 0 ∨ j = 8 then 2 else 0
        unfold rSc
        rw [h59]
        match j with
        | 0 => rfl
        | 1 => rfl
        | 2 => rfl
        | 3 => rfl
        | 4 => rfl
        | 5 => rfl
        | 6 => exact absurd rfl e6
        | 7 => rfl
        | 8 => rfl
        | 9 => rfl
        | 10 => rfl
        | 11 => rfl
        | n + 12 => exact (if_neg (by omega)).symm
    rw [up2_n _ _ _ e29]
    match x with
    | 0 => exact r 60 (by decide) (by decide) (by decide)
    | 1 => exact r 61 (by decide) (by decide) (by decide)
    | 2 => exact r 62 (by decide) (by decide) (by decide)
    | 3 => exact r 63 (by decide) (by decide) (by decide)
    | 4 => exact r 64 (by decide) (by decide) (by decide)
    | 5 => exact r 65 (by decide) (by decide) (by decide)
    | 6 => exact r 66 (by decide) (by decide) (by decide)
    | 7 => exact r 67 (by decide) (by decide) (by decide)
    | 8 => exact r 68 (by decide) (by decide) (by decide)
    | 9 => exact mk_z (c0 3 (by decide) (by decide) (by decide))
    | 10 => exact r 70 (by decide) (by decide) (by decide)
    | 11 => exact r 71 (by decide) (by decide) (by decide)
    | 12 => exact r 72 (by decide) (by decide) (by decide)
    | 13 => exact r 73 (by decide) (by decide) (by decide)
    | 14 => exact mk_z (c0 17 (by decide) (by decide) (by decide))
    | 15 => exact mk_z (c0 17 (by decide) (by decide) (by decide))
    | 16 => exact mk_z (c0 17 (by decide) (by decide) (by decide))
    | 17 => exact mk_z (c0 17 (by decide) (by decide) (by decide))
    | 18 => exact absurd rfl e18
    | 19 => exact (show img0 (K 59 28) (K 81) = fa0 by rw [s 28 (by decide) (by decide) (by decide)]; exact if_pos rfl)
    | 20 => exact r 82 (by decide) (by decide) (by decide)
    | 21 => exact mk_z (c0 30 (by decide) (by decide) (by decide))
    | 22 => exact mk_z (c0 31 (by decide) (by decide) (by decide))
    | 23 => exact mk_z (c0 31 (by decide) (by decide) (by decide))
    | 24 => exact mk_z (c0 31 (by decide) (by decide) (by decide))
    | 25 => exact mk_z (c0 31 (by decide) (by decide) (by decide))
    | 26 => exact r 88 (by decide) (by decide) (by decide)
    | 27 => exact r 89 (by decide) (by decide) (by decide)
    | 28 => exact r 90 (by decide) (by decide) (by decide)
    | 29 => exact absurd rfl e29
    | 30 => exact mk_z (by rw [c0 26 (by decide) (by decide) (by decide)])
    | 31 =>
      funext j
      show (if j / 200 < cl (K 59 26) ∧ j % 200 < cl (K 80 (4 * (j / 200) + 3)) then K 79 j else 0) = 0
      exact if_neg (fun y => by
        have := y.1
        rw [c0 26 (by decide) (by decide) (by decide)] at this
        omega)
    | n + 32 => rfl
  · refine ⟨s 55 (by decide) (by decide) (by decide), ?_, fun k hk => ?_⟩
    · show K 59 60 = -1
      rw [h59, up1_n _ _ (by decide), up1_s]
    · rw [show K 92 = rowI 92 from r 92 (by decide) (by decide) (by decide)]
      rfl
def sp_R_init : SpT := fun as S I L Post => as = [.ref 59] ∧ S = SP 60 [(59, 0, 0)] ∧ I 59 = (fun _ => 0) ∧ ∀ (I' : IM) (L' : LM), (∀ k, k < 59 → I' k = I k) → rOwn I' → rE I' = E0 → Post none S1 I' L'
set_option maxHeartbeats 4000000 in
set_option maxRecDepth 100000 in
theorem ri_end {G : WG} {I0 J : IM} {LL : LM} {Post : PostT} (hF : Fill 60 100 (up2 (up2 I0 59 2 2) 59 60 (-1)) J) (hz : I0 59 = fun _ => 0) (h1 : ∀ (I' : IM) (L' : LM), (∀ k, k < 59 → I' k = I0 k) → rOwn I' → rE I' = E0 → Post none S1 I' L') : X mR_init G (7, 0, 0) S1 J LL 1401 [.ref 59, .null] [] Post := by
  have far : ∀ (I1 : IM) (L1 : LM), (∀ k, k < 59 → I1 k = I0 k) → ∀ (r i : Nat) (K : IM), i + r = 36 → (∀ k, k < 59 → K k = I1 k) → rOwn K → rE K = upr (addT EY 0 LA LB LC) 0 (tw i) → X mR_init G (7, 0, 0) S1 K L1 1440 [.ref 59, .int (nI i)] [] Post := by
    intro I1 L1 hk1 r
    induction r with
    | zero =>
      intro i K hi hk own hE
      obtain rfl : i = 36 := by omega
      refine x_iload_n dR_init_1440 rfl ?_
      refine x_bipush (v := 36) dR_init_1441 rfl ?_
      -- at 1443: .if_icmp .ge 27
      refine x_icmp_ge (tgt := 1470) dR_init_1443 (by decide) (fun _ => ?_) (fun h => absurd (Int32.le_refl _) h)
      refine x_return dR_init_1470 rfl ?_
      refine h1 K L1 (fun k hkk => (hk k hkk).trans (hk1 k hkk)) own ?_
      rw [hE, show tw 36 = fa0 from tw_36]
      funext x
      by_cases hx : x = 0
      · subst hx
        rw [upr_s]
        rfl
      · rw [upr_n _ _ hx]
        unfold E0 addT EY
        by_cases h29 : x = 29
        · subst h29
          rw [up2_s, up2_s, upr_n _ _ (by decide), upr_n _ _ (by decide), upr_n _ _ (by decide), upr_n _ _ (by decide), upr_n _ _ (by decide)]
        · rw [up2_n _ _ _ h29, up2_n _ _ _ h29]
          by_cases h31 : x = 31
          · subst h31
            rw [upr_s, upr_s]
            rfl
          · rw [upr_n _ _ h31, upr_n _ _ h31]
            by_cases h30 : x = 30
            · subst h30
              rw [upr_s, upr_s]
              rfl
            · rw [upr_n _ _ h30, upr_n _ _ h30, upr_n _ _ hx]
    | succ r ih =>
      intro i K hi hk own hE
      refine x_iload_n dR_init_1440 rfl ?_
      refine x_bipush (v := 36) dR_init_1441 rfl ?_
      -- at 1443: .if_icmp .ge 27
      refine x_icmp_ge (tgt := 1470) dR_init_1443 (by decide) (fun h => absurd h (nI_ge (b := 36) (by omega) (by omega))) (fun _ => ?_)
      refine x_aload_n dR_init_1446 rfl ?_
      refine x_getR fl_R_7 rfl dR_init_1447 rfl rfl rfl ?_
      refine x_iload_n dR_init_1450 rfl ?_
      refine x_iload_n dR_init_1451 rfl ?_
      refine x_bipush (v := 6) dR_init_1452 rfl ?_
      refine x_idiv dR_init_1454 (by decide) ?_
      refine x_iload_n dR_init_1455 rfl ?_
      refine x_bipush (v := 6) dR_init_1456 rfl ?_
      refine x_irem dR_init_1458 (by decide) ?_
      refine x_isub dR_init_1459 ?_
      -- at 1460: .invokestatic 144
      refine x_callS_1 c_R_size ok_R_size ml_R_144 dR_init_1460 rfl rfl ?_
      refine ⟨_, rfl, ?_⟩
      rw [tw_r i (by omega)]
      refine x_iastJ (j := i) dR_init_1463 rfl rfl rfl (by omega) ?_
      refine x_iincp_1 dR_init_1464 rfl rfl ?_
      refine x_goto (tgt := 1440) dR_init_1467 (by decide) ?_
      -- at 1440: .iload_n 1
      rw [nI_1]
      refine ih (i + 1) _ (by omega) (fun k hkk => ?_) (own.up (by decide) (Or.inl (by decide))) ?_
      · rw [up2_n _ _ _ (by omega)]
        exact hk k hkk
      · rw [rE_u0, hE, tw_s]
  have tape : ∀ (r i : Nat), i + r = 75 → X mR_init G (7, 0, 0) S1 (upr J 78 (fL (lawL.take i))) LL 1403 [.ref 59, .int (nI i)] [] Post := by
    intro r
    induction r with
    | zero =>
      intro i hi
      obtain rfl : i = 75 := by omega
      refine x_iload_n dR_init_1403 rfl ?_
      refine x_bipush (v := 75) dR_init_1404 rfl ?_
      -- at 1406: .if_icmp .ge 21
      refine x_icmp_ge (tgt := 1427) dR_init_1406 (by decide) (fun _ => ?_) (fun h => absurd (Int32.le_refl _) h)
      refine x_aload_n dR_init_1427 rfl ?_
      refine x_bipush (v := 75) dR_init_1428 rfl ?_
      refine x_putI fl_R_137 rfl dR_init_1430 (by decide) rfl rfl rfl rfl ?_
      refine x_aload_n dR_init_1433 rfl ?_
      -- at 1434: .invokevirtual 140
      obtain ⟨e1, own⟩ := rE_first hF hz
      have e23 : rE (up2 (upr J 78 (fL (lawL.take 75))) 59 23 75) 29 6 = nI 75 := by
        show up2 (upr J 78 (fL (lawL.take 75))) 59 23 75 59 23 = nI 75
        rw [up2_s, up1_s]
        rfl
      have e18 : rE (up2 (upr J 78 (fL (lawL.take 75))) 59 23 75) 18 = mk 75 (fL (lawL.take 75)) := by
        show mk (cl (up2 (upr J 78 (fL (lawL.take 75))) 59 23 75 59 23)) (up2 (upr J 78 (fL (lawL.take 75))) 59 23 75 78) = _
        rw [up2_s, up1_s, up2_n _ _ _ (by decide), upr_s]
        rfl
      have e4 : rE (up2 (upr J 78 (fL (lawL.take 75))) 59 23 75) 29 4 = 0 := by
        have := congrFun (congrFun e1 29) 4
        unfold clr at this
        rw [upr_n _ _ (by decide), up2_s, up1_n _ _ (by decide)] at this
        rw [this]
        rfl
      have lk : ∀ k, k < 59 → up2 (upr J 78 (fL (lawL.take 75))) 59 23 75 k = I0 k := fun k hk => by
        rw [up2_n _ _ _ (by omega), upr_n _ _ (by omega), hF.1 k (by omega), up2_n _ _ _ (by omega), up2_n _ _ _ (by omega)]
      generalize up2 (upr J 78 (fL (lawL.take 75))) 59 23 75 = K at e1 own e23 e18 e4 lk
      have et : tN (rE K) = 0 := by unfold tN; rw [e4]; rfl
      have ez : zN (rE K) = 75 := by unfold zN; rw [e23]; rfl
      have hx : txR (rE K) = .inr (LA, LB, LC) := by
        unfold txR
        rw [ez, e18, tokS_congr (fun i hi => mk_lt hi) 0]
        exact law_pt
      refine x_callV_0 c_R_text ok_R_text ml_R_140 dR_init_1434 rfl rfl rfl rfl rfl ?_
      refine ⟨rfl, rfl, ⟨by rw [et, e4]; rfl, by omega, fun t ht => by omega, by rw [ez]; exact e23, by omega⟩, own, fun I' L' hk own' hE => ?_⟩
      rw [textU, e4, if_neg (not_not_intro (by decide)), hx] at hE
      have hE2 : rE I' = addT EY 0 LA LB LC := by
        rw [hE]
        show addT (clr (rE K)) (tN (rE K)) LA LB LC = _
        rw [e1, et]
      refine x_pop dR_init_1437 rfl ?_
      refine x_iconst (v := 0) dR_init_1438 rfl ?_
      refine x_istoren_1 dR_init_1439 rfl rfl ?_
      -- at 1440: .iload_n 1
      refine far I' L' (fun k hkk => (hk k hkk).trans (lk k hkk)) 36 0 I' rfl (fun _ _ => rfl) own' ?_
      rw [hE2, tw_0]
      funext x
      by_cases hx : x = 0
      · subst hx
        rw [upr_s]
        rfl
      · rw [upr_n _ _ hx]
    | succ r ih =>
      intro i hi
      obtain ⟨b, hb⟩ : ∃ b, lawL[i]? = some b := ⟨lawL[i]'(by show i < 75; omega), List.getElem?_eq_getElem _⟩
      refine x_iload_n dR_init_1403 rfl ?_
      refine x_bipush (v := 75) dR_init_1404 rfl ?_
      -- at 1406: .if_icmp .ge 21
      refine x_icmp_ge (tgt := 1427) dR_init_1406 (by decide) (fun h => absurd h (nI_ge (b := 75) (by omega) (by omega))) (fun _ => ?_)
      refine x_aload_n dR_init_1409 rfl ?_
      refine x_getR fl_R_68 rfl dR_init_1410 rfl rfl rfl ?_
      refine x_iload_n dR_init_1413 rfl ?_
      refine x_aload_n dR_init_1414 rfl ?_
      refine x_getR fl_R_107 rfl dR_init_1415 rfl rfl rfl ?_
      refine x_iload_n dR_init_1418 rfl ?_
      -- at 1419: .iaload
      refine x_ialdJ (j := i) dR_init_1419 rfl rfl rfl (by omega) ?_
      have e : upr J 78 (fL (lawL.take i)) 91 i = b := by
        rw [upr_n _ _ (by decide), hF.2 91 (by decide) (by decide)]
        show (lawL.take 75).getD i 0 = b
        rw [show lawL.take 75 = lawL from rfl, List.getD_eq_getElem?_getD, hb]
        rfl
      rw [e]
      refine x_iastJ (j := i) dR_init_1420 rfl rfl rfl (by omega) ?_
      rw [fL_t hb]
      refine x_iincp_1 dR_init_1421 rfl rfl ?_
      refine x_goto (tgt := 1403) dR_init_1424 (by decide) ?_
      -- at 1403: .iload_n 1
      rw [nI_1]
      exact ih (i + 1) (by omega)
  refine x_iconst (v := 0) dR_init_1401 rfl ?_
  refine x_istoren_1 dR_init_1402 rfl rfl ?_
  -- at 1403: .iload_n 1
  have hp := tape 75 0 rfl
  have e0 : upr J 78 (fL (lawL.take 0)) = J := by
    funext x
    by_cases hx : x = 78
    · subst hx
      rw [upr_s, hF.2 78 (by decide) (by decide)]
      rfl
    · rw [upr_n _ _ hx]
  rw [e0] at hp
  exact hp
set_option maxHeartbeats 4000000 in
set_option maxRecDepth 100000 in
theorem c_R_init : Con mR_init 7 40 2493 sp_R_init := by
  refine con_of_X rfl fun G as S I L Post hs => ?_
  obtain ⟨rfl, rfl, hz, h1⟩ := hs
  refine ⟨1, Nat.le_of_ble_eq_true rfl, ?_⟩
  show X mR_init G _ (SP 60 [(59, 0, 0)]) I L 0 [.ref 59, .null] [] Post
  have hF : Fill 60 60 I I := Fill.nil
  refine x_aload_n dR_init_0 rfl ?_
  refine x_objInit dR_init_1 ml_R_1 im_obj co_obj rfl rfl ?_
  refine x_aload_n dR_init_4 rfl ?_
  refine x_bipush (v := 36) dR_init_5 rfl ?_
  refine x_newSP (N := 36) (n := 60) dR_init_7 rfl rfl rfl rfl ?_
  replace hF := hF.pushf (n := 60) (f := fun _ => 0) (by decide) rfl
  generalize upr I 60 (fun _ => (0 : Int32)) = J at hF ⊢
  refine x_putSP (j := 0) fl_R_7 rfl dR_init_9 (by decide) rfl rfl rfl (by decide) (by decide) (fun _ => rfl) (fun _ => rfl) ?_
  refine x_aload_n dR_init_12 rfl ?_
  refine x_bipush (v := 6) dR_init_13 rfl ?_
  refine x_newSP (N := 6) (n := 61) dR_init_15 rfl rfl rfl rfl ?_
  replace hF := hF.pushf (n := 61) (f := fun _ => 0) (by decide) rfl
  generalize upr J 61 (fun _ => (0 : Int32)) = J at hF ⊢
  refine x_putSP (j := 1) fl_R_13 rfl dR_init_17 (by decide) rfl rfl rfl (by decide) (by decide) (fun _ => rfl) (fun _ => rfl) ?_
  refine x_aload_n dR_init_20 rfl ?_
  refine x_iconst (v := 2) dR_init_21 rfl ?_
  refine x_putI fl_R_16 rfl dR_init_22 (by decide) rfl rfl rfl rfl ?_
  replace hF := hF.lo (q := 59) (j := 2) (x := 2) (by decide)
  generalize up2 J 59 2 2 = J at hF ⊢
  refine x_aload_n dR_init_25 rfl ?_
  refine x_bipush (v := 8) dR_init_26 rfl ?_
  refine x_newSP (N := 8) (n := 62) dR_init_28 rfl rfl rfl rfl ?_
  replace hF := hF.pushf (n := 62) (f := fun _ => 0) (by decide) rfl
  generalize upr J 62 (fun _ => (0 : Int32)) = J at hF ⊢
  refine x_putSP (j := 4) fl_R_20 rfl dR_init_30 (by decide) rfl rfl rfl (by decide) (by decide) (fun _ => rfl) (fun _ => rfl) ?_
  refine x_aload_n dR_init_33 rfl ?_
  refine x_bipush (v := 8) dR_init_34 rfl ?_
  refine x_newSP (N := 8) (n := 63) dR_init_36 rfl rfl rfl rfl ?_
  replace hF := hF.pushf (n := 63) (f := fun _ => 0) (by decide) rfl
  generalize upr J 63 (fun _ => (0 : Int32)) = J at hF ⊢
  refine x_putSP (j := 5) fl_R_23 rfl dR_init_38 (by decide) rfl rfl rfl (by decide) (by decide) (fun _ => rfl) (fun _ => rfl) ?_
  refine x_aload_n dR_init_41 rfl ?_
  refine x_bipush (v := 8) dR_init_42 rfl ?_
  refine x_newSP (N := 8) (n := 64) dR_init_44 rfl rfl rfl rfl ?_
  replace hF := hF.pushf (n := 64) (f := fun _ => 0) (by decide) rfl
  generalize upr J 64 (fun _ => (0 : Int32)) = J at hF ⊢
  refine x_putSP (j := 6) fl_R_26 rfl dR_init_46 (by decide) rfl rfl rfl (by decide) (by decide) (fun _ => rfl) (fun _ => rfl) ?_
  refine x_aload_n dR_init_49 rfl ?_
  refine x_bipush (v := 8) dR_init_50 rfl ?_
  refine x_newSP (N := 8) (n := 65) dR_init_52 rfl rfl rfl rfl ?_
  replace hF := hF.pushf (n := 65) (f := fun _ => 0) (by decide) rfl
  generalize upr J 65 (fun _ => (0 : Int32)) = J at hF ⊢
  refine x_putSP (j := 7) fl_R_29 rfl dR_init_54 (by decide) rfl rfl rfl (by decide) (by decide) (fun _ => rfl) (fun _ => rfl) ?_
  refine x_aload_n dR_init_57 rfl ?_
  refine x_bipush (v := 8) dR_init_58 rfl ?_
  refine x_newSP (N := 8) (n := 66) dR_init_60 rfl rfl rfl rfl ?_
  replace hF := hF.pushf (n := 66) (f := fun _ => 0) (by decide) rfl
  generalize upr J 66 (fun _ => (0 : Int32)) = J at hF ⊢
  refine x_putSP (j := 8) fl_R_32 rfl dR_init_62 (by decide) rfl rfl rfl (by decide) (by decide) (fun _ => rfl) (fun _ => rfl) ?_
  refine x_aload_n dR_init_65 rfl ?_
  refine x_bipush (v := 8) dR_init_66 rfl ?_
  refine x_newSP (N := 8) (n := 67) dR_init_68 rfl rfl rfl rfl ?_
  replace hF := hF.pushf (n := 67) (f := fun _ => 0) (by decide) rfl
  generalize upr J 67 (fun _ => (0 : Int32)) = J at hF ⊢
  refine x_putSP (j := 9) fl_R_35 rfl dR_init_70 (by decide) rfl rfl rfl (by decide) (by decide) (fun _ => rfl) (fun _ => rfl) ?_
  refine x_aload_n dR_init_73 rfl ?_
  refine x_bipush (v := 8) dR_init_74 rfl ?_
  refine x_newSP (N := 8) (n := 68) dR_init_76 rfl rfl rfl rfl ?_
  replace hF := hF.pushf (n := 68) (f := fun _ => 0) (by decide) rfl
  generalize upr J 68 (fun _ => (0 : Int32)) = J at hF ⊢
  refine x_putSP (j := 10) fl_R_38 rfl dR_init_78 (by decide) rfl rfl rfl (by decide) (by decide) (fun _ => rfl) (fun _ => rfl) ?_
  refine x_aload_n dR_init_81 rfl ?_
  refine x_bipush (v := 8) dR_init_82 rfl ?_
  refine x_newSP (N := 8) (n := 69) dR_init_84 rfl rfl rfl rfl ?_
  rw [show upr J 69 (fun _ => (0 : Int32)) = upr J 69 (fL (List.take 0 m8L)) from rfl]
  refine ri_69_0 ?_
  replace hF := hF.pushf (n := 69) (f := fL (List.take 8 m8L)) (by decide) rfl
  generalize upr J 69 (fL (List.take 8 m8L)) = J at hF ⊢
  refine x_putSP (j := 11) fl_R_41 rfl dR_init_120 (by decide) rfl rfl rfl (by decide) (by decide) (fun _ => rfl) (fun _ => rfl) ?_
  refine x_aload_n dR_init_123 rfl ?_
  refine x_bipush (v := 8) dR_init_124 rfl ?_
  refine x_newSP (N := 8) (n := 70) dR_init_126 rfl rfl rfl rfl ?_
  replace hF := hF.pushf (n := 70) (f := fun _ => 0) (by decide) rfl
  generalize upr J 70 (fun _ => (0 : Int32)) = J at hF ⊢
  refine x_putSP (j := 13) fl_R_44 rfl dR_init_128 (by decide) rfl rfl rfl (by decide) (by decide) (fun _ => rfl) (fun _ => rfl) ?_
  refine x_aload_n dR_init_131 rfl ?_
  refine x_bipush (v := 8) dR_init_132 rfl ?_
  refine x_newSP (N := 8) (n := 71) dR_init_134 rfl rfl rfl rfl ?_
  replace hF := hF.pushf (n := 71) (f := fun _ => 0) (by decide) rfl
  generalize upr J 71 (fun _ => (0 : Int32)) = J at hF ⊢
  refine x_putSP (j := 14) fl_R_47 rfl dR_init_136 (by decide) rfl rfl rfl (by decide) (by decide) (fun _ => rfl) (fun _ => rfl) ?_
  refine x_aload_n dR_init_139 rfl ?_
  refine x_bipush (v := 8) dR_init_140 rfl ?_
  refine x_newSP (N := 8) (n := 72) dR_init_142 rfl rfl rfl rfl ?_
  replace hF := hF.pushf (n := 72) (f := fun _ => 0) (by decide) rfl
  generalize upr J 72 (fun _ => (0 : Int32)) = J at hF ⊢
  refine x_putSP (j := 15) fl_R_50 rfl dR_init_144 (by decide) rfl rfl rfl (by decide) (by decide) (fun _ => rfl) (fun _ => rfl) ?_
  refine x_aload_n dR_init_147 rfl ?_
  refine x_bipush (v := 8) dR_init_148 rfl ?_
  refine x_newSP (N := 8) (n := 73) dR_init_150 rfl rfl rfl rfl ?_
  replace hF := hF.pushf (n := 73) (f := fun _ => 0) (by decide) rfl
  generalize upr J 73 (fun _ => (0 : Int32)) = J at hF ⊢
  refine x_putSP (j := 16) fl_R_53 rfl dR_init_152 (by decide) rfl rfl rfl (by decide) (by decide) (fun _ => rfl) (fun _ => rfl) ?_
  refine x_aload_n dR_init_155 rfl ?_
  refine x_bipush (v := 11) dR_init_156 rfl ?_
  refine x_newSP (N := 11) (n := 74) dR_init_158 rfl rfl rfl rfl ?_
  replace hF := hF.pushf (n := 74) (f := fun _ => 0) (by decide) rfl
  generalize upr J 74 (fun _ => (0 : Int32)) = J at hF ⊢
  refine x_putSP (j := 18) fl_R_56 rfl dR_init_160 (by decide) rfl rfl rfl (by decide) (by decide) (fun _ => rfl) (fun _ => rfl) ?_
  refine x_aload_n dR_init_163 rfl ?_
  refine x_bipush (v := 11) dR_init_164 rfl ?_
  refine x_newSP (N := 11) (n := 75) dR_init_166 rfl rfl rfl rfl ?_
  replace hF := hF.pushf (n := 75) (f := fun _ => 0) (by decide) rfl
  generalize upr J 75 (fun _ => (0 : Int32)) = J at hF ⊢
  refine x_putSP (j := 19) fl_R_59 rfl dR_init_168 (by decide) rfl rfl rfl (by decide) (by decide) (fun _ => rfl) (fun _ => rfl) ?_
  refine x_aload_n dR_init_171 rfl ?_
  refine x_bipush (v := 11) dR_init_172 rfl ?_
  refine x_newSP (N := 11) (n := 76) dR_init_174 rfl rfl rfl rfl ?_
  replace hF := hF.pushf (n := 76) (f := fun _ => 0) (by decide) rfl
  generalize upr J 76 (fun _ => (0 : Int32)) = J at hF ⊢
  refine x_putSP (j := 20) fl_R_62 rfl dR_init_176 (by decide) rfl rfl rfl (by decide) (by decide) (fun _ => rfl) (fun _ => rfl) ?_
  refine x_aload_n dR_init_179 rfl ?_
  refine x_bipush (v := 11) dR_init_180 rfl ?_
  refine x_newSP (N := 11) (n := 77) dR_init_182 rfl rfl rfl rfl ?_
  replace hF := hF.pushf (n := 77) (f := fun _ => 0) (by decide) rfl
  generalize upr J 77 (fun _ => (0 : Int32)) = J at hF ⊢
  refine x_putSP (j := 21) fl_R_65 rfl dR_init_184 (by decide) rfl rfl rfl (by decide) (by decide) (fun _ => rfl) (fun _ => rfl) ?_
  refine x_aload_n dR_init_187 rfl ?_
  refine x_sipush (v := 160) dR_init_188 rfl ?_
  refine x_newSP (N := 160) (n := 78) dR_init_191 rfl rfl rfl rfl ?_
  replace hF := hF.pushf (n := 78) (f := fun _ => 0) (by decide) rfl
  generalize upr J 78 (fun _ => (0 : Int32)) = J at hF ⊢
  refine x_putSP (j := 22) fl_R_68 rfl dR_init_193 (by decide) rfl rfl rfl (by decide) (by decide) (fun _ => rfl) (fun _ => rfl) ?_
  refine x_aload_n dR_init_196 rfl ?_
  refine x_sipush (v := 1200) dR_init_197 rfl ?_
  refine x_newSP (N := 1200) (n := 79) dR_init_200 rfl rfl rfl rfl ?_
  replace hF := hF.pushf (n := 79) (f := fun _ => 0) (by decide) rfl
  generalize upr J 79 (fun _ => (0 : Int32)) = J at hF ⊢
  refine x_putSP (j := 24) fl_R_71 rfl dR_init_202 (by decide) rfl rfl rfl (by decide) (by decide) (fun _ => rfl) (fun _ => rfl) ?_
  refine x_aload_n dR_init_205 rfl ?_
  refine x_bipush (v := 24) dR_init_206 rfl ?_
  refine x_newSP (N := 24) (n := 80) dR_init_208 rfl rfl rfl rfl ?_
  replace hF := hF.pushf (n := 80) (f := fun _ => 0) (by decide) rfl
  generalize upr J 80 (fun _ => (0 : Int32)) = J at hF ⊢
  refine x_putSP (j := 25) fl_R_74 rfl dR_init_210 (by decide) rfl rfl rfl (by decide) (by decide) (fun _ => rfl) (fun _ => rfl) ?_
  refine x_aload_n dR_init_213 rfl ?_
  refine x_bipush (v := 36) dR_init_214 rfl ?_
  refine x_newSP (N := 36) (n := 81) dR_init_216 rfl rfl rfl rfl ?_
  replace hF := hF.pushf (n := 81) (f := fun _ => 0) (by decide) rfl
  generalize upr J 81 (fun _ => (0 : Int32)) = J at hF ⊢
  refine x_putSP (j := 33) fl_R_77 rfl dR_init_218 (by decide) rfl rfl rfl (by decide) (by decide) (fun _ => rfl) (fun _ => rfl) ?_
  refine x_aload_n dR_init_221 rfl ?_
  refine x_bipush (v := 6) dR_init_222 rfl ?_
  refine x_newSP (N := 6) (n := 82) dR_init_224 rfl rfl rfl rfl ?_
  replace hF := hF.pushf (n := 82) (f := fun _ => 0) (by decide) rfl
  generalize upr J 82 (fun _ => (0 : Int32)) = J at hF ⊢
  refine x_putSP (j := 34) fl_R_80 rfl dR_init_226 (by decide) rfl rfl rfl (by decide) (by decide) (fun _ => rfl) (fun _ => rfl) ?_
  refine x_aload_n dR_init_229 rfl ?_
  refine x_bipush (v := 8) dR_init_230 rfl ?_
  refine x_newSP (N := 8) (n := 83) dR_init_232 rfl rfl rfl rfl ?_
  replace hF := hF.pushf (n := 83) (f := fun _ => 0) (by decide) rfl
  generalize upr J 83 (fun _ => (0 : Int32)) = J at hF ⊢
  refine x_putSP (j := 35) fl_R_83 rfl dR_init_234 (by decide) rfl rfl rfl (by decide) (by decide) (fun _ => rfl) (fun _ => rfl) ?_
  refine x_aload_n dR_init_237 rfl ?_
  refine x_bipush (v := 11) dR_init_238 rfl ?_
  refine x_newSP (N := 11) (n := 84) dR_init_240 rfl rfl rfl rfl ?_
  replace hF := hF.pushf (n := 84) (f := fun _ => 0) (by decide) rfl
  generalize upr J 84 (fun _ => (0 : Int32)) = J at hF ⊢
  refine x_putSP (j := 36) fl_R_86 rfl dR_init_242 (by decide) rfl rfl rfl (by decide) (by decide) (fun _ => rfl) (fun _ => rfl) ?_
  refine x_aload_n dR_init_245 rfl ?_
  refine x_bipush (v := 11) dR_init_246 rfl ?_
  refine x_newSP (N := 11) (n := 85) dR_init_248 rfl rfl rfl rfl ?_
  replace hF := hF.pushf (n := 85) (f := fun _ => 0) (by decide) rfl
  generalize upr J 85 (fun _ => (0 : Int32)) = J at hF ⊢
  refine x_putSP (j := 37) fl_R_89 rfl dR_init_250 (by decide) rfl rfl rfl (by decide) (by decide) (fun _ => rfl) (fun _ => rfl) ?_
  refine x_aload_n dR_init_253 rfl ?_
  refine x_bipush (v := 11) dR_init_254 rfl ?_
  refine x_newSP (N := 11) (n := 86) dR_init_256 rfl rfl rfl rfl ?_
  replace hF := hF.pushf (n := 86) (f := fun _ => 0) (by decide) rfl
  generalize upr J 86 (fun _ => (0 : Int32)) = J at hF ⊢
  refine x_putSP (j := 38) fl_R_92 rfl dR_init_258 (by decide) rfl rfl rfl (by decide) (by decide) (fun _ => rfl) (fun _ => rfl) ?_
  refine x_aload_n dR_init_261 rfl ?_
  refine x_bipush (v := 11) dR_init_262 rfl ?_
  refine x_newSP (N := 11) (n := 87) dR_init_264 rfl rfl rfl rfl ?_
  replace hF := hF.pushf (n := 87) (f := fun _ => 0) (by decide) rfl
  generalize upr J 87 (fun _ => (0 : Int32)) = J at hF ⊢
  refine x_putSP (j := 39) fl_R_95 rfl dR_init_266 (by decide) rfl rfl rfl (by decide) (by decide) (fun _ => rfl) (fun _ => rfl) ?_
  refine x_aload_n dR_init_269 rfl ?_
  refine x_iconst (v := 4) dR_init_270 rfl ?_
  refine x_newSP (N := 4) (n := 88) dR_init_271 rfl rfl rfl rfl ?_
  rw [show upr J 88 (fun _ => (0 : Int32)) = upr J 88 (fL (List.take 0 m4L)) from rfl]
  refine ri_88_0 ?_
  replace hF := hF.pushf (n := 88) (f := fL (List.take 4 m4L)) (by decide) rfl
  generalize upr J 88 (fL (List.take 4 m4L)) = J at hF ⊢
  refine x_putSP (j := 40) fl_R_98 rfl dR_init_289 (by decide) rfl rfl rfl (by decide) (by decide) (fun _ => rfl) (fun _ => rfl) ?_
  refine x_aload_n dR_init_292 rfl ?_
  refine x_iconst (v := 4) dR_init_293 rfl ?_
  refine x_newSP (N := 4) (n := 89) dR_init_294 rfl rfl rfl rfl ?_
  replace hF := hF.pushf (n := 89) (f := fun _ => 0) (by decide) rfl
  generalize upr J 89 (fun _ => (0 : Int32)) = J at hF ⊢
  refine x_putSP (j := 41) fl_R_101 rfl dR_init_296 (by decide) rfl rfl rfl (by decide) (by decide) (fun _ => rfl) (fun _ => rfl) ?_
  refine x_aload_n dR_init_299 rfl ?_
  refine x_sipush (v := 160) dR_init_300 rfl ?_
  refine x_newSP (N := 160) (n := 90) dR_init_303 rfl rfl rfl rfl ?_
  replace hF := hF.pushf (n := 90) (f := fun _ => 0) (by decide) rfl
  generalize upr J 90 (fun _ => (0 : Int32)) = J at hF ⊢
  refine x_putSP (j := 42) fl_R_104 rfl dR_init_305 (by decide) rfl rfl rfl (by decide) (by decide) (fun _ => rfl) (fun _ => rfl) ?_
  refine x_aload_n dR_init_308 rfl ?_
  refine x_bipush (v := 75) dR_init_309 rfl ?_
  refine x_newSP (N := 75) (n := 91) dR_init_311 rfl rfl rfl rfl ?_
  rw [show upr J 91 (fun _ => (0 : Int32)) = upr J 91 (fL (List.take 0 lawL)) from rfl]
  refine ri_91_0 ?_
  refine ri_91_15 ?_
  refine ri_91_30 ?_
  refine ri_91_45 ?_
  refine ri_91_60 ?_
  replace hF := hF.pushf (n := 91) (f := fL (List.take 75 lawL)) (by decide) rfl
  generalize upr J 91 (fL (List.take 75 lawL)) = J at hF ⊢
  refine x_putSP (j := 43) fl_R_107 rfl dR_init_757 (by decide) rfl rfl rfl (by decide) (by decide) (fun _ => rfl) (fun _ => rfl) ?_
  refine x_aload_n dR_init_760 rfl ?_
  refine x_bipush (v := 96) dR_init_761 rfl ?_
  refine x_newSP (N := 96) (n := 92) dR_init_763 rfl rfl rfl rfl ?_
  rw [show upr J 92 (fun _ => (0 : Int32)) = upr J 92 (fL (List.take 0 wordsL)) from rfl]
  refine ri_92_0 ?_
  refine ri_92_15 ?_
  refine ri_92_30 ?_
  refine ri_92_45 ?_
  refine ri_92_60 ?_
  refine ri_92_75 ?_
  refine ri_92_90 ?_
  replace hF := hF.pushf (n := 92) (f := fL (List.take 96 wordsL)) (by decide) rfl
  generalize upr J 92 (fL (List.take 96 wordsL)) = J at hF ⊢
  refine x_putSP (j := 48) fl_R_110 rfl dR_init_1335 (by decide) rfl rfl rfl (by decide) (by decide) (fun _ => rfl) (fun _ => rfl) ?_
  refine x_aload_n dR_init_1338 rfl ?_
  refine x_sipush (v := 200) dR_init_1339 rfl ?_
  refine x_newSP (N := 200) (n := 93) dR_init_1342 rfl rfl rfl rfl ?_
  replace hF := hF.pushf (n := 93) (f := fun _ => 0) (by decide) rfl
  generalize upr J 93 (fun _ => (0 : Int32)) = J at hF ⊢
  refine x_putSP (j := 49) fl_R_113 rfl dR_init_1344 (by decide) rfl rfl rfl (by decide) (by decide) (fun _ => rfl) (fun _ => rfl) ?_
  refine x_aload_n dR_init_1347 rfl ?_
  refine x_sipush (v := 200) dR_init_1348 rfl ?_
  refine x_newSP (N := 200) (n := 94) dR_init_1351 rfl rfl rfl rfl ?_
  replace hF := hF.pushf (n := 94) (f := fun _ => 0) (by decide) rfl
  generalize upr J 94 (fun _ => (0 : Int32)) = J at hF ⊢
  refine x_putSP (j := 53) fl_R_116 rfl dR_init_1353 (by decide) rfl rfl rfl (by decide) (by decide) (fun _ => rfl) (fun _ => rfl) ?_
  refine x_aload_n dR_init_1356 rfl ?_
  refine x_bipush (v := 6) dR_init_1357 rfl ?_
  refine x_newSP (N := 6) (n := 95) dR_init_1359 rfl rfl rfl rfl ?_
  replace hF := hF.pushf (n := 95) (f := fun _ => 0) (by decide) rfl
  generalize upr J 95 (fun _ => (0 : Int32)) = J at hF ⊢
  refine x_putSP (j := 54) fl_R_119 rfl dR_init_1361 (by decide) rfl rfl rfl (by decide) (by decide) (fun _ => rfl) (fun _ => rfl) ?_
  refine x_aload_n dR_init_1364 rfl ?_
  refine x_bipush (v := 64) dR_init_1365 rfl ?_
  refine x_newSP (N := 64) (n := 96) dR_init_1367 rfl rfl rfl rfl ?_
  replace hF := hF.pushf (n := 96) (f := fun _ => 0) (by decide) rfl
  generalize upr J 96 (fun _ => (0 : Int32)) = J at hF ⊢
  refine x_putSP (j := 57) fl_R_122 rfl dR_init_1369 (by decide) rfl rfl rfl (by decide) (by decide) (fun _ => rfl) (fun _ => rfl) ?_
  refine x_aload_n dR_init_1372 rfl ?_
  refine x_bipush (v := 8) dR_init_1373 rfl ?_
  refine x_newSP (N := 8) (n := 97) dR_init_1375 rfl rfl rfl rfl ?_
  replace hF := hF.pushf (n := 97) (f := fun _ => 0) (by decide) rfl
  generalize upr J 97 (fun _ => (0 : Int32)) = J at hF ⊢
  refine x_putSP (j := 58) fl_R_125 rfl dR_init_1377 (by decide) rfl rfl rfl (by decide) (by decide) (fun _ => rfl) (fun _ => rfl) ?_
  refine x_aload_n dR_init_1380 rfl ?_
  refine x_bipush (v := 8) dR_init_1381 rfl ?_
  refine x_newSP (N := 8) (n := 98) dR_init_1383 rfl rfl rfl rfl ?_
  replace hF := hF.pushf (n := 98) (f := fun _ => 0) (by decide) rfl
  generalize upr J 98 (fun _ => (0 : Int32)) = J at hF ⊢
  refine x_putSP (j := 59) fl_R_128 rfl dR_init_1385 (by decide) rfl rfl rfl (by decide) (by decide) (fun _ => rfl) (fun _ => rfl) ?_
  refine x_aload_n dR_init_1388 rfl ?_
  refine x_iconst (v := -1) dR_init_1389 rfl ?_
  refine x_putI fl_R_131 rfl dR_init_1390 (by decide) rfl rfl rfl rfl ?_
  replace hF := hF.lo (q := 59) (j := 60) (x := -1) (by decide)
  generalize up2 J 59 60 (-1) = J at hF ⊢
  refine x_aload_n dR_init_1393 rfl ?_
  refine x_bipush (v := 8) dR_init_1394 rfl ?_
  refine x_newSP (N := 8) (n := 99) dR_init_1396 rfl rfl rfl rfl ?_
  replace hF := hF.pushf (n := 99) (f := fun _ => 0) (by decide) rfl
  generalize upr J 99 (fun _ => (0 : Int32)) = J at hF ⊢
  refine x_putSP (j := 61) fl_R_134 rfl dR_init_1398 (by decide) rfl rfl rfl (by decide) (by decide) (fun _ => rfl) (fun _ => rfl) ?_
  rw [SP_close (by decide) (fun _ => rfl), SP_100]
  exact ri_end hF hz h1
