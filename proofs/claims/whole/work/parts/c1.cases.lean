theorem dL_law_413 : decode code 413 = .ok (.aload_n 1, 1) := by decide +kernel
theorem dL_law_414 : decode code 414 = .ok (.aload_n 0, 1) := by decide +kernel
theorem dL_law_415 : decode code 415 = .ok (.iload 4, 2) := by decide +kernel
theorem dL_law_417 : decode code 417 = .ok (.iconst 1, 1) := by decide +kernel
theorem dL_law_418 : decode code 418 = .ok (.iadd, 1) := by decide +kernel
theorem dL_law_419 : decode code 419 = .ok (.iaload, 1) := by decide +kernel
theorem dL_law_420 : decode code 420 = .ok (.aload_n 0, 1) := by decide +kernel
theorem dL_law_421 : decode code 421 = .ok (.iload 4, 2) := by decide +kernel
theorem dL_law_423 : decode code 423 = .ok (.iconst 2, 1) := by decide +kernel
theorem dL_law_424 : decode code 424 = .ok (.iadd, 1) := by decide +kernel
theorem dL_law_425 : decode code 425 = .ok (.iaload, 1) := by decide +kernel
theorem dL_law_426 : decode code 426 = .ok (.invokevirtual 43, 3) := by decide +kernel
theorem dL_law_429 : decode code 429 = .ok (.aload_n 2, 1) := by decide +kernel
theorem dL_law_430 : decode code 430 = .ok (.aload_n 0, 1) := by decide +kernel
theorem dL_law_431 : decode code 431 = .ok (.iload 4, 2) := by decide +kernel
theorem dL_law_433 : decode code 433 = .ok (.iconst 1, 1) := by decide +kernel
theorem dL_law_434 : decode code 434 = .ok (.iadd, 1) := by decide +kernel
theorem dL_law_435 : decode code 435 = .ok (.iaload, 1) := by decide +kernel
theorem dL_law_436 : decode code 436 = .ok (.aload_n 0, 1) := by decide +kernel
theorem dL_law_437 : decode code 437 = .ok (.iload 4, 2) := by decide +kernel
theorem dL_law_439 : decode code 439 = .ok (.iconst 2, 1) := by decide +kernel
theorem dL_law_440 : decode code 440 = .ok (.iadd, 1) := by decide +kernel
theorem dL_law_441 : decode code 441 = .ok (.iaload, 1) := by decide +kernel
theorem dL_law_442 : decode code 442 = .ok (.invokevirtual 46, 3) := by decide +kernel
theorem dL_law_445 : decode code 445 = .ok (.if_icmp .eq 1493, 3) := by decide +kernel
theorem hv_L_43 : a_okV RL M_X3_walks 43 := ⟨a_in 432 (by decide +kernel) rfl, a_in 433 (by decide +kernel) rfl, a_in 434 (by decide +kernel) rfl⟩
theorem hv_L_46 : a_okV RL M_X4_walks 46 := ⟨a_in 1171 (by decide +kernel) rfl, a_in 1172 (by decide +kernel) rfl, a_in 1173 (by decide +kernel) rfl⟩
theorem lc_walks {K : lK} (h : K.Ok) {t u : Nat} (hf : t ≤ 601024 ∧ u ≤ 7293034) {w : aW} {X : aX} {Y : aY} (hI : Inv X Y) {a : Int32} (hin : ∀ v : Int32, v = 1 ∨ v = 2 ∨ v = 3 ∨ v = 4 ∨ v = 5 → vp_in (a + v) K.n) (next : ∀ (X' : aX) (Y' : aY), Inv X' Y' → Lw K t u 1938 (lL a) [] (Wd w X' Y')) : Lw K t u 413 (lL a) [] (Wd w X Y) := by
  obtain ⟨r, w1, X', Y', hO, h3, h4, hI'⟩ := st_walks hI w (K.xs (a + 1).toNatClampNeg) (K.xs (a + 2).toNatClampNeg)
  refine l_aload h dL_law_413 rfl rfl ?_
  refine l_arg h dL_law_414 dL_law_415 dL_law_417 dL_law_418 dL_law_419 kc_1 rfl rfl (hin 1 (by decide)) ?_
  refine l_arg h dL_law_420 dL_law_421 dL_law_423 dL_law_424 dL_law_425 kc_2 rfl rfl (hin 2 (by decide)) ?_
  refine l_call (rv' := rvI) (c0 := 2) (S := []) h hf rfl rfl ok_X3_walks ⟨Nat.le_of_ble_eq_true rfl, Nat.le_of_ble_eq_true rfl⟩ hv_L_43 dL_law_426 (l_obj w X Y) (s_X3_walks 0 _ _ _) h3 rfl rfl (Nat.le_of_ble_eq_true rfl) ?_
  refine l_aload h dL_law_429 rfl rfl ?_
  refine l_arg h dL_law_430 dL_law_431 dL_law_433 dL_law_434 dL_law_435 kc_1 rfl rfl (hin 1 (by decide)) ?_
  refine l_arg h dL_law_436 dL_law_437 dL_law_439 dL_law_440 dL_law_441 kc_2 rfl rfl (hin 2 (by decide)) ?_
  refine l_call (rv' := rvI) (c0 := 3) (S := [.int r]) h hf rfl rfl ok_X4_walks ⟨Nat.le_of_ble_eq_true rfl, Nat.le_of_ble_eq_true rfl⟩ hv_L_46 dL_law_442 hO (s_X4_walks 50 _ _ _) h4 rfl rfl (Nat.le_of_ble_eq_true rfl) ?_
  exact l_eq h dL_law_445 (by decide) (next X' Y' hI')
theorem dL_law_450 : decode code 450 = .ok (.aload_n 1, 1) := by decide +kernel
theorem dL_law_451 : decode code 451 = .ok (.aload_n 0, 1) := by decide +kernel
theorem dL_law_452 : decode code 452 = .ok (.iload 4, 2) := by decide +kernel
theorem dL_law_454 : decode code 454 = .ok (.iconst 1, 1) := by decide +kernel
theorem dL_law_455 : decode code 455 = .ok (.iadd, 1) := by decide +kernel
theorem dL_law_456 : decode code 456 = .ok (.iaload, 1) := by decide +kernel
theorem dL_law_457 : decode code 457 = .ok (.aload_n 0, 1) := by decide +kernel
theorem dL_law_458 : decode code 458 = .ok (.iload 4, 2) := by decide +kernel
theorem dL_law_460 : decode code 460 = .ok (.iconst 2, 1) := by decide +kernel
theorem dL_law_461 : decode code 461 = .ok (.iadd, 1) := by decide +kernel
theorem dL_law_462 : decode code 462 = .ok (.iaload, 1) := by decide +kernel
theorem dL_law_463 : decode code 463 = .ok (.invokevirtual 47, 3) := by decide +kernel
theorem dL_law_466 : decode code 466 = .ok (.aload_n 2, 1) := by decide +kernel
theorem dL_law_467 : decode code 467 = .ok (.aload_n 0, 1) := by decide +kernel
theorem dL_law_468 : decode code 468 = .ok (.iload 4, 2) := by decide +kernel
theorem dL_law_470 : decode code 470 = .ok (.iconst 1, 1) := by decide +kernel
theorem dL_law_471 : decode code 471 = .ok (.iadd, 1) := by decide +kernel
theorem dL_law_472 : decode code 472 = .ok (.iaload, 1) := by decide +kernel
theorem dL_law_473 : decode code 473 = .ok (.aload_n 0, 1) := by decide +kernel
theorem dL_law_474 : decode code 474 = .ok (.iload 4, 2) := by decide +kernel
theorem dL_law_476 : decode code 476 = .ok (.iconst 2, 1) := by decide +kernel
theorem dL_law_477 : decode code 477 = .ok (.iadd, 1) := by decide +kernel
theorem dL_law_478 : decode code 478 = .ok (.iaload, 1) := by decide +kernel
theorem dL_law_479 : decode code 479 = .ok (.invokevirtual 50, 3) := by decide +kernel
theorem dL_law_482 : decode code 482 = .ok (.if_icmp .eq 1456, 3) := by decide +kernel
theorem hv_L_47 : a_okV RL M_X3_calls 47 := ⟨a_in 436 (by decide +kernel) rfl, a_in 437 (by decide +kernel) rfl, a_in 438 (by decide +kernel) rfl⟩
theorem hv_L_50 : a_okV RL M_X4_calls 50 := ⟨a_in 1175 (by decide +kernel) rfl, a_in 1176 (by decide +kernel) rfl, a_in 1177 (by decide +kernel) rfl⟩
theorem lc_calls {K : lK} (h : K.Ok) {t u : Nat} (hf : t ≤ 601024 ∧ u ≤ 7293034) {w : aW} {X : aX} {Y : aY} (hI : Inv X Y) {a : Int32} (hin : ∀ v : Int32, v = 1 ∨ v = 2 ∨ v = 3 ∨ v = 4 ∨ v = 5 → vp_in (a + v) K.n) (next : ∀ (X' : aX) (Y' : aY), Inv X' Y' → Lw K t u 1938 (lL a) [] (Wd w X' Y')) : Lw K t u 450 (lL a) [] (Wd w X Y) := by
  obtain ⟨r, w1, X', Y', hO, h3, h4, hI'⟩ := st_calls hI w (K.xs (a + 1).toNatClampNeg) (K.xs (a + 2).toNatClampNeg)
  refine l_aload h dL_law_450 rfl rfl ?_
  refine l_arg h dL_law_451 dL_law_452 dL_law_454 dL_law_455 dL_law_456 kc_1 rfl rfl (hin 1 (by decide)) ?_
  refine l_arg h dL_law_457 dL_law_458 dL_law_460 dL_law_461 dL_law_462 kc_2 rfl rfl (hin 2 (by decide)) ?_
  refine l_call (rv' := rvI) (c0 := 2) (S := []) h hf rfl rfl ok_X3_calls ⟨Nat.le_of_ble_eq_true rfl, Nat.le_of_ble_eq_true rfl⟩ hv_L_47 dL_law_463 (l_obj w X Y) (s_X3_calls 0 _ _ _) h3 rfl rfl (Nat.le_of_ble_eq_true rfl) ?_
  refine l_aload h dL_law_466 rfl rfl ?_
  refine l_arg h dL_law_467 dL_law_468 dL_law_470 dL_law_471 dL_law_472 kc_1 rfl rfl (hin 1 (by decide)) ?_
  refine l_arg h dL_law_473 dL_law_474 dL_law_476 dL_law_477 dL_law_478 kc_2 rfl rfl (hin 2 (by decide)) ?_
  refine l_call (rv' := rvI) (c0 := 3) (S := [.int r]) h hf rfl rfl ok_X4_calls ⟨Nat.le_of_ble_eq_true rfl, Nat.le_of_ble_eq_true rfl⟩ hv_L_50 dL_law_479 hO (s_X4_calls 50 _ _ _) h4 rfl rfl (Nat.le_of_ble_eq_true rfl) ?_
  exact l_eq h dL_law_482 (by decide) (next X' Y' hI')
theorem dL_law_487 : decode code 487 = .ok (.aload_n 1, 1) := by decide +kernel
theorem dL_law_488 : decode code 488 = .ok (.aload_n 0, 1) := by decide +kernel
theorem dL_law_489 : decode code 489 = .ok (.iload 4, 2) := by decide +kernel
theorem dL_law_491 : decode code 491 = .ok (.iconst 1, 1) := by decide +kernel
theorem dL_law_492 : decode code 492 = .ok (.iadd, 1) := by decide +kernel
theorem dL_law_493 : decode code 493 = .ok (.iaload, 1) := by decide +kernel
theorem dL_law_494 : decode code 494 = .ok (.invokevirtual 51, 3) := by decide +kernel
theorem dL_law_497 : decode code 497 = .ok (.aload_n 2, 1) := by decide +kernel
theorem dL_law_498 : decode code 498 = .ok (.aload_n 0, 1) := by decide +kernel
theorem dL_law_499 : decode code 499 = .ok (.iload 4, 2) := by decide +kernel
theorem dL_law_501 : decode code 501 = .ok (.iconst 1, 1) := by decide +kernel
theorem dL_law_502 : decode code 502 = .ok (.iadd, 1) := by decide +kernel
theorem dL_law_503 : decode code 503 = .ok (.iaload, 1) := by decide +kernel
theorem dL_law_504 : decode code 504 = .ok (.invokevirtual 54, 3) := by decide +kernel
theorem dL_law_507 : decode code 507 = .ok (.if_icmp .eq 1431, 3) := by decide +kernel
theorem hv_L_51 : a_okV RL M_X3_answers 51 := ⟨a_in 440 (by decide +kernel) rfl, a_in 441 (by decide +kernel) rfl, a_in 442 (by decide +kernel) rfl⟩
theorem hv_L_54 : a_okV RL M_X4_answers 54 := ⟨a_in 1179 (by decide +kernel) rfl, a_in 1180 (by decide +kernel) rfl, a_in 1181 (by decide +kernel) rfl⟩
theorem lc_answers {K : lK} (h : K.Ok) {t u : Nat} (hf : t ≤ 601024 ∧ u ≤ 7293034) {w : aW} {X : aX} {Y : aY} (hI : Inv X Y) {a : Int32} (hin : ∀ v : Int32, v = 1 ∨ v = 2 ∨ v = 3 ∨ v = 4 ∨ v = 5 → vp_in (a + v) K.n) (next : ∀ (X' : aX) (Y' : aY), Inv X' Y' → Lw K t u 1938 (lL a) [] (Wd w X' Y')) : Lw K t u 487 (lL a) [] (Wd w X Y) := by
  obtain ⟨r, w1, X', Y', hO, h3, h4, hI'⟩ := st_answers hI w (K.xs (a + 1).toNatClampNeg)
  refine l_aload h dL_law_487 rfl rfl ?_
  refine l_arg h dL_law_488 dL_law_489 dL_law_491 dL_law_492 dL_law_493 kc_1 rfl rfl (hin 1 (by decide)) ?_
  refine l_call (rv' := rvI) (c0 := 2) (S := []) h hf rfl rfl ok_X3_answers ⟨Nat.le_of_ble_eq_true rfl, Nat.le_of_ble_eq_true rfl⟩ hv_L_51 dL_law_494 (l_obj w X Y) (s_X3_answers 0 _ _) h3 rfl rfl (Nat.le_of_ble_eq_true rfl) ?_
  refine l_aload h dL_law_497 rfl rfl ?_
  refine l_arg h dL_law_498 dL_law_499 dL_law_501 dL_law_502 dL_law_503 kc_1 rfl rfl (hin 1 (by decide)) ?_
  refine l_call (rv' := rvI) (c0 := 3) (S := [.int r]) h hf rfl rfl ok_X4_answers ⟨Nat.le_of_ble_eq_true rfl, Nat.le_of_ble_eq_true rfl⟩ hv_L_54 dL_law_504 hO (s_X4_answers 50 _ _) h4 rfl rfl (Nat.le_of_ble_eq_true rfl) ?_
  exact l_eq h dL_law_507 (by decide) (next X' Y' hI')
theorem dL_law_512 : decode code 512 = .ok (.aload_n 1, 1) := by decide +kernel
theorem dL_law_513 : decode code 513 = .ok (.aload_n 0, 1) := by decide +kernel
theorem dL_law_514 : decode code 514 = .ok (.iload 4, 2) := by decide +kernel
theorem dL_law_516 : decode code 516 = .ok (.iconst 1, 1) := by decide +kernel
theorem dL_law_517 : decode code 517 = .ok (.iadd, 1) := by decide +kernel
theorem dL_law_518 : decode code 518 = .ok (.iaload, 1) := by decide +kernel
theorem dL_law_519 : decode code 519 = .ok (.aload_n 0, 1) := by decide +kernel
theorem dL_law_520 : decode code 520 = .ok (.iload 4, 2) := by decide +kernel
theorem dL_law_522 : decode code 522 = .ok (.iconst 2, 1) := by decide +kernel
theorem dL_law_523 : decode code 523 = .ok (.iadd, 1) := by decide +kernel
theorem dL_law_524 : decode code 524 = .ok (.iaload, 1) := by decide +kernel
theorem dL_law_525 : decode code 525 = .ok (.invokevirtual 55, 3) := by decide +kernel
theorem dL_law_528 : decode code 528 = .ok (.aload_n 2, 1) := by decide +kernel
theorem dL_law_529 : decode code 529 = .ok (.aload_n 0, 1) := by decide +kernel
theorem dL_law_530 : decode code 530 = .ok (.iload 4, 2) := by decide +kernel
theorem dL_law_532 : decode code 532 = .ok (.iconst 1, 1) := by decide +kernel
theorem dL_law_533 : decode code 533 = .ok (.iadd, 1) := by decide +kernel
theorem dL_law_534 : decode code 534 = .ok (.iaload, 1) := by decide +kernel
theorem dL_law_535 : decode code 535 = .ok (.aload_n 0, 1) := by decide +kernel
theorem dL_law_536 : decode code 536 = .ok (.iload 4, 2) := by decide +kernel
theorem dL_law_538 : decode code 538 = .ok (.iconst 2, 1) := by decide +kernel
theorem dL_law_539 : decode code 539 = .ok (.iadd, 1) := by decide +kernel
theorem dL_law_540 : decode code 540 = .ok (.iaload, 1) := by decide +kernel
theorem dL_law_541 : decode code 541 = .ok (.invokevirtual 58, 3) := by decide +kernel
theorem dL_law_544 : decode code 544 = .ok (.if_icmp .eq 1394, 3) := by decide +kernel
theorem hv_L_55 : a_okV RL M_X3_tongue 55 := ⟨a_in 444 (by decide +kernel) rfl, a_in 445 (by decide +kernel) rfl, a_in 446 (by decide +kernel) rfl⟩
theorem hv_L_58 : a_okV RL M_X4_tongue 58 := ⟨a_in 1183 (by decide +kernel) rfl, a_in 1184 (by decide +kernel) rfl, a_in 1185 (by decide +kernel) rfl⟩
theorem lc_tongue {K : lK} (h : K.Ok) {t u : Nat} (hf : t ≤ 601024 ∧ u ≤ 7293034) {w : aW} {X : aX} {Y : aY} (hI : Inv X Y) {a : Int32} (hin : ∀ v : Int32, v = 1 ∨ v = 2 ∨ v = 3 ∨ v = 4 ∨ v = 5 → vp_in (a + v) K.n) (next : ∀ (X' : aX) (Y' : aY), Inv X' Y' → Lw K t u 1938 (lL a) [] (Wd w X' Y')) : Lw K t u 512 (lL a) [] (Wd w X Y) := by
  obtain ⟨r, w1, X', Y', hO, h3, h4, hI'⟩ := st_tongue hI w (K.xs (a + 1).toNatClampNeg) (K.xs (a + 2).toNatClampNeg)
  refine l_aload h dL_law_512 rfl rfl ?_
  refine l_arg h dL_law_513 dL_law_514 dL_law_516 dL_law_517 dL_law_518 kc_1 rfl rfl (hin 1 (by decide)) ?_
  refine l_arg h dL_law_519 dL_law_520 dL_law_522 dL_law_523 dL_law_524 kc_2 rfl rfl (hin 2 (by decide)) ?_
  refine l_call (rv' := rvI) (c0 := 2) (S := []) h hf rfl rfl ok_X3_tongue ⟨Nat.le_of_ble_eq_true rfl, Nat.le_of_ble_eq_true rfl⟩ hv_L_55 dL_law_525 (l_obj w X Y) (s_X3_tongue 0 _ _ _) h3 rfl rfl (Nat.le_of_ble_eq_true rfl) ?_
  refine l_aload h dL_law_528 rfl rfl ?_
  refine l_arg h dL_law_529 dL_law_530 dL_law_532 dL_law_533 dL_law_534 kc_1 rfl rfl (hin 1 (by decide)) ?_
  refine l_arg h dL_law_535 dL_law_536 dL_law_538 dL_law_539 dL_law_540 kc_2 rfl rfl (hin 2 (by decide)) ?_
  refine l_call (rv' := rvI) (c0 := 3) (S := [.int r]) h hf rfl rfl ok_X4_tongue ⟨Nat.le_of_ble_eq_true rfl, Nat.le_of_ble_eq_true rfl⟩ hv_L_58 dL_law_541 hO (s_X4_tongue 50 _ _ _) h4 rfl rfl (Nat.le_of_ble_eq_true rfl) ?_
  exact l_eq h dL_law_544 (by decide) (next X' Y' hI')
theorem dL_law_549 : decode code 549 = .ok (.aload_n 1, 1) := by decide +kernel
theorem dL_law_550 : decode code 550 = .ok (.aload_n 0, 1) := by decide +kernel
theorem dL_law_551 : decode code 551 = .ok (.iload 4, 2) := by decide +kernel
theorem dL_law_553 : decode code 553 = .ok (.iconst 1, 1) := by decide +kernel
theorem dL_law_554 : decode code 554 = .ok (.iadd, 1) := by decide +kernel
theorem dL_law_555 : decode code 555 = .ok (.iaload, 1) := by decide +kernel
theorem dL_law_556 : decode code 556 = .ok (.aload_n 0, 1) := by decide +kernel
theorem dL_law_557 : decode code 557 = .ok (.iload 4, 2) := by decide +kernel
theorem dL_law_559 : decode code 559 = .ok (.iconst 2, 1) := by decide +kernel
theorem dL_law_560 : decode code 560 = .ok (.iadd, 1) := by decide +kernel
theorem dL_law_561 : decode code 561 = .ok (.iaload, 1) := by decide +kernel
theorem dL_law_562 : decode code 562 = .ok (.invokevirtual 59, 3) := by decide +kernel
theorem dL_law_565 : decode code 565 = .ok (.aload_n 2, 1) := by decide +kernel
theorem dL_law_566 : decode code 566 = .ok (.aload_n 0, 1) := by decide +kernel
theorem dL_law_567 : decode code 567 = .ok (.iload 4, 2) := by decide +kernel
theorem dL_law_569 : decode code 569 = .ok (.iconst 1, 1) := by decide +kernel
theorem dL_law_570 : decode code 570 = .ok (.iadd, 1) := by decide +kernel
theorem dL_law_571 : decode code 571 = .ok (.iaload, 1) := by decide +kernel
theorem dL_law_572 : decode code 572 = .ok (.aload_n 0, 1) := by decide +kernel
theorem dL_law_573 : decode code 573 = .ok (.iload 4, 2) := by decide +kernel
theorem dL_law_575 : decode code 575 = .ok (.iconst 2, 1) := by decide +kernel
theorem dL_law_576 : decode code 576 = .ok (.iadd, 1) := by decide +kernel
theorem dL_law_577 : decode code 577 = .ok (.iaload, 1) := by decide +kernel
theorem dL_law_578 : decode code 578 = .ok (.invokevirtual 62, 3) := by decide +kernel
theorem dL_law_581 : decode code 581 = .ok (.if_icmp .eq 1357, 3) := by decide +kernel
theorem hv_L_59 : a_okV RL M_X3_means 59 := ⟨a_in 448 (by decide +kernel) rfl, a_in 449 (by decide +kernel) rfl, a_in 450 (by decide +kernel) rfl⟩
theorem hv_L_62 : a_okV RL M_X4_means 62 := ⟨a_in 1188 (by decide +kernel) rfl, a_in 1189 (by decide +kernel) rfl, a_in 1190 (by decide +kernel) rfl⟩
theorem lc_means {K : lK} (h : K.Ok) {t u : Nat} (hf : t ≤ 601024 ∧ u ≤ 7293034) {w : aW} {X : aX} {Y : aY} (hI : Inv X Y) {a : Int32} (hin : ∀ v : Int32, v = 1 ∨ v = 2 ∨ v = 3 ∨ v = 4 ∨ v = 5 → vp_in (a + v) K.n) (next : ∀ (X' : aX) (Y' : aY), Inv X' Y' → Lw K t u 1938 (lL a) [] (Wd w X' Y')) : Lw K t u 549 (lL a) [] (Wd w X Y) := by
  obtain ⟨r, w1, X', Y', hO, h3, h4, hI'⟩ := st_means hI w (K.xs (a + 1).toNatClampNeg) (K.xs (a + 2).toNatClampNeg)
  refine l_aload h dL_law_549 rfl rfl ?_
  refine l_arg h dL_law_550 dL_law_551 dL_law_553 dL_law_554 dL_law_555 kc_1 rfl rfl (hin 1 (by decide)) ?_
  refine l_arg h dL_law_556 dL_law_557 dL_law_559 dL_law_560 dL_law_561 kc_2 rfl rfl (hin 2 (by decide)) ?_
  refine l_call (rv' := rvI) (c0 := 2) (S := []) h hf rfl rfl ok_X3_means ⟨Nat.le_of_ble_eq_true rfl, Nat.le_of_ble_eq_true rfl⟩ hv_L_59 dL_law_562 (l_obj w X Y) (s_X3_means 0 _ _ _) h3 rfl rfl (Nat.le_of_ble_eq_true rfl) ?_
  refine l_aload h dL_law_565 rfl rfl ?_
  refine l_arg h dL_law_566 dL_law_567 dL_law_569 dL_law_570 dL_law_571 kc_1 rfl rfl (hin 1 (by decide)) ?_
  refine l_arg h dL_law_572 dL_law_573 dL_law_575 dL_law_576 dL_law_577 kc_2 rfl rfl (hin 2 (by decide)) ?_
  refine l_call (rv' := rvI) (c0 := 3) (S := [.int r]) h hf rfl rfl ok_X4_means ⟨Nat.le_of_ble_eq_true rfl, Nat.le_of_ble_eq_true rfl⟩ hv_L_62 dL_law_578 hO (s_X4_means 50 _ _ _) h4 rfl rfl (Nat.le_of_ble_eq_true rfl) ?_
  exact l_eq h dL_law_581 (by decide) (next X' Y' hI')
