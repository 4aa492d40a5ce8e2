/-! ===== the law, case by case ===== -/
theorem dL_433 : decode mL_law.2.1 433 = .ok (.aload_n 1, 1) := by decide +kernel
theorem dL_434 : decode mL_law.2.1 434 = .ok (.aload_n 0, 1) := by decide +kernel
theorem dL_435 : decode mL_law.2.1 435 = .ok (.iload 4, 2) := by decide +kernel
theorem dL_437 : decode mL_law.2.1 437 = .ok (.iconst 1, 1) := by decide +kernel
theorem dL_438 : decode mL_law.2.1 438 = .ok (.iadd, 1) := by decide +kernel
theorem dL_439 : decode mL_law.2.1 439 = .ok (.iaload, 1) := by decide +kernel
theorem dL_440 : decode mL_law.2.1 440 = .ok (.aload_n 0, 1) := by decide +kernel
theorem dL_441 : decode mL_law.2.1 441 = .ok (.iload 4, 2) := by decide +kernel
theorem dL_443 : decode mL_law.2.1 443 = .ok (.iconst 2, 1) := by decide +kernel
theorem dL_444 : decode mL_law.2.1 444 = .ok (.iadd, 1) := by decide +kernel
theorem dL_445 : decode mL_law.2.1 445 = .ok (.iaload, 1) := by decide +kernel
theorem dL_446 : decode mL_law.2.1 446 = .ok (.invokevirtual 55, 3) := by decide +kernel
theorem dL_449 : decode mL_law.2.1 449 = .ok (.aload_n 2, 1) := by decide +kernel
theorem dL_450 : decode mL_law.2.1 450 = .ok (.aload_n 0, 1) := by decide +kernel
theorem dL_451 : decode mL_law.2.1 451 = .ok (.iload 4, 2) := by decide +kernel
theorem dL_453 : decode mL_law.2.1 453 = .ok (.iconst 1, 1) := by decide +kernel
theorem dL_454 : decode mL_law.2.1 454 = .ok (.iadd, 1) := by decide +kernel
theorem dL_455 : decode mL_law.2.1 455 = .ok (.iaload, 1) := by decide +kernel
theorem dL_456 : decode mL_law.2.1 456 = .ok (.aload_n 0, 1) := by decide +kernel
theorem dL_457 : decode mL_law.2.1 457 = .ok (.iload 4, 2) := by decide +kernel
theorem dL_459 : decode mL_law.2.1 459 = .ok (.iconst 2, 1) := by decide +kernel
theorem dL_460 : decode mL_law.2.1 460 = .ok (.iadd, 1) := by decide +kernel
theorem dL_461 : decode mL_law.2.1 461 = .ok (.iaload, 1) := by decide +kernel
theorem dL_462 : decode mL_law.2.1 462 = .ok (.invokevirtual 58, 3) := by decide +kernel
theorem dL_465 : decode mL_law.2.1 465 = .ok (.if_icmp .eq 882, 3) := by decide +kernel
theorem dL_468 : decode mL_law.2.1 468 = .ok (.iconst 0, 1) := by decide +kernel
theorem dL_469 : decode mL_law.2.1 469 = .ok (.ireturn, 1) := by decide +kernel
theorem lc_point {n : Nat} {xs : Nat → Int32} {g : Nat} {i B : Int} {m : Mem} {Q : Int → Mem → Prop} (hn : n ≤ 3072) (hg : 1 ≤ g) (h0 : 0 ≤ i) (h1 : i + 6 ≤ n) (h : Inv m B) (hB : 0 ≤ B ∧ B ≤ 100000000) (k : ∀ m2 : Mem, Inv m2 (B + 300) → GoL (XL n xs) (g - 1) 72 mL_law Q 1347 (LL i) [] m2) : GoL (XL n xs) g 72 mL_law Q 433 (LL i) [] m := by
  have K0 : Duo mX11_point mX12_point [vi (sc xs (i + 1)), vi (sc xs (i + 2))] m (fun m2 => Inv m2 B) := c_point h (InR.r _) (InR.r _)
  obtain ⟨d1, Q1, hd1, E1, K1⟩ := K0
  refine gl_aload_n dL_433 rfl ?_
  refine gl_aload_n dL_434 rfl ?_
  refine gl_iload dL_435 rfl ?_
  refine gl_iconst dL_437 ?_
  refine gl_iadd dL_438 ?_
  refine gl_sload dL_439 (by omega) (by omega) hn ?_
  refine gl_aload_n dL_440 rfl ?_
  refine gl_iload dL_441 rfl ?_
  refine gl_iconst dL_443 ?_
  refine gl_iadd dL_444 ?_
  refine gl_sload dL_445 (by omega) (by omega) hn ?_
  refine gl_callR (as := [vi (sc xs (i + 1)), vi (sc xs (i + 2))]) (S := []) (b := 0) E1 (Or.inl rfl) dL_446 cv_L_55 rfl rfl ob_0 rfl (by omega) (by decide) (fun r1 m1 hq1 hr1 => ?_)
  obtain ⟨d2, Q2, hd2, E2, K2⟩ := K1 r1 m1 hq1
  refine gl_aload_n dL_449 rfl ?_
  refine gl_aload_n dL_450 rfl ?_
  refine gl_iload dL_451 rfl ?_
  refine gl_iconst dL_453 ?_
  refine gl_iadd dL_454 ?_
  refine gl_sload dL_455 (by omega) (by omega) hn ?_
  refine gl_aload_n dL_456 rfl ?_
  refine gl_iload dL_457 rfl ?_
  refine gl_iconst dL_459 ?_
  refine gl_iadd dL_460 ?_
  refine gl_sload dL_461 (by omega) (by omega) hn ?_
  refine gl_callR (as := [vi (sc xs (i + 1)), vi (sc xs (i + 2))]) (S := [vi r1]) (b := 214) E2 (Or.inl rfl) dL_462 cv_L_58 rfl rfl ob_214 rfl (by omega) (Nat.le_of_ble_eq_true rfl) (fun r2 m2 hq2 hr2 => ?_)
  obtain ⟨hrr, hI⟩ := K2 r2 m2 hq2
  refine gl_icmp_eq (tgt := 1347) dL_465 (by decide) hr1 hr2 (fun e => gl_weak (by omega) (k m2 (hI.all (by omega) (fun _ _ _ => rfl)))) (fun e => absurd hrr.symm e)
theorem dL_470 : decode mL_law.2.1 470 = .ok (.aload_n 1, 1) := by decide +kernel
theorem dL_471 : decode mL_law.2.1 471 = .ok (.aload_n 0, 1) := by decide +kernel
theorem dL_472 : decode mL_law.2.1 472 = .ok (.iload 4, 2) := by decide +kernel
theorem dL_474 : decode mL_law.2.1 474 = .ok (.iconst 1, 1) := by decide +kernel
theorem dL_475 : decode mL_law.2.1 475 = .ok (.iadd, 1) := by decide +kernel
theorem dL_476 : decode mL_law.2.1 476 = .ok (.iaload, 1) := by decide +kernel
theorem dL_477 : decode mL_law.2.1 477 = .ok (.aload_n 0, 1) := by decide +kernel
theorem dL_478 : decode mL_law.2.1 478 = .ok (.iload 4, 2) := by decide +kernel
theorem dL_480 : decode mL_law.2.1 480 = .ok (.iconst 2, 1) := by decide +kernel
theorem dL_481 : decode mL_law.2.1 481 = .ok (.iadd, 1) := by decide +kernel
theorem dL_482 : decode mL_law.2.1 482 = .ok (.iaload, 1) := by decide +kernel
theorem dL_483 : decode mL_law.2.1 483 = .ok (.aload_n 0, 1) := by decide +kernel
theorem dL_484 : decode mL_law.2.1 484 = .ok (.iload 4, 2) := by decide +kernel
theorem dL_486 : decode mL_law.2.1 486 = .ok (.iconst 3, 1) := by decide +kernel
theorem dL_487 : decode mL_law.2.1 487 = .ok (.iadd, 1) := by decide +kernel
theorem dL_488 : decode mL_law.2.1 488 = .ok (.iaload, 1) := by decide +kernel
theorem dL_489 : decode mL_law.2.1 489 = .ok (.invokevirtual 59, 3) := by decide +kernel
theorem dL_492 : decode mL_law.2.1 492 = .ok (.aload_n 2, 1) := by decide +kernel
theorem dL_493 : decode mL_law.2.1 493 = .ok (.aload_n 0, 1) := by decide +kernel
theorem dL_494 : decode mL_law.2.1 494 = .ok (.iload 4, 2) := by decide +kernel
theorem dL_496 : decode mL_law.2.1 496 = .ok (.iconst 1, 1) := by decide +kernel
theorem dL_497 : decode mL_law.2.1 497 = .ok (.iadd, 1) := by decide +kernel
theorem dL_498 : decode mL_law.2.1 498 = .ok (.iaload, 1) := by decide +kernel
theorem dL_499 : decode mL_law.2.1 499 = .ok (.aload_n 0, 1) := by decide +kernel
theorem dL_500 : decode mL_law.2.1 500 = .ok (.iload 4, 2) := by decide +kernel
theorem dL_502 : decode mL_law.2.1 502 = .ok (.iconst 2, 1) := by decide +kernel
theorem dL_503 : decode mL_law.2.1 503 = .ok (.iadd, 1) := by decide +kernel
theorem dL_504 : decode mL_law.2.1 504 = .ok (.iaload, 1) := by decide +kernel
theorem dL_505 : decode mL_law.2.1 505 = .ok (.aload_n 0, 1) := by decide +kernel
theorem dL_506 : decode mL_law.2.1 506 = .ok (.iload 4, 2) := by decide +kernel
theorem dL_508 : decode mL_law.2.1 508 = .ok (.iconst 3, 1) := by decide +kernel
theorem dL_509 : decode mL_law.2.1 509 = .ok (.iadd, 1) := by decide +kernel
theorem dL_510 : decode mL_law.2.1 510 = .ok (.iaload, 1) := by decide +kernel
theorem dL_511 : decode mL_law.2.1 511 = .ok (.invokevirtual 63, 3) := by decide +kernel
theorem dL_514 : decode mL_law.2.1 514 = .ok (.if_icmp .eq 833, 3) := by decide +kernel
theorem dL_517 : decode mL_law.2.1 517 = .ok (.iconst 0, 1) := by decide +kernel
theorem dL_518 : decode mL_law.2.1 518 = .ok (.ireturn, 1) := by decide +kernel
theorem lc_cell {n : Nat} {xs : Nat → Int32} {g : Nat} {i B : Int} {m : Mem} {Q : Int → Mem → Prop} (hn : n ≤ 3072) (hg : 1 ≤ g) (h0 : 0 ≤ i) (h1 : i + 6 ≤ n) (h : Inv m B) (hB : 0 ≤ B ∧ B ≤ 100000000) (k : ∀ m2 : Mem, Inv m2 (B + 300) → GoL (XL n xs) (g - 1) 72 mL_law Q 1347 (LL i) [] m2) : GoL (XL n xs) g 72 mL_law Q 470 (LL i) [] m := by
  have K0 : Duo mX11_cell mX12_cell [vi (sc xs (i + 1)), vi (sc xs (i + 2)), vi (sc xs (i + 3))] m (fun m2 => Inv m2 B) := c_cell h (InR.r _) (InR.r _) (InR.r _)
  obtain ⟨d1, Q1, hd1, E1, K1⟩ := K0
  refine gl_aload_n dL_470 rfl ?_
  refine gl_aload_n dL_471 rfl ?_
  refine gl_iload dL_472 rfl ?_
  refine gl_iconst dL_474 ?_
  refine gl_iadd dL_475 ?_
  refine gl_sload dL_476 (by omega) (by omega) hn ?_
  refine gl_aload_n dL_477 rfl ?_
  refine gl_iload dL_478 rfl ?_
  refine gl_iconst dL_480 ?_
  refine gl_iadd dL_481 ?_
  refine gl_sload dL_482 (by omega) (by omega) hn ?_
  refine gl_aload_n dL_483 rfl ?_
  refine gl_iload dL_484 rfl ?_
  refine gl_iconst dL_486 ?_
  refine gl_iadd dL_487 ?_
  refine gl_sload dL_488 (by omega) (by omega) hn ?_
  refine gl_callR (as := [vi (sc xs (i + 1)), vi (sc xs (i + 2)), vi (sc xs (i + 3))]) (S := []) (b := 0) E1 (Or.inl rfl) dL_489 cv_L_59 rfl rfl ob_0 rfl (by omega) (by decide) (fun r1 m1 hq1 hr1 => ?_)
  obtain ⟨d2, Q2, hd2, E2, K2⟩ := K1 r1 m1 hq1
  refine gl_aload_n dL_492 rfl ?_
  refine gl_aload_n dL_493 rfl ?_
  refine gl_iload dL_494 rfl ?_
  refine gl_iconst dL_496 ?_
  refine gl_iadd dL_497 ?_
  refine gl_sload dL_498 (by omega) (by omega) hn ?_
  refine gl_aload_n dL_499 rfl ?_
  refine gl_iload dL_500 rfl ?_
  refine gl_iconst dL_502 ?_
  refine gl_iadd dL_503 ?_
  refine gl_sload dL_504 (by omega) (by omega) hn ?_
  refine gl_aload_n dL_505 rfl ?_
  refine gl_iload dL_506 rfl ?_
  refine gl_iconst dL_508 ?_
  refine gl_iadd dL_509 ?_
  refine gl_sload dL_510 (by omega) (by omega) hn ?_
  refine gl_callR (as := [vi (sc xs (i + 1)), vi (sc xs (i + 2)), vi (sc xs (i + 3))]) (S := [vi r1]) (b := 214) E2 (Or.inl rfl) dL_511 cv_L_63 rfl rfl ob_214 rfl (by omega) (Nat.le_of_ble_eq_true rfl) (fun r2 m2 hq2 hr2 => ?_)
  obtain ⟨hrr, hI⟩ := K2 r2 m2 hq2
  refine gl_icmp_eq (tgt := 1347) dL_514 (by decide) hr1 hr2 (fun e => gl_weak (by omega) (k m2 (hI.all (by omega) (fun _ _ _ => rfl)))) (fun e => absurd hrr.symm e)
theorem dL_519 : decode mL_law.2.1 519 = .ok (.aload_n 1, 1) := by decide +kernel
theorem dL_520 : decode mL_law.2.1 520 = .ok (.aload_n 0, 1) := by decide +kernel
theorem dL_521 : decode mL_law.2.1 521 = .ok (.iload 4, 2) := by decide +kernel
theorem dL_523 : decode mL_law.2.1 523 = .ok (.iconst 1, 1) := by decide +kernel
theorem dL_524 : decode mL_law.2.1 524 = .ok (.iadd, 1) := by decide +kernel
theorem dL_525 : decode mL_law.2.1 525 = .ok (.iaload, 1) := by decide +kernel
theorem dL_526 : decode mL_law.2.1 526 = .ok (.invokevirtual 64, 3) := by decide +kernel
theorem dL_529 : decode mL_law.2.1 529 = .ok (.aload_n 2, 1) := by decide +kernel
theorem dL_530 : decode mL_law.2.1 530 = .ok (.aload_n 0, 1) := by decide +kernel
theorem dL_531 : decode mL_law.2.1 531 = .ok (.iload 4, 2) := by decide +kernel
theorem dL_533 : decode mL_law.2.1 533 = .ok (.iconst 1, 1) := by decide +kernel
theorem dL_534 : decode mL_law.2.1 534 = .ok (.iadd, 1) := by decide +kernel
theorem dL_535 : decode mL_law.2.1 535 = .ok (.iaload, 1) := by decide +kernel
theorem dL_536 : decode mL_law.2.1 536 = .ok (.invokevirtual 67, 3) := by decide +kernel
theorem dL_539 : decode mL_law.2.1 539 = .ok (.if_icmp .eq 808, 3) := by decide +kernel
theorem dL_542 : decode mL_law.2.1 542 = .ok (.iconst 0, 1) := by decide +kernel
theorem dL_543 : decode mL_law.2.1 543 = .ok (.ireturn, 1) := by decide +kernel
theorem lc_now {n : Nat} {xs : Nat → Int32} {g : Nat} {i B : Int} {m : Mem} {Q : Int → Mem → Prop} (hn : n ≤ 3072) (hg : 1 ≤ g) (h0 : 0 ≤ i) (h1 : i + 6 ≤ n) (h : Inv m B) (hB : 0 ≤ B ∧ B ≤ 100000000) (k : ∀ m2 : Mem, Inv m2 (B + 300) → GoL (XL n xs) (g - 1) 72 mL_law Q 1347 (LL i) [] m2) : GoL (XL n xs) g 72 mL_law Q 519 (LL i) [] m := by
  have K0 : Duo mX11_now mX12_now [vi (sc xs (i + 1))] m (fun m2 => Inv m2 B) := c_now h hB (InR.r _)
  obtain ⟨d1, Q1, hd1, E1, K1⟩ := K0
  refine gl_aload_n dL_519 rfl ?_
  refine gl_aload_n dL_520 rfl ?_
  refine gl_iload dL_521 rfl ?_
  refine gl_iconst dL_523 ?_
  refine gl_iadd dL_524 ?_
  refine gl_sload dL_525 (by omega) (by omega) hn ?_
  refine gl_callR (as := [vi (sc xs (i + 1))]) (S := []) (b := 0) E1 (Or.inl rfl) dL_526 cv_L_64 rfl rfl ob_0 rfl (by omega) (by decide) (fun r1 m1 hq1 hr1 => ?_)
  obtain ⟨d2, Q2, hd2, E2, K2⟩ := K1 r1 m1 hq1
  refine gl_aload_n dL_529 rfl ?_
  refine gl_aload_n dL_530 rfl ?_
  refine gl_iload dL_531 rfl ?_
  refine gl_iconst dL_533 ?_
  refine gl_iadd dL_534 ?_
  refine gl_sload dL_535 (by omega) (by omega) hn ?_
  refine gl_callR (as := [vi (sc xs (i + 1))]) (S := [vi r1]) (b := 214) E2 (Or.inl rfl) dL_536 cv_L_67 rfl rfl ob_214 rfl (by omega) (Nat.le_of_ble_eq_true rfl) (fun r2 m2 hq2 hr2 => ?_)
  obtain ⟨hrr, hI⟩ := K2 r2 m2 hq2
  refine gl_icmp_eq (tgt := 1347) dL_539 (by decide) hr1 hr2 (fun e => gl_weak (by omega) (k m2 (hI.all (by omega) (fun _ _ _ => rfl)))) (fun e => absurd hrr.symm e)
theorem dL_544 : decode mL_law.2.1 544 = .ok (.aload_n 1, 1) := by decide +kernel
theorem dL_545 : decode mL_law.2.1 545 = .ok (.aload_n 0, 1) := by decide +kernel
theorem dL_546 : decode mL_law.2.1 546 = .ok (.iload 4, 2) := by decide +kernel
theorem dL_548 : decode mL_law.2.1 548 = .ok (.iconst 1, 1) := by decide +kernel
theorem dL_549 : decode mL_law.2.1 549 = .ok (.iadd, 1) := by decide +kernel
theorem dL_550 : decode mL_law.2.1 550 = .ok (.iaload, 1) := by decide +kernel
theorem dL_551 : decode mL_law.2.1 551 = .ok (.aload_n 0, 1) := by decide +kernel
theorem dL_552 : decode mL_law.2.1 552 = .ok (.iload 4, 2) := by decide +kernel
theorem dL_554 : decode mL_law.2.1 554 = .ok (.iconst 2, 1) := by decide +kernel
theorem dL_555 : decode mL_law.2.1 555 = .ok (.iadd, 1) := by decide +kernel
theorem dL_556 : decode mL_law.2.1 556 = .ok (.iaload, 1) := by decide +kernel
theorem dL_557 : decode mL_law.2.1 557 = .ok (.aload_n 0, 1) := by decide +kernel
theorem dL_558 : decode mL_law.2.1 558 = .ok (.iload 4, 2) := by decide +kernel
theorem dL_560 : decode mL_law.2.1 560 = .ok (.iconst 3, 1) := by decide +kernel
theorem dL_561 : decode mL_law.2.1 561 = .ok (.iadd, 1) := by decide +kernel
theorem dL_562 : decode mL_law.2.1 562 = .ok (.iaload, 1) := by decide +kernel
theorem dL_563 : decode mL_law.2.1 563 = .ok (.invokevirtual 68, 3) := by decide +kernel
theorem dL_566 : decode mL_law.2.1 566 = .ok (.aload_n 2, 1) := by decide +kernel
theorem dL_567 : decode mL_law.2.1 567 = .ok (.aload_n 0, 1) := by decide +kernel
theorem dL_568 : decode mL_law.2.1 568 = .ok (.iload 4, 2) := by decide +kernel
theorem dL_570 : decode mL_law.2.1 570 = .ok (.iconst 1, 1) := by decide +kernel
theorem dL_571 : decode mL_law.2.1 571 = .ok (.iadd, 1) := by decide +kernel
theorem dL_572 : decode mL_law.2.1 572 = .ok (.iaload, 1) := by decide +kernel
theorem dL_573 : decode mL_law.2.1 573 = .ok (.aload_n 0, 1) := by decide +kernel
theorem dL_574 : decode mL_law.2.1 574 = .ok (.iload 4, 2) := by decide +kernel
theorem dL_576 : decode mL_law.2.1 576 = .ok (.iconst 2, 1) := by decide +kernel
theorem dL_577 : decode mL_law.2.1 577 = .ok (.iadd, 1) := by decide +kernel
theorem dL_578 : decode mL_law.2.1 578 = .ok (.iaload, 1) := by decide +kernel
theorem dL_579 : decode mL_law.2.1 579 = .ok (.aload_n 0, 1) := by decide +kernel
theorem dL_580 : decode mL_law.2.1 580 = .ok (.iload 4, 2) := by decide +kernel
theorem dL_582 : decode mL_law.2.1 582 = .ok (.iconst 3, 1) := by decide +kernel
theorem dL_583 : decode mL_law.2.1 583 = .ok (.iadd, 1) := by decide +kernel
theorem dL_584 : decode mL_law.2.1 584 = .ok (.iaload, 1) := by decide +kernel
theorem dL_585 : decode mL_law.2.1 585 = .ok (.invokevirtual 71, 3) := by decide +kernel
theorem dL_588 : decode mL_law.2.1 588 = .ok (.if_icmp .eq 759, 3) := by decide +kernel
theorem dL_591 : decode mL_law.2.1 591 = .ok (.iconst 0, 1) := by decide +kernel
theorem dL_592 : decode mL_law.2.1 592 = .ok (.ireturn, 1) := by decide +kernel
theorem lc_say {n : Nat} {xs : Nat → Int32} {g : Nat} {i B : Int} {m : Mem} {Q : Int → Mem → Prop} (hn : n ≤ 3072) (hg : 1 ≤ g) (h0 : 0 ≤ i) (h1 : i + 6 ≤ n) (h : Inv m B) (hB : 0 ≤ B ∧ B ≤ 100000000) (k : ∀ m2 : Mem, Inv m2 (B + 300) → GoL (XL n xs) (g - 1) 72 mL_law Q 1347 (LL i) [] m2) : GoL (XL n xs) g 72 mL_law Q 544 (LL i) [] m := by
  have K0 : Duo mX11_say mX12_say [vi (sc xs (i + 1)), vi (sc xs (i + 2)), vi (sc xs (i + 3))] m (fun m2 => Inv m2 (B + 300)) := c_say h hB (InR.r _) (InR.r _) (InR.r _)
  obtain ⟨d1, Q1, hd1, E1, K1⟩ := K0
  refine gl_aload_n dL_544 rfl ?_
  refine gl_aload_n dL_545 rfl ?_
  refine gl_iload dL_546 rfl ?_
  refine gl_iconst dL_548 ?_
  refine gl_iadd dL_549 ?_
  refine gl_sload dL_550 (by omega) (by omega) hn ?_
  refine gl_aload_n dL_551 rfl ?_
  refine gl_iload dL_552 rfl ?_
  refine gl_iconst dL_554 ?_
  refine gl_iadd dL_555 ?_
  refine gl_sload dL_556 (by omega) (by omega) hn ?_
  refine gl_aload_n dL_557 rfl ?_
  refine gl_iload dL_558 rfl ?_
  refine gl_iconst dL_560 ?_
  refine gl_iadd dL_561 ?_
  refine gl_sload dL_562 (by omega) (by omega) hn ?_
  refine gl_callR (as := [vi (sc xs (i + 1)), vi (sc xs (i + 2)), vi (sc xs (i + 3))]) (S := []) (b := 0) E1 (Or.inl rfl) dL_563 cv_L_68 rfl rfl ob_0 rfl (by omega) (by decide) (fun r1 m1 hq1 hr1 => ?_)
  obtain ⟨d2, Q2, hd2, E2, K2⟩ := K1 r1 m1 hq1
  refine gl_aload_n dL_566 rfl ?_
  refine gl_aload_n dL_567 rfl ?_
  refine gl_iload dL_568 rfl ?_
  refine gl_iconst dL_570 ?_
  refine gl_iadd dL_571 ?_
  refine gl_sload dL_572 (by omega) (by omega) hn ?_
  refine gl_aload_n dL_573 rfl ?_
  refine gl_iload dL_574 rfl ?_
  refine gl_iconst dL_576 ?_
  refine gl_iadd dL_577 ?_
  refine gl_sload dL_578 (by omega) (by omega) hn ?_
  refine gl_aload_n dL_579 rfl ?_
  refine gl_iload dL_580 rfl ?_
  refine gl_iconst dL_582 ?_
  refine gl_iadd dL_583 ?_
  refine gl_sload dL_584 (by omega) (by omega) hn ?_
  refine gl_callR (as := [vi (sc xs (i + 1)), vi (sc xs (i + 2)), vi (sc xs (i + 3))]) (S := [vi r1]) (b := 214) E2 (Or.inl rfl) dL_585 cv_L_71 rfl rfl ob_214 rfl (by omega) (Nat.le_of_ble_eq_true rfl) (fun r2 m2 hq2 hr2 => ?_)
  obtain ⟨hrr, hI⟩ := K2 r2 m2 hq2
  refine gl_icmp_eq (tgt := 1347) dL_588 (by decide) hr1 hr2 (fun e => gl_weak (by omega) (k m2 hI)) (fun e => absurd hrr.symm e)
theorem dL_593 : decode mL_law.2.1 593 = .ok (.aload_n 1, 1) := by decide +kernel
theorem dL_594 : decode mL_law.2.1 594 = .ok (.aload_n 0, 1) := by decide +kernel
theorem dL_595 : decode mL_law.2.1 595 = .ok (.iload 4, 2) := by decide +kernel
theorem dL_597 : decode mL_law.2.1 597 = .ok (.iconst 1, 1) := by decide +kernel
theorem dL_598 : decode mL_law.2.1 598 = .ok (.iadd, 1) := by decide +kernel
theorem dL_599 : decode mL_law.2.1 599 = .ok (.iaload, 1) := by decide +kernel
theorem dL_600 : decode mL_law.2.1 600 = .ok (.aload_n 0, 1) := by decide +kernel
theorem dL_601 : decode mL_law.2.1 601 = .ok (.iload 4, 2) := by decide +kernel
theorem dL_603 : decode mL_law.2.1 603 = .ok (.iconst 2, 1) := by decide +kernel
theorem dL_604 : decode mL_law.2.1 604 = .ok (.iadd, 1) := by decide +kernel
theorem dL_605 : decode mL_law.2.1 605 = .ok (.iaload, 1) := by decide +kernel
theorem dL_606 : decode mL_law.2.1 606 = .ok (.invokevirtual 72, 3) := by decide +kernel
theorem dL_609 : decode mL_law.2.1 609 = .ok (.aload_n 2, 1) := by decide +kernel
theorem dL_610 : decode mL_law.2.1 610 = .ok (.aload_n 0, 1) := by decide +kernel
theorem dL_611 : decode mL_law.2.1 611 = .ok (.iload 4, 2) := by decide +kernel
theorem dL_613 : decode mL_law.2.1 613 = .ok (.iconst 1, 1) := by decide +kernel
theorem dL_614 : decode mL_law.2.1 614 = .ok (.iadd, 1) := by decide +kernel
theorem dL_615 : decode mL_law.2.1 615 = .ok (.iaload, 1) := by decide +kernel
theorem dL_616 : decode mL_law.2.1 616 = .ok (.aload_n 0, 1) := by decide +kernel
theorem dL_617 : decode mL_law.2.1 617 = .ok (.iload 4, 2) := by decide +kernel
theorem dL_619 : decode mL_law.2.1 619 = .ok (.iconst 2, 1) := by decide +kernel
theorem dL_620 : decode mL_law.2.1 620 = .ok (.iadd, 1) := by decide +kernel
theorem dL_621 : decode mL_law.2.1 621 = .ok (.iaload, 1) := by decide +kernel
theorem dL_622 : decode mL_law.2.1 622 = .ok (.invokevirtual 75, 3) := by decide +kernel
theorem dL_625 : decode mL_law.2.1 625 = .ok (.if_icmp .eq 722, 3) := by decide +kernel
theorem dL_628 : decode mL_law.2.1 628 = .ok (.iconst 0, 1) := by decide +kernel
theorem dL_629 : decode mL_law.2.1 629 = .ok (.ireturn, 1) := by decide +kernel
theorem lc_kick {n : Nat} {xs : Nat → Int32} {g : Nat} {i B : Int} {m : Mem} {Q : Int → Mem → Prop} (hn : n ≤ 3072) (hg : 1 ≤ g) (h0 : 0 ≤ i) (h1 : i + 6 ≤ n) (h : Inv m B) (hB : 0 ≤ B ∧ B ≤ 100000000) (k : ∀ m2 : Mem, Inv m2 (B + 300) → GoL (XL n xs) (g - 1) 72 mL_law Q 1347 (LL i) [] m2) : GoL (XL n xs) g 72 mL_law Q 593 (LL i) [] m := by
  have K0 : Duo mX11_kick mX12_kick [vi (sc xs (i + 1)), vi (sc xs (i + 2))] m (fun m2 => Inv m2 (B + 300)) := c_kick h hB (InR.r _) (InR.r _)
  obtain ⟨d1, Q1, hd1, E1, K1⟩ := K0
  refine gl_aload_n dL_593 rfl ?_
  refine gl_aload_n dL_594 rfl ?_
  refine gl_iload dL_595 rfl ?_
  refine gl_iconst dL_597 ?_
  refine gl_iadd dL_598 ?_
  refine gl_sload dL_599 (by omega) (by omega) hn ?_
  refine gl_aload_n dL_600 rfl ?_
  refine gl_iload dL_601 rfl ?_
  refine gl_iconst dL_603 ?_
  refine gl_iadd dL_604 ?_
  refine gl_sload dL_605 (by omega) (by omega) hn ?_
  refine gl_callR (as := [vi (sc xs (i + 1)), vi (sc xs (i + 2))]) (S := []) (b := 0) E1 (Or.inl rfl) dL_606 cv_L_72 rfl rfl ob_0 rfl (by omega) (by decide) (fun r1 m1 hq1 hr1 => ?_)
  obtain ⟨d2, Q2, hd2, E2, K2⟩ := K1 r1 m1 hq1
  refine gl_aload_n dL_609 rfl ?_
  refine gl_aload_n dL_610 rfl ?_
  refine gl_iload dL_611 rfl ?_
  refine gl_iconst dL_613 ?_
  refine gl_iadd dL_614 ?_
  refine gl_sload dL_615 (by omega) (by omega) hn ?_
  refine gl_aload_n dL_616 rfl ?_
  refine gl_iload dL_617 rfl ?_
  refine gl_iconst dL_619 ?_
  refine gl_iadd dL_620 ?_
  refine gl_sload dL_621 (by omega) (by omega) hn ?_
  refine gl_callR (as := [vi (sc xs (i + 1)), vi (sc xs (i + 2))]) (S := [vi r1]) (b := 214) E2 (Or.inl rfl) dL_622 cv_L_75 rfl rfl ob_214 rfl (by omega) (Nat.le_of_ble_eq_true rfl) (fun r2 m2 hq2 hr2 => ?_)
  obtain ⟨hrr, hI⟩ := K2 r2 m2 hq2
  refine gl_icmp_eq (tgt := 1347) dL_625 (by decide) hr1 hr2 (fun e => gl_weak (by omega) (k m2 hI)) (fun e => absurd hrr.symm e)
theorem dL_630 : decode mL_law.2.1 630 = .ok (.aload_n 1, 1) := by decide +kernel
theorem dL_631 : decode mL_law.2.1 631 = .ok (.aload_n 0, 1) := by decide +kernel
theorem dL_632 : decode mL_law.2.1 632 = .ok (.iload 4, 2) := by decide +kernel
theorem dL_634 : decode mL_law.2.1 634 = .ok (.iconst 1, 1) := by decide +kernel
theorem dL_635 : decode mL_law.2.1 635 = .ok (.iadd, 1) := by decide +kernel
theorem dL_636 : decode mL_law.2.1 636 = .ok (.iaload, 1) := by decide +kernel
theorem dL_637 : decode mL_law.2.1 637 = .ok (.invokevirtual 76, 3) := by decide +kernel
theorem dL_640 : decode mL_law.2.1 640 = .ok (.aload_n 2, 1) := by decide +kernel
theorem dL_641 : decode mL_law.2.1 641 = .ok (.aload_n 0, 1) := by decide +kernel
theorem dL_642 : decode mL_law.2.1 642 = .ok (.iload 4, 2) := by decide +kernel
theorem dL_644 : decode mL_law.2.1 644 = .ok (.iconst 1, 1) := by decide +kernel
theorem dL_645 : decode mL_law.2.1 645 = .ok (.iadd, 1) := by decide +kernel
theorem dL_646 : decode mL_law.2.1 646 = .ok (.iaload, 1) := by decide +kernel
theorem dL_647 : decode mL_law.2.1 647 = .ok (.invokevirtual 79, 3) := by decide +kernel
theorem dL_650 : decode mL_law.2.1 650 = .ok (.if_icmp .eq 697, 3) := by decide +kernel
theorem dL_653 : decode mL_law.2.1 653 = .ok (.iconst 0, 1) := by decide +kernel
theorem dL_654 : decode mL_law.2.1 654 = .ok (.ireturn, 1) := by decide +kernel
theorem lc_rest {n : Nat} {xs : Nat → Int32} {g : Nat} {i B : Int} {m : Mem} {Q : Int → Mem → Prop} (hn : n ≤ 3072) (hg : 1 ≤ g) (h0 : 0 ≤ i) (h1 : i + 6 ≤ n) (h : Inv m B) (hB : 0 ≤ B ∧ B ≤ 100000000) (k : ∀ m2 : Mem, Inv m2 (B + 300) → GoL (XL n xs) (g - 1) 72 mL_law Q 1347 (LL i) [] m2) : GoL (XL n xs) g 72 mL_law Q 630 (LL i) [] m := by
  have K0 : Duo mX11_rest mX12_rest [vi (sc xs (i + 1))] m (fun m2 => Inv m2 (B + 300)) := c_rest h hB (InR.r _)
  obtain ⟨d1, Q1, hd1, E1, K1⟩ := K0
  refine gl_aload_n dL_630 rfl ?_
  refine gl_aload_n dL_631 rfl ?_
  refine gl_iload dL_632 rfl ?_
  refine gl_iconst dL_634 ?_
  refine gl_iadd dL_635 ?_
  refine gl_sload dL_636 (by omega) (by omega) hn ?_
  refine gl_callR (as := [vi (sc xs (i + 1))]) (S := []) (b := 0) E1 (Or.inl rfl) dL_637 cv_L_76 rfl rfl ob_0 rfl (by omega) (by decide) (fun r1 m1 hq1 hr1 => ?_)
  obtain ⟨d2, Q2, hd2, E2, K2⟩ := K1 r1 m1 hq1
  refine gl_aload_n dL_640 rfl ?_
  refine gl_aload_n dL_641 rfl ?_
  refine gl_iload dL_642 rfl ?_
  refine gl_iconst dL_644 ?_
  refine gl_iadd dL_645 ?_
  refine gl_sload dL_646 (by omega) (by omega) hn ?_
  refine gl_callR (as := [vi (sc xs (i + 1))]) (S := [vi r1]) (b := 214) E2 (Or.inl rfl) dL_647 cv_L_79 rfl rfl ob_214 rfl (by omega) (Nat.le_of_ble_eq_true rfl) (fun r2 m2 hq2 hr2 => ?_)
  obtain ⟨hrr, hI⟩ := K2 r2 m2 hq2
  refine gl_icmp_eq (tgt := 1347) dL_650 (by decide) hr1 hr2 (fun e => gl_weak (by omega) (k m2 hI)) (fun e => absurd hrr.symm e)
theorem dL_655 : decode mL_law.2.1 655 = .ok (.aload_n 1, 1) := by decide +kernel
theorem dL_656 : decode mL_law.2.1 656 = .ok (.aload_n 0, 1) := by decide +kernel
theorem dL_657 : decode mL_law.2.1 657 = .ok (.iload 4, 2) := by decide +kernel
theorem dL_659 : decode mL_law.2.1 659 = .ok (.iconst 1, 1) := by decide +kernel
theorem dL_660 : decode mL_law.2.1 660 = .ok (.iadd, 1) := by decide +kernel
theorem dL_661 : decode mL_law.2.1 661 = .ok (.iaload, 1) := by decide +kernel
theorem dL_662 : decode mL_law.2.1 662 = .ok (.invokevirtual 80, 3) := by decide +kernel
theorem dL_665 : decode mL_law.2.1 665 = .ok (.aload_n 2, 1) := by decide +kernel
theorem dL_666 : decode mL_law.2.1 666 = .ok (.aload_n 0, 1) := by decide +kernel
theorem dL_667 : decode mL_law.2.1 667 = .ok (.iload 4, 2) := by decide +kernel
theorem dL_669 : decode mL_law.2.1 669 = .ok (.iconst 1, 1) := by decide +kernel
theorem dL_670 : decode mL_law.2.1 670 = .ok (.iadd, 1) := by decide +kernel
theorem dL_671 : decode mL_law.2.1 671 = .ok (.iaload, 1) := by decide +kernel
theorem dL_672 : decode mL_law.2.1 672 = .ok (.invokevirtual 83, 3) := by decide +kernel
theorem dL_675 : decode mL_law.2.1 675 = .ok (.if_icmp .eq 672, 3) := by decide +kernel
theorem dL_678 : decode mL_law.2.1 678 = .ok (.iconst 0, 1) := by decide +kernel
theorem dL_679 : decode mL_law.2.1 679 = .ok (.ireturn, 1) := by decide +kernel
theorem lc_hours {n : Nat} {xs : Nat → Int32} {g : Nat} {i B : Int} {m : Mem} {Q : Int → Mem → Prop} (hn : n ≤ 3072) (hg : 1 ≤ g) (h0 : 0 ≤ i) (h1 : i + 6 ≤ n) (h : Inv m B) (hB : 0 ≤ B ∧ B ≤ 100000000) (k : ∀ m2 : Mem, Inv m2 (B + 300) → GoL (XL n xs) (g - 1) 72 mL_law Q 1347 (LL i) [] m2) : GoL (XL n xs) g 72 mL_law Q 655 (LL i) [] m := by
  have K0 : Duo mX11_hours mX12_hours [vi (sc xs (i + 1))] m (fun m2 => Inv m2 (B + 300)) := c_hours h hB (InR.r _)
  obtain ⟨d1, Q1, hd1, E1, K1⟩ := K0
  refine gl_aload_n dL_655 rfl ?_
  refine gl_aload_n dL_656 rfl ?_
  refine gl_iload dL_657 rfl ?_
  refine gl_iconst dL_659 ?_
  refine gl_iadd dL_660 ?_
  refine gl_sload dL_661 (by omega) (by omega) hn ?_
  refine gl_callR (as := [vi (sc xs (i + 1))]) (S := []) (b := 0) E1 (Or.inl rfl) dL_662 cv_L_80 rfl rfl ob_0 rfl (by omega) (by decide) (fun r1 m1 hq1 hr1 => ?_)
  obtain ⟨d2, Q2, hd2, E2, K2⟩ := K1 r1 m1 hq1
  refine gl_aload_n dL_665 rfl ?_
  refine gl_aload_n dL_666 rfl ?_
  refine gl_iload dL_667 rfl ?_
  refine gl_iconst dL_669 ?_
  refine gl_iadd dL_670 ?_
  refine gl_sload dL_671 (by omega) (by omega) hn ?_
  refine gl_callR (as := [vi (sc xs (i + 1))]) (S := [vi r1]) (b := 214) E2 (Or.inl rfl) dL_672 cv_L_83 rfl rfl ob_214 rfl (by omega) (Nat.le_of_ble_eq_true rfl) (fun r2 m2 hq2 hr2 => ?_)
  obtain ⟨hrr, hI⟩ := K2 r2 m2 hq2
  refine gl_icmp_eq (tgt := 1347) dL_675 (by decide) hr1 hr2 (fun e => gl_weak (by omega) (k m2 hI)) (fun e => absurd hrr.symm e)
