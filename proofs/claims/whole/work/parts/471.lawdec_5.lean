theorem d_law_509 : decode code 509 = .ok (.aload_n 3, 1) := by decide +kernel
theorem d_law_510 : decode code 510 = .ok (.iconst 0, 1) := by decide +kernel
theorem d_law_511 : decode code 511 = .ok (.laload, 1) := by decide +kernel
theorem d_law_512 : decode code 512 = .ok (.iload 6, 2) := by decide +kernel
theorem d_law_514 : decode code 514 = .ok (.i2l, 1) := by decide +kernel
theorem d_law_515 : decode code 515 = .ok (.lcmp, 1) := by decide +kernel
theorem d_law_516 : decode code 516 = .ok (.ifCond .eq 5, 3) := by decide +kernel
theorem d_law_519 : decode code 519 = .ok (.iconst 0, 1) := by decide +kernel
theorem d_law_520 : decode code 520 = .ok (.ireturn, 1) := by decide +kernel
theorem d_law_521 : decode code 521 = .ok (.goto 293, 3) := by decide +kernel
theorem d_law_524 : decode code 524 = .ok (.aload_n 1, 1) := by decide +kernel
theorem d_law_525 : decode code 525 = .ok (.aload_n 0, 1) := by decide +kernel
theorem d_law_526 : decode code 526 = .ok (.iload 4, 2) := by decide +kernel
theorem d_law_528 : decode code 528 = .ok (.iconst 1, 1) := by decide +kernel
theorem d_law_529 : decode code 529 = .ok (.iadd, 1) := by decide +kernel
theorem d_law_530 : decode code 530 = .ok (.iaload, 1) := by decide +kernel
theorem d_law_531 : decode code 531 = .ok (.i2l, 1) := by decide +kernel
theorem d_law_532 : decode code 532 = .ok (.bipush 32, 2) := by decide +kernel
theorem d_law_534 : decode code 534 = .ok (.lshl, 1) := by decide +kernel
theorem d_law_535 : decode code 535 = .ok (.aload_n 0, 1) := by decide +kernel
theorem d_law_536 : decode code 536 = .ok (.iload 4, 2) := by decide +kernel
theorem d_law_538 : decode code 538 = .ok (.iconst 2, 1) := by decide +kernel
theorem d_law_539 : decode code 539 = .ok (.iadd, 1) := by decide +kernel
theorem d_law_540 : decode code 540 = .ok (.iaload, 1) := by decide +kernel
theorem d_law_541 : decode code 541 = .ok (.i2l, 1) := by decide +kernel
theorem d_law_542 : decode code 542 = .ok (.ldc2_w 40, 3) := by decide +kernel
theorem d_law_545 : decode code 545 = .ok (.land, 1) := by decide +kernel
theorem d_law_546 : decode code 546 = .ok (.lor, 1) := by decide +kernel
theorem d_law_547 : decode code 547 = .ok (.invokevirtual 80, 3) := by decide +kernel
theorem d_law_550 : decode code 550 = .ok (.aload_n 2, 1) := by decide +kernel
theorem d_law_551 : decode code 551 = .ok (.aload_n 0, 1) := by decide +kernel
theorem d_law_552 : decode code 552 = .ok (.iload 4, 2) := by decide +kernel
theorem d_law_554 : decode code 554 = .ok (.iconst 1, 1) := by decide +kernel
theorem d_law_555 : decode code 555 = .ok (.iadd, 1) := by decide +kernel
theorem d_law_556 : decode code 556 = .ok (.iaload, 1) := by decide +kernel
theorem d_law_557 : decode code 557 = .ok (.i2l, 1) := by decide +kernel
theorem d_law_558 : decode code 558 = .ok (.bipush 32, 2) := by decide +kernel
theorem d_law_560 : decode code 560 = .ok (.lshl, 1) := by decide +kernel
theorem d_law_561 : decode code 561 = .ok (.aload_n 0, 1) := by decide +kernel
theorem d_law_562 : decode code 562 = .ok (.iload 4, 2) := by decide +kernel
theorem d_law_564 : decode code 564 = .ok (.iconst 2, 1) := by decide +kernel
theorem d_law_565 : decode code 565 = .ok (.iadd, 1) := by decide +kernel
theorem d_law_566 : decode code 566 = .ok (.iaload, 1) := by decide +kernel
theorem d_law_567 : decode code 567 = .ok (.i2l, 1) := by decide +kernel
theorem d_law_568 : decode code 568 = .ok (.ldc2_w 40, 3) := by decide +kernel
theorem d_law_571 : decode code 571 = .ok (.land, 1) := by decide +kernel
theorem d_law_572 : decode code 572 = .ok (.lor, 1) := by decide +kernel
theorem d_law_573 : decode code 573 = .ok (.invokevirtual 83, 3) := by decide +kernel
theorem d_law_576 : decode code 576 = .ok (.if_icmp .eq 238, 3) := by decide +kernel
theorem d_law_579 : decode code 579 = .ok (.iconst 0, 1) := by decide +kernel
theorem d_law_580 : decode code 580 = .ok (.ireturn, 1) := by decide +kernel
theorem d_law_581 : decode code 581 = .ok (.aload_n 1, 1) := by decide +kernel
theorem d_law_582 : decode code 582 = .ok (.aload_n 0, 1) := by decide +kernel
theorem d_law_583 : decode code 583 = .ok (.iload 4, 2) := by decide +kernel
theorem d_law_585 : decode code 585 = .ok (.iconst 1, 1) := by decide +kernel
theorem d_law_586 : decode code 586 = .ok (.iadd, 1) := by decide +kernel
theorem d_law_587 : decode code 587 = .ok (.iaload, 1) := by decide +kernel
theorem d_law_588 : decode code 588 = .ok (.aload_n 0, 1) := by decide +kernel
theorem d_law_589 : decode code 589 = .ok (.iload 4, 2) := by decide +kernel
theorem d_law_591 : decode code 591 = .ok (.iconst 2, 1) := by decide +kernel
