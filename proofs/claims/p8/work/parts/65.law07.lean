theorem d_L_law_506 : decode b_L_law 506 = .ok (.iload 5, 2) := by decide +kernel
theorem d_L_law_508 : decode b_L_law 508 = .ok (.ifCond .ne 15, 3) := by decide +kernel
theorem d_L_law_511 : decode b_L_law 511 = .ok (.aload_n 3, 1) := by decide +kernel
theorem d_L_law_512 : decode b_L_law 512 = .ok (.iconst 0, 1) := by decide +kernel
theorem d_L_law_513 : decode b_L_law 513 = .ok (.laload, 1) := by decide +kernel
theorem d_L_law_514 : decode b_L_law 514 = .ok (.iload 6, 2) := by decide +kernel
theorem d_L_law_516 : decode b_L_law 516 = .ok (.i2l, 1) := by decide +kernel
theorem d_L_law_517 : decode b_L_law 517 = .ok (.lcmp, 1) := by decide +kernel
theorem d_L_law_518 : decode b_L_law 518 = .ok (.ifCond .eq 5, 3) := by decide +kernel
theorem d_L_law_521 : decode b_L_law 521 = .ok (.iconst 0, 1) := by decide +kernel
theorem d_L_law_522 : decode b_L_law 522 = .ok (.ireturn, 1) := by decide +kernel
theorem d_L_law_523 : decode b_L_law 523 = .ok (.goto 419, 3) := by decide +kernel
theorem d_L_law_526 : decode b_L_law 526 = .ok (.aload_n 1, 1) := by decide +kernel
theorem d_L_law_527 : decode b_L_law 527 = .ok (.aload_n 0, 1) := by decide +kernel
theorem d_L_law_528 : decode b_L_law 528 = .ok (.iload 4, 2) := by decide +kernel
theorem d_L_law_530 : decode b_L_law 530 = .ok (.iconst 1, 1) := by decide +kernel
theorem d_L_law_531 : decode b_L_law 531 = .ok (.iadd, 1) := by decide +kernel
theorem d_L_law_532 : decode b_L_law 532 = .ok (.iaload, 1) := by decide +kernel
theorem d_L_law_533 : decode b_L_law 533 = .ok (.aload_n 0, 1) := by decide +kernel
theorem d_L_law_534 : decode b_L_law 534 = .ok (.iload 4, 2) := by decide +kernel
theorem d_L_law_536 : decode b_L_law 536 = .ok (.iconst 2, 1) := by decide +kernel
theorem d_L_law_537 : decode b_L_law 537 = .ok (.iadd, 1) := by decide +kernel
theorem d_L_law_538 : decode b_L_law 538 = .ok (.iaload, 1) := by decide +kernel
theorem d_L_law_539 : decode b_L_law 539 = .ok (.aload_n 3, 1) := by decide +kernel
theorem d_L_law_540 : decode b_L_law 540 = .ok (.invokestatic 92, 3) := by decide +kernel
theorem d_L_law_543 : decode b_L_law 543 = .ok (.istore 5, 2) := by decide +kernel
theorem d_L_law_545 : decode b_L_law 545 = .ok (.aload_n 2, 1) := by decide +kernel
theorem d_L_law_546 : decode b_L_law 546 = .ok (.aload_n 0, 1) := by decide +kernel
theorem d_L_law_547 : decode b_L_law 547 = .ok (.iload 4, 2) := by decide +kernel
theorem d_L_law_549 : decode b_L_law 549 = .ok (.iconst 1, 1) := by decide +kernel
theorem d_L_law_550 : decode b_L_law 550 = .ok (.iadd, 1) := by decide +kernel
theorem d_L_law_551 : decode b_L_law 551 = .ok (.iaload, 1) := by decide +kernel
theorem d_L_law_552 : decode b_L_law 552 = .ok (.aload_n 0, 1) := by decide +kernel
theorem d_L_law_553 : decode b_L_law 553 = .ok (.iload 4, 2) := by decide +kernel
theorem d_L_law_555 : decode b_L_law 555 = .ok (.iconst 2, 1) := by decide +kernel
theorem d_L_law_556 : decode b_L_law 556 = .ok (.iadd, 1) := by decide +kernel
theorem d_L_law_557 : decode b_L_law 557 = .ok (.iaload, 1) := by decide +kernel
theorem d_L_law_558 : decode b_L_law 558 = .ok (.invokevirtual 94, 3) := by decide +kernel
theorem d_L_law_561 : decode b_L_law 561 = .ok (.istore 6, 2) := by decide +kernel
theorem d_L_law_563 : decode b_L_law 563 = .ok (.goto 379, 3) := by decide +kernel
theorem d_L_law_566 : decode b_L_law 566 = .ok (.aload_n 1, 1) := by decide +kernel
theorem d_L_law_567 : decode b_L_law 567 = .ok (.aload_n 0, 1) := by decide +kernel
theorem d_L_law_568 : decode b_L_law 568 = .ok (.iload 4, 2) := by decide +kernel
theorem d_L_law_570 : decode b_L_law 570 = .ok (.iconst 1, 1) := by decide +kernel
theorem d_L_law_571 : decode b_L_law 571 = .ok (.iadd, 1) := by decide +kernel
theorem d_L_law_572 : decode b_L_law 572 = .ok (.iaload, 1) := by decide +kernel
theorem d_L_law_573 : decode b_L_law 573 = .ok (.aload_n 0, 1) := by decide +kernel
theorem d_L_law_574 : decode b_L_law 574 = .ok (.iload 4, 2) := by decide +kernel
theorem d_L_law_576 : decode b_L_law 576 = .ok (.iconst 2, 1) := by decide +kernel
theorem d_L_law_577 : decode b_L_law 577 = .ok (.iadd, 1) := by decide +kernel
