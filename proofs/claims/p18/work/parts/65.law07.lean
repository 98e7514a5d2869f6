theorem d_L_law_504 : decode b_L_law 504 = .ok (.iaload, 1) := by decide +kernel
theorem d_L_law_505 : decode b_L_law 505 = .ok (.aload_n 0, 1) := by decide +kernel
theorem d_L_law_506 : decode b_L_law 506 = .ok (.iload 4, 2) := by decide +kernel
theorem d_L_law_508 : decode b_L_law 508 = .ok (.iconst 2, 1) := by decide +kernel
theorem d_L_law_509 : decode b_L_law 509 = .ok (.iadd, 1) := by decide +kernel
theorem d_L_law_510 : decode b_L_law 510 = .ok (.iaload, 1) := by decide +kernel
theorem d_L_law_511 : decode b_L_law 511 = .ok (.aload_n 3, 1) := by decide +kernel
theorem d_L_law_512 : decode b_L_law 512 = .ok (.invokestatic 88, 3) := by decide +kernel
theorem d_L_law_515 : decode b_L_law 515 = .ok (.istore 5, 2) := by decide +kernel
theorem d_L_law_517 : decode b_L_law 517 = .ok (.aload_n 2, 1) := by decide +kernel
theorem d_L_law_518 : decode b_L_law 518 = .ok (.aload_n 0, 1) := by decide +kernel
theorem d_L_law_519 : decode b_L_law 519 = .ok (.iload 4, 2) := by decide +kernel
theorem d_L_law_521 : decode b_L_law 521 = .ok (.iconst 1, 1) := by decide +kernel
theorem d_L_law_522 : decode b_L_law 522 = .ok (.iadd, 1) := by decide +kernel
theorem d_L_law_523 : decode b_L_law 523 = .ok (.iaload, 1) := by decide +kernel
theorem d_L_law_524 : decode b_L_law 524 = .ok (.aload_n 0, 1) := by decide +kernel
theorem d_L_law_525 : decode b_L_law 525 = .ok (.iload 4, 2) := by decide +kernel
theorem d_L_law_527 : decode b_L_law 527 = .ok (.iconst 2, 1) := by decide +kernel
theorem d_L_law_528 : decode b_L_law 528 = .ok (.iadd, 1) := by decide +kernel
theorem d_L_law_529 : decode b_L_law 529 = .ok (.iaload, 1) := by decide +kernel
theorem d_L_law_530 : decode b_L_law 530 = .ok (.invokevirtual 90, 3) := by decide +kernel
theorem d_L_law_533 : decode b_L_law 533 = .ok (.istore 6, 2) := by decide +kernel
theorem d_L_law_535 : decode b_L_law 535 = .ok (.goto 379, 3) := by decide +kernel
theorem d_L_law_538 : decode b_L_law 538 = .ok (.aload_n 1, 1) := by decide +kernel
theorem d_L_law_539 : decode b_L_law 539 = .ok (.aload_n 0, 1) := by decide +kernel
theorem d_L_law_540 : decode b_L_law 540 = .ok (.iload 4, 2) := by decide +kernel
theorem d_L_law_542 : decode b_L_law 542 = .ok (.iconst 1, 1) := by decide +kernel
theorem d_L_law_543 : decode b_L_law 543 = .ok (.iadd, 1) := by decide +kernel
theorem d_L_law_544 : decode b_L_law 544 = .ok (.iaload, 1) := by decide +kernel
theorem d_L_law_545 : decode b_L_law 545 = .ok (.aload_n 0, 1) := by decide +kernel
theorem d_L_law_546 : decode b_L_law 546 = .ok (.iload 4, 2) := by decide +kernel
theorem d_L_law_548 : decode b_L_law 548 = .ok (.iconst 2, 1) := by decide +kernel
theorem d_L_law_549 : decode b_L_law 549 = .ok (.iadd, 1) := by decide +kernel
theorem d_L_law_550 : decode b_L_law 550 = .ok (.iaload, 1) := by decide +kernel
theorem d_L_law_551 : decode b_L_law 551 = .ok (.aload_n 0, 1) := by decide +kernel
theorem d_L_law_552 : decode b_L_law 552 = .ok (.iload 4, 2) := by decide +kernel
theorem d_L_law_554 : decode b_L_law 554 = .ok (.iconst 3, 1) := by decide +kernel
theorem d_L_law_555 : decode b_L_law 555 = .ok (.iadd, 1) := by decide +kernel
theorem d_L_law_556 : decode b_L_law 556 = .ok (.iaload, 1) := by decide +kernel
theorem d_L_law_557 : decode b_L_law 557 = .ok (.aload_n 0, 1) := by decide +kernel
theorem d_L_law_558 : decode b_L_law 558 = .ok (.iload 4, 2) := by decide +kernel
theorem d_L_law_560 : decode b_L_law 560 = .ok (.iconst 4, 1) := by decide +kernel
theorem d_L_law_561 : decode b_L_law 561 = .ok (.iadd, 1) := by decide +kernel
theorem d_L_law_562 : decode b_L_law 562 = .ok (.iaload, 1) := by decide +kernel
theorem d_L_law_563 : decode b_L_law 563 = .ok (.aload_n 3, 1) := by decide +kernel
theorem d_L_law_564 : decode b_L_law 564 = .ok (.invokestatic 91, 3) := by decide +kernel
theorem d_L_law_567 : decode b_L_law 567 = .ok (.istore 5, 2) := by decide +kernel
theorem d_L_law_569 : decode b_L_law 569 = .ok (.aload_n 2, 1) := by decide +kernel
theorem d_L_law_570 : decode b_L_law 570 = .ok (.aload_n 0, 1) := by decide +kernel
theorem d_L_law_571 : decode b_L_law 571 = .ok (.iload 4, 2) := by decide +kernel
