theorem d_L_law_578 : decode b_L_law 578 = .ok (.iaload, 1) := by decide +kernel
theorem d_L_law_579 : decode b_L_law 579 = .ok (.aload_n 0, 1) := by decide +kernel
theorem d_L_law_580 : decode b_L_law 580 = .ok (.iload 4, 2) := by decide +kernel
theorem d_L_law_582 : decode b_L_law 582 = .ok (.iconst 3, 1) := by decide +kernel
theorem d_L_law_583 : decode b_L_law 583 = .ok (.iadd, 1) := by decide +kernel
theorem d_L_law_584 : decode b_L_law 584 = .ok (.iaload, 1) := by decide +kernel
theorem d_L_law_585 : decode b_L_law 585 = .ok (.aload_n 0, 1) := by decide +kernel
theorem d_L_law_586 : decode b_L_law 586 = .ok (.iload 4, 2) := by decide +kernel
theorem d_L_law_588 : decode b_L_law 588 = .ok (.iconst 4, 1) := by decide +kernel
theorem d_L_law_589 : decode b_L_law 589 = .ok (.iadd, 1) := by decide +kernel
theorem d_L_law_590 : decode b_L_law 590 = .ok (.iaload, 1) := by decide +kernel
theorem d_L_law_591 : decode b_L_law 591 = .ok (.aload_n 3, 1) := by decide +kernel
theorem d_L_law_592 : decode b_L_law 592 = .ok (.invokestatic 95, 3) := by decide +kernel
theorem d_L_law_595 : decode b_L_law 595 = .ok (.istore 5, 2) := by decide +kernel
theorem d_L_law_597 : decode b_L_law 597 = .ok (.aload_n 2, 1) := by decide +kernel
theorem d_L_law_598 : decode b_L_law 598 = .ok (.aload_n 0, 1) := by decide +kernel
theorem d_L_law_599 : decode b_L_law 599 = .ok (.iload 4, 2) := by decide +kernel
theorem d_L_law_601 : decode b_L_law 601 = .ok (.iconst 1, 1) := by decide +kernel
theorem d_L_law_602 : decode b_L_law 602 = .ok (.iadd, 1) := by decide +kernel
theorem d_L_law_603 : decode b_L_law 603 = .ok (.iaload, 1) := by decide +kernel
theorem d_L_law_604 : decode b_L_law 604 = .ok (.aload_n 0, 1) := by decide +kernel
theorem d_L_law_605 : decode b_L_law 605 = .ok (.iload 4, 2) := by decide +kernel
theorem d_L_law_607 : decode b_L_law 607 = .ok (.iconst 2, 1) := by decide +kernel
theorem d_L_law_608 : decode b_L_law 608 = .ok (.iadd, 1) := by decide +kernel
theorem d_L_law_609 : decode b_L_law 609 = .ok (.iaload, 1) := by decide +kernel
theorem d_L_law_610 : decode b_L_law 610 = .ok (.aload_n 0, 1) := by decide +kernel
theorem d_L_law_611 : decode b_L_law 611 = .ok (.iload 4, 2) := by decide +kernel
theorem d_L_law_613 : decode b_L_law 613 = .ok (.iconst 3, 1) := by decide +kernel
theorem d_L_law_614 : decode b_L_law 614 = .ok (.iadd, 1) := by decide +kernel
theorem d_L_law_615 : decode b_L_law 615 = .ok (.iaload, 1) := by decide +kernel
theorem d_L_law_616 : decode b_L_law 616 = .ok (.aload_n 0, 1) := by decide +kernel
theorem d_L_law_617 : decode b_L_law 617 = .ok (.iload 4, 2) := by decide +kernel
theorem d_L_law_619 : decode b_L_law 619 = .ok (.iconst 4, 1) := by decide +kernel
theorem d_L_law_620 : decode b_L_law 620 = .ok (.iadd, 1) := by decide +kernel
theorem d_L_law_621 : decode b_L_law 621 = .ok (.iaload, 1) := by decide +kernel
theorem d_L_law_622 : decode b_L_law 622 = .ok (.invokevirtual 97, 3) := by decide +kernel
theorem d_L_law_625 : decode b_L_law 625 = .ok (.istore 6, 2) := by decide +kernel
theorem d_L_law_627 : decode b_L_law 627 = .ok (.goto 315, 3) := by decide +kernel
theorem d_L_law_630 : decode b_L_law 630 = .ok (.aload_n 1, 1) := by decide +kernel
theorem d_L_law_631 : decode b_L_law 631 = .ok (.aload_n 0, 1) := by decide +kernel
theorem d_L_law_632 : decode b_L_law 632 = .ok (.iload 4, 2) := by decide +kernel
theorem d_L_law_634 : decode b_L_law 634 = .ok (.iconst 1, 1) := by decide +kernel
theorem d_L_law_635 : decode b_L_law 635 = .ok (.iadd, 1) := by decide +kernel
theorem d_L_law_636 : decode b_L_law 636 = .ok (.iaload, 1) := by decide +kernel
theorem d_L_law_637 : decode b_L_law 637 = .ok (.aload_n 0, 1) := by decide +kernel
theorem d_L_law_638 : decode b_L_law 638 = .ok (.iload 4, 2) := by decide +kernel
theorem d_L_law_640 : decode b_L_law 640 = .ok (.iconst 2, 1) := by decide +kernel
theorem d_L_law_641 : decode b_L_law 641 = .ok (.iadd, 1) := by decide +kernel
theorem d_L_law_642 : decode b_L_law 642 = .ok (.iaload, 1) := by decide +kernel
theorem d_L_law_643 : decode b_L_law 643 = .ok (.aload_n 0, 1) := by decide +kernel
