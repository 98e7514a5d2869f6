theorem d_L_law_573 : decode b_L_law 573 = .ok (.iconst 1, 1) := by decide +kernel
theorem d_L_law_574 : decode b_L_law 574 = .ok (.iadd, 1) := by decide +kernel
theorem d_L_law_575 : decode b_L_law 575 = .ok (.iaload, 1) := by decide +kernel
theorem d_L_law_576 : decode b_L_law 576 = .ok (.aload_n 0, 1) := by decide +kernel
theorem d_L_law_577 : decode b_L_law 577 = .ok (.iload 4, 2) := by decide +kernel
theorem d_L_law_579 : decode b_L_law 579 = .ok (.iconst 2, 1) := by decide +kernel
theorem d_L_law_580 : decode b_L_law 580 = .ok (.iadd, 1) := by decide +kernel
theorem d_L_law_581 : decode b_L_law 581 = .ok (.iaload, 1) := by decide +kernel
theorem d_L_law_582 : decode b_L_law 582 = .ok (.aload_n 0, 1) := by decide +kernel
theorem d_L_law_583 : decode b_L_law 583 = .ok (.iload 4, 2) := by decide +kernel
theorem d_L_law_585 : decode b_L_law 585 = .ok (.iconst 3, 1) := by decide +kernel
theorem d_L_law_586 : decode b_L_law 586 = .ok (.iadd, 1) := by decide +kernel
theorem d_L_law_587 : decode b_L_law 587 = .ok (.iaload, 1) := by decide +kernel
theorem d_L_law_588 : decode b_L_law 588 = .ok (.aload_n 0, 1) := by decide +kernel
theorem d_L_law_589 : decode b_L_law 589 = .ok (.iload 4, 2) := by decide +kernel
theorem d_L_law_591 : decode b_L_law 591 = .ok (.iconst 4, 1) := by decide +kernel
theorem d_L_law_592 : decode b_L_law 592 = .ok (.iadd, 1) := by decide +kernel
theorem d_L_law_593 : decode b_L_law 593 = .ok (.iaload, 1) := by decide +kernel
theorem d_L_law_594 : decode b_L_law 594 = .ok (.invokevirtual 93, 3) := by decide +kernel
theorem d_L_law_597 : decode b_L_law 597 = .ok (.istore 6, 2) := by decide +kernel
theorem d_L_law_599 : decode b_L_law 599 = .ok (.goto 315, 3) := by decide +kernel
theorem d_L_law_602 : decode b_L_law 602 = .ok (.aload_n 1, 1) := by decide +kernel
theorem d_L_law_603 : decode b_L_law 603 = .ok (.aload_n 0, 1) := by decide +kernel
theorem d_L_law_604 : decode b_L_law 604 = .ok (.iload 4, 2) := by decide +kernel
theorem d_L_law_606 : decode b_L_law 606 = .ok (.iconst 1, 1) := by decide +kernel
theorem d_L_law_607 : decode b_L_law 607 = .ok (.iadd, 1) := by decide +kernel
theorem d_L_law_608 : decode b_L_law 608 = .ok (.iaload, 1) := by decide +kernel
theorem d_L_law_609 : decode b_L_law 609 = .ok (.aload_n 0, 1) := by decide +kernel
theorem d_L_law_610 : decode b_L_law 610 = .ok (.iload 4, 2) := by decide +kernel
theorem d_L_law_612 : decode b_L_law 612 = .ok (.iconst 2, 1) := by decide +kernel
theorem d_L_law_613 : decode b_L_law 613 = .ok (.iadd, 1) := by decide +kernel
theorem d_L_law_614 : decode b_L_law 614 = .ok (.iaload, 1) := by decide +kernel
theorem d_L_law_615 : decode b_L_law 615 = .ok (.aload_n 0, 1) := by decide +kernel
theorem d_L_law_616 : decode b_L_law 616 = .ok (.iload 4, 2) := by decide +kernel
theorem d_L_law_618 : decode b_L_law 618 = .ok (.iconst 3, 1) := by decide +kernel
theorem d_L_law_619 : decode b_L_law 619 = .ok (.iadd, 1) := by decide +kernel
theorem d_L_law_620 : decode b_L_law 620 = .ok (.iaload, 1) := by decide +kernel
theorem d_L_law_621 : decode b_L_law 621 = .ok (.invokevirtual 94, 3) := by decide +kernel
theorem d_L_law_624 : decode b_L_law 624 = .ok (.pop, 1) := by decide +kernel
theorem d_L_law_625 : decode b_L_law 625 = .ok (.aload_n 2, 1) := by decide +kernel
theorem d_L_law_626 : decode b_L_law 626 = .ok (.aload_n 0, 1) := by decide +kernel
theorem d_L_law_627 : decode b_L_law 627 = .ok (.iload 4, 2) := by decide +kernel
theorem d_L_law_629 : decode b_L_law 629 = .ok (.iconst 1, 1) := by decide +kernel
theorem d_L_law_630 : decode b_L_law 630 = .ok (.iadd, 1) := by decide +kernel
theorem d_L_law_631 : decode b_L_law 631 = .ok (.iaload, 1) := by decide +kernel
theorem d_L_law_632 : decode b_L_law 632 = .ok (.aload_n 0, 1) := by decide +kernel
theorem d_L_law_633 : decode b_L_law 633 = .ok (.iload 4, 2) := by decide +kernel
theorem d_L_law_635 : decode b_L_law 635 = .ok (.iconst 2, 1) := by decide +kernel
theorem d_L_law_636 : decode b_L_law 636 = .ok (.iadd, 1) := by decide +kernel
theorem d_L_law_637 : decode b_L_law 637 = .ok (.iaload, 1) := by decide +kernel
