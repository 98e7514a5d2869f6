theorem d_L_law_590 : decode b_L_law 590 = .ok (.aload_n 0, 1) := by decide +kernel
theorem d_L_law_591 : decode b_L_law 591 = .ok (.iload 4, 2) := by decide +kernel
theorem d_L_law_593 : decode b_L_law 593 = .ok (.iconst 3, 1) := by decide +kernel
theorem d_L_law_594 : decode b_L_law 594 = .ok (.iadd, 1) := by decide +kernel
theorem d_L_law_595 : decode b_L_law 595 = .ok (.iaload, 1) := by decide +kernel
theorem d_L_law_596 : decode b_L_law 596 = .ok (.aload_n 0, 1) := by decide +kernel
theorem d_L_law_597 : decode b_L_law 597 = .ok (.iload 4, 2) := by decide +kernel
theorem d_L_law_599 : decode b_L_law 599 = .ok (.iconst 4, 1) := by decide +kernel
theorem d_L_law_600 : decode b_L_law 600 = .ok (.iadd, 1) := by decide +kernel
theorem d_L_law_601 : decode b_L_law 601 = .ok (.iaload, 1) := by decide +kernel
theorem d_L_law_602 : decode b_L_law 602 = .ok (.invokevirtual 91, 3) := by decide +kernel
theorem d_L_law_605 : decode b_L_law 605 = .ok (.istore 6, 2) := by decide +kernel
theorem d_L_law_607 : decode b_L_law 607 = .ok (.aload_n 2, 1) := by decide +kernel
theorem d_L_law_608 : decode b_L_law 608 = .ok (.invokevirtual 68, 3) := by decide +kernel
theorem d_L_law_611 : decode b_L_law 611 = .ok (.iload 5, 2) := by decide +kernel
theorem d_L_law_613 : decode b_L_law 613 = .ok (.if_icmp .eq 5, 3) := by decide +kernel
theorem d_L_law_616 : decode b_L_law 616 = .ok (.iconst 0, 1) := by decide +kernel
theorem d_L_law_617 : decode b_L_law 617 = .ok (.ireturn, 1) := by decide +kernel
theorem d_L_law_618 : decode b_L_law 618 = .ok (.iload 5, 2) := by decide +kernel
theorem d_L_law_620 : decode b_L_law 620 = .ok (.ifCond .ne 15, 3) := by decide +kernel
theorem d_L_law_623 : decode b_L_law 623 = .ok (.aload_n 3, 1) := by decide +kernel
theorem d_L_law_624 : decode b_L_law 624 = .ok (.iconst 0, 1) := by decide +kernel
theorem d_L_law_625 : decode b_L_law 625 = .ok (.laload, 1) := by decide +kernel
theorem d_L_law_626 : decode b_L_law 626 = .ok (.iload 6, 2) := by decide +kernel
theorem d_L_law_628 : decode b_L_law 628 = .ok (.i2l, 1) := by decide +kernel
theorem d_L_law_629 : decode b_L_law 629 = .ok (.lcmp, 1) := by decide +kernel
theorem d_L_law_630 : decode b_L_law 630 = .ok (.ifCond .eq 5, 3) := by decide +kernel
theorem d_L_law_633 : decode b_L_law 633 = .ok (.iconst 0, 1) := by decide +kernel
theorem d_L_law_634 : decode b_L_law 634 = .ok (.ireturn, 1) := by decide +kernel
theorem d_L_law_635 : decode b_L_law 635 = .ok (.goto 587, 3) := by decide +kernel
theorem d_L_law_638 : decode b_L_law 638 = .ok (.aload_n 1, 1) := by decide +kernel
theorem d_L_law_639 : decode b_L_law 639 = .ok (.aload_n 0, 1) := by decide +kernel
theorem d_L_law_640 : decode b_L_law 640 = .ok (.iload 4, 2) := by decide +kernel
theorem d_L_law_642 : decode b_L_law 642 = .ok (.iconst 1, 1) := by decide +kernel
theorem d_L_law_643 : decode b_L_law 643 = .ok (.iadd, 1) := by decide +kernel
theorem d_L_law_644 : decode b_L_law 644 = .ok (.iaload, 1) := by decide +kernel
theorem d_L_law_645 : decode b_L_law 645 = .ok (.aload_n 0, 1) := by decide +kernel
theorem d_L_law_646 : decode b_L_law 646 = .ok (.iload 4, 2) := by decide +kernel
theorem d_L_law_648 : decode b_L_law 648 = .ok (.iconst 2, 1) := by decide +kernel
theorem d_L_law_649 : decode b_L_law 649 = .ok (.iadd, 1) := by decide +kernel
theorem d_L_law_650 : decode b_L_law 650 = .ok (.iaload, 1) := by decide +kernel
theorem d_L_law_651 : decode b_L_law 651 = .ok (.aload_n 3, 1) := by decide +kernel
theorem d_L_law_652 : decode b_L_law 652 = .ok (.invokestatic 92, 3) := by decide +kernel
theorem d_L_law_655 : decode b_L_law 655 = .ok (.istore 5, 2) := by decide +kernel
theorem d_L_law_657 : decode b_L_law 657 = .ok (.aload_n 2, 1) := by decide +kernel
theorem d_L_law_658 : decode b_L_law 658 = .ok (.aload_n 0, 1) := by decide +kernel
theorem d_L_law_659 : decode b_L_law 659 = .ok (.iload 4, 2) := by decide +kernel
theorem d_L_law_661 : decode b_L_law 661 = .ok (.iconst 1, 1) := by decide +kernel
theorem d_L_law_662 : decode b_L_law 662 = .ok (.iadd, 1) := by decide +kernel
theorem d_L_law_663 : decode b_L_law 663 = .ok (.iaload, 1) := by decide +kernel
