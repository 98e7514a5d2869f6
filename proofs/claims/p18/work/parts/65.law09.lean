theorem d_L_law_638 : decode b_L_law 638 = .ok (.aload_n 0, 1) := by decide +kernel
theorem d_L_law_639 : decode b_L_law 639 = .ok (.iload 4, 2) := by decide +kernel
theorem d_L_law_641 : decode b_L_law 641 = .ok (.iconst 3, 1) := by decide +kernel
theorem d_L_law_642 : decode b_L_law 642 = .ok (.iadd, 1) := by decide +kernel
theorem d_L_law_643 : decode b_L_law 643 = .ok (.iaload, 1) := by decide +kernel
theorem d_L_law_644 : decode b_L_law 644 = .ok (.invokevirtual 98, 3) := by decide +kernel
theorem d_L_law_647 : decode b_L_law 647 = .ok (.pop, 1) := by decide +kernel
theorem d_L_law_648 : decode b_L_law 648 = .ok (.goto 266, 3) := by decide +kernel
theorem d_L_law_651 : decode b_L_law 651 = .ok (.aload_n 1, 1) := by decide +kernel
theorem d_L_law_652 : decode b_L_law 652 = .ok (.aload_n 0, 1) := by decide +kernel
theorem d_L_law_653 : decode b_L_law 653 = .ok (.iload 4, 2) := by decide +kernel
theorem d_L_law_655 : decode b_L_law 655 = .ok (.iconst 1, 1) := by decide +kernel
theorem d_L_law_656 : decode b_L_law 656 = .ok (.iadd, 1) := by decide +kernel
theorem d_L_law_657 : decode b_L_law 657 = .ok (.iaload, 1) := by decide +kernel
theorem d_L_law_658 : decode b_L_law 658 = .ok (.aload_n 0, 1) := by decide +kernel
theorem d_L_law_659 : decode b_L_law 659 = .ok (.iload 4, 2) := by decide +kernel
theorem d_L_law_661 : decode b_L_law 661 = .ok (.iconst 2, 1) := by decide +kernel
theorem d_L_law_662 : decode b_L_law 662 = .ok (.iadd, 1) := by decide +kernel
theorem d_L_law_663 : decode b_L_law 663 = .ok (.iaload, 1) := by decide +kernel
theorem d_L_law_664 : decode b_L_law 664 = .ok (.aload_n 0, 1) := by decide +kernel
theorem d_L_law_665 : decode b_L_law 665 = .ok (.iload 4, 2) := by decide +kernel
theorem d_L_law_667 : decode b_L_law 667 = .ok (.iconst 3, 1) := by decide +kernel
theorem d_L_law_668 : decode b_L_law 668 = .ok (.iadd, 1) := by decide +kernel
theorem d_L_law_669 : decode b_L_law 669 = .ok (.iaload, 1) := by decide +kernel
theorem d_L_law_670 : decode b_L_law 670 = .ok (.invokevirtual 99, 3) := by decide +kernel
theorem d_L_law_673 : decode b_L_law 673 = .ok (.pop, 1) := by decide +kernel
theorem d_L_law_674 : decode b_L_law 674 = .ok (.aload_n 2, 1) := by decide +kernel
theorem d_L_law_675 : decode b_L_law 675 = .ok (.aload_n 0, 1) := by decide +kernel
theorem d_L_law_676 : decode b_L_law 676 = .ok (.iload 4, 2) := by decide +kernel
theorem d_L_law_678 : decode b_L_law 678 = .ok (.iconst 1, 1) := by decide +kernel
theorem d_L_law_679 : decode b_L_law 679 = .ok (.iadd, 1) := by decide +kernel
theorem d_L_law_680 : decode b_L_law 680 = .ok (.iaload, 1) := by decide +kernel
theorem d_L_law_681 : decode b_L_law 681 = .ok (.aload_n 0, 1) := by decide +kernel
theorem d_L_law_682 : decode b_L_law 682 = .ok (.iload 4, 2) := by decide +kernel
theorem d_L_law_684 : decode b_L_law 684 = .ok (.iconst 2, 1) := by decide +kernel
theorem d_L_law_685 : decode b_L_law 685 = .ok (.iadd, 1) := by decide +kernel
theorem d_L_law_686 : decode b_L_law 686 = .ok (.iaload, 1) := by decide +kernel
theorem d_L_law_687 : decode b_L_law 687 = .ok (.aload_n 0, 1) := by decide +kernel
theorem d_L_law_688 : decode b_L_law 688 = .ok (.iload 4, 2) := by decide +kernel
theorem d_L_law_690 : decode b_L_law 690 = .ok (.iconst 3, 1) := by decide +kernel
theorem d_L_law_691 : decode b_L_law 691 = .ok (.iadd, 1) := by decide +kernel
theorem d_L_law_692 : decode b_L_law 692 = .ok (.iaload, 1) := by decide +kernel
theorem d_L_law_693 : decode b_L_law 693 = .ok (.invokevirtual 102, 3) := by decide +kernel
theorem d_L_law_696 : decode b_L_law 696 = .ok (.pop, 1) := by decide +kernel
theorem d_L_law_697 : decode b_L_law 697 = .ok (.goto 217, 3) := by decide +kernel
theorem d_L_law_700 : decode b_L_law 700 = .ok (.aload_n 1, 1) := by decide +kernel
theorem d_L_law_701 : decode b_L_law 701 = .ok (.aload_n 0, 1) := by decide +kernel
theorem d_L_law_702 : decode b_L_law 702 = .ok (.iload 4, 2) := by decide +kernel
theorem d_L_law_704 : decode b_L_law 704 = .ok (.iconst 1, 1) := by decide +kernel
theorem d_L_law_705 : decode b_L_law 705 = .ok (.iadd, 1) := by decide +kernel
