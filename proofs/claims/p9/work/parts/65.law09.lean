theorem d_L_law_644 : decode b_L_law 644 = .ok (.iload 4, 2) := by decide +kernel
theorem d_L_law_646 : decode b_L_law 646 = .ok (.iconst 3, 1) := by decide +kernel
theorem d_L_law_647 : decode b_L_law 647 = .ok (.iadd, 1) := by decide +kernel
theorem d_L_law_648 : decode b_L_law 648 = .ok (.iaload, 1) := by decide +kernel
theorem d_L_law_649 : decode b_L_law 649 = .ok (.invokevirtual 98, 3) := by decide +kernel
theorem d_L_law_652 : decode b_L_law 652 = .ok (.pop, 1) := by decide +kernel
theorem d_L_law_653 : decode b_L_law 653 = .ok (.aload_n 2, 1) := by decide +kernel
theorem d_L_law_654 : decode b_L_law 654 = .ok (.aload_n 0, 1) := by decide +kernel
theorem d_L_law_655 : decode b_L_law 655 = .ok (.iload 4, 2) := by decide +kernel
theorem d_L_law_657 : decode b_L_law 657 = .ok (.iconst 1, 1) := by decide +kernel
theorem d_L_law_658 : decode b_L_law 658 = .ok (.iadd, 1) := by decide +kernel
theorem d_L_law_659 : decode b_L_law 659 = .ok (.iaload, 1) := by decide +kernel
theorem d_L_law_660 : decode b_L_law 660 = .ok (.aload_n 0, 1) := by decide +kernel
theorem d_L_law_661 : decode b_L_law 661 = .ok (.iload 4, 2) := by decide +kernel
theorem d_L_law_663 : decode b_L_law 663 = .ok (.iconst 2, 1) := by decide +kernel
theorem d_L_law_664 : decode b_L_law 664 = .ok (.iadd, 1) := by decide +kernel
theorem d_L_law_665 : decode b_L_law 665 = .ok (.iaload, 1) := by decide +kernel
theorem d_L_law_666 : decode b_L_law 666 = .ok (.aload_n 0, 1) := by decide +kernel
theorem d_L_law_667 : decode b_L_law 667 = .ok (.iload 4, 2) := by decide +kernel
theorem d_L_law_669 : decode b_L_law 669 = .ok (.iconst 3, 1) := by decide +kernel
theorem d_L_law_670 : decode b_L_law 670 = .ok (.iadd, 1) := by decide +kernel
theorem d_L_law_671 : decode b_L_law 671 = .ok (.iaload, 1) := by decide +kernel
theorem d_L_law_672 : decode b_L_law 672 = .ok (.invokevirtual 102, 3) := by decide +kernel
theorem d_L_law_675 : decode b_L_law 675 = .ok (.pop, 1) := by decide +kernel
theorem d_L_law_676 : decode b_L_law 676 = .ok (.goto 266, 3) := by decide +kernel
theorem d_L_law_679 : decode b_L_law 679 = .ok (.aload_n 1, 1) := by decide +kernel
theorem d_L_law_680 : decode b_L_law 680 = .ok (.aload_n 0, 1) := by decide +kernel
theorem d_L_law_681 : decode b_L_law 681 = .ok (.iload 4, 2) := by decide +kernel
theorem d_L_law_683 : decode b_L_law 683 = .ok (.iconst 1, 1) := by decide +kernel
theorem d_L_law_684 : decode b_L_law 684 = .ok (.iadd, 1) := by decide +kernel
theorem d_L_law_685 : decode b_L_law 685 = .ok (.iaload, 1) := by decide +kernel
theorem d_L_law_686 : decode b_L_law 686 = .ok (.aload_n 0, 1) := by decide +kernel
theorem d_L_law_687 : decode b_L_law 687 = .ok (.iload 4, 2) := by decide +kernel
theorem d_L_law_689 : decode b_L_law 689 = .ok (.iconst 2, 1) := by decide +kernel
theorem d_L_law_690 : decode b_L_law 690 = .ok (.iadd, 1) := by decide +kernel
theorem d_L_law_691 : decode b_L_law 691 = .ok (.iaload, 1) := by decide +kernel
theorem d_L_law_692 : decode b_L_law 692 = .ok (.aload_n 0, 1) := by decide +kernel
theorem d_L_law_693 : decode b_L_law 693 = .ok (.iload 4, 2) := by decide +kernel
theorem d_L_law_695 : decode b_L_law 695 = .ok (.iconst 3, 1) := by decide +kernel
theorem d_L_law_696 : decode b_L_law 696 = .ok (.iadd, 1) := by decide +kernel
theorem d_L_law_697 : decode b_L_law 697 = .ok (.iaload, 1) := by decide +kernel
theorem d_L_law_698 : decode b_L_law 698 = .ok (.invokevirtual 103, 3) := by decide +kernel
theorem d_L_law_701 : decode b_L_law 701 = .ok (.pop, 1) := by decide +kernel
theorem d_L_law_702 : decode b_L_law 702 = .ok (.aload_n 2, 1) := by decide +kernel
theorem d_L_law_703 : decode b_L_law 703 = .ok (.aload_n 0, 1) := by decide +kernel
theorem d_L_law_704 : decode b_L_law 704 = .ok (.iload 4, 2) := by decide +kernel
theorem d_L_law_706 : decode b_L_law 706 = .ok (.iconst 1, 1) := by decide +kernel
theorem d_L_law_707 : decode b_L_law 707 = .ok (.iadd, 1) := by decide +kernel
theorem d_L_law_708 : decode b_L_law 708 = .ok (.iaload, 1) := by decide +kernel
theorem d_L_law_709 : decode b_L_law 709 = .ok (.aload_n 0, 1) := by decide +kernel
