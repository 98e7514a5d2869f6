theorem d_L_law_706 : decode b_L_law 706 = .ok (.iaload, 1) := by decide +kernel
theorem d_L_law_707 : decode b_L_law 707 = .ok (.aload_n 0, 1) := by decide +kernel
theorem d_L_law_708 : decode b_L_law 708 = .ok (.iload 4, 2) := by decide +kernel
theorem d_L_law_710 : decode b_L_law 710 = .ok (.iconst 2, 1) := by decide +kernel
theorem d_L_law_711 : decode b_L_law 711 = .ok (.iadd, 1) := by decide +kernel
theorem d_L_law_712 : decode b_L_law 712 = .ok (.iaload, 1) := by decide +kernel
theorem d_L_law_713 : decode b_L_law 713 = .ok (.aload_n 0, 1) := by decide +kernel
theorem d_L_law_714 : decode b_L_law 714 = .ok (.iload 4, 2) := by decide +kernel
theorem d_L_law_716 : decode b_L_law 716 = .ok (.iconst 3, 1) := by decide +kernel
theorem d_L_law_717 : decode b_L_law 717 = .ok (.iadd, 1) := by decide +kernel
theorem d_L_law_718 : decode b_L_law 718 = .ok (.iaload, 1) := by decide +kernel
theorem d_L_law_719 : decode b_L_law 719 = .ok (.ifCond .eq 7, 3) := by decide +kernel
theorem d_L_law_722 : decode b_L_law 722 = .ok (.iconst 1, 1) := by decide +kernel
theorem d_L_law_723 : decode b_L_law 723 = .ok (.goto 4, 3) := by decide +kernel
theorem d_L_law_726 : decode b_L_law 726 = .ok (.iconst 0, 1) := by decide +kernel
theorem d_L_law_727 : decode b_L_law 727 = .ok (.invokevirtual 103, 3) := by decide +kernel
theorem d_L_law_730 : decode b_L_law 730 = .ok (.pop, 1) := by decide +kernel
theorem d_L_law_731 : decode b_L_law 731 = .ok (.aload_n 2, 1) := by decide +kernel
theorem d_L_law_732 : decode b_L_law 732 = .ok (.aload_n 0, 1) := by decide +kernel
theorem d_L_law_733 : decode b_L_law 733 = .ok (.iload 4, 2) := by decide +kernel
theorem d_L_law_735 : decode b_L_law 735 = .ok (.iconst 1, 1) := by decide +kernel
theorem d_L_law_736 : decode b_L_law 736 = .ok (.iadd, 1) := by decide +kernel
theorem d_L_law_737 : decode b_L_law 737 = .ok (.iaload, 1) := by decide +kernel
theorem d_L_law_738 : decode b_L_law 738 = .ok (.aload_n 0, 1) := by decide +kernel
theorem d_L_law_739 : decode b_L_law 739 = .ok (.iload 4, 2) := by decide +kernel
theorem d_L_law_741 : decode b_L_law 741 = .ok (.iconst 2, 1) := by decide +kernel
theorem d_L_law_742 : decode b_L_law 742 = .ok (.iadd, 1) := by decide +kernel
theorem d_L_law_743 : decode b_L_law 743 = .ok (.iaload, 1) := by decide +kernel
theorem d_L_law_744 : decode b_L_law 744 = .ok (.aload_n 0, 1) := by decide +kernel
theorem d_L_law_745 : decode b_L_law 745 = .ok (.iload 4, 2) := by decide +kernel
theorem d_L_law_747 : decode b_L_law 747 = .ok (.iconst 3, 1) := by decide +kernel
theorem d_L_law_748 : decode b_L_law 748 = .ok (.iadd, 1) := by decide +kernel
theorem d_L_law_749 : decode b_L_law 749 = .ok (.iaload, 1) := by decide +kernel
theorem d_L_law_750 : decode b_L_law 750 = .ok (.ifCond .eq 7, 3) := by decide +kernel
theorem d_L_law_753 : decode b_L_law 753 = .ok (.iconst 1, 1) := by decide +kernel
theorem d_L_law_754 : decode b_L_law 754 = .ok (.goto 4, 3) := by decide +kernel
theorem d_L_law_757 : decode b_L_law 757 = .ok (.iconst 0, 1) := by decide +kernel
theorem d_L_law_758 : decode b_L_law 758 = .ok (.invokevirtual 106, 3) := by decide +kernel
theorem d_L_law_761 : decode b_L_law 761 = .ok (.pop, 1) := by decide +kernel
theorem d_L_law_762 : decode b_L_law 762 = .ok (.goto 152, 3) := by decide +kernel
theorem d_L_law_765 : decode b_L_law 765 = .ok (.aload_n 1, 1) := by decide +kernel
theorem d_L_law_766 : decode b_L_law 766 = .ok (.aload_n 0, 1) := by decide +kernel
theorem d_L_law_767 : decode b_L_law 767 = .ok (.iload 4, 2) := by decide +kernel
theorem d_L_law_769 : decode b_L_law 769 = .ok (.iconst 1, 1) := by decide +kernel
theorem d_L_law_770 : decode b_L_law 770 = .ok (.iadd, 1) := by decide +kernel
theorem d_L_law_771 : decode b_L_law 771 = .ok (.iaload, 1) := by decide +kernel
theorem d_L_law_772 : decode b_L_law 772 = .ok (.aload_n 3, 1) := by decide +kernel
theorem d_L_law_773 : decode b_L_law 773 = .ok (.invokestatic 107, 3) := by decide +kernel
theorem d_L_law_776 : decode b_L_law 776 = .ok (.istore 5, 2) := by decide +kernel
theorem d_L_law_778 : decode b_L_law 778 = .ok (.aload_n 2, 1) := by decide +kernel
