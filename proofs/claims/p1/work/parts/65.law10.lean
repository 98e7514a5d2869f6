theorem d_L_law_738 : decode b_L_law 738 = .ok (.aload_n 0, 1) := by decide +kernel
theorem d_L_law_739 : decode b_L_law 739 = .ok (.iload 4, 2) := by decide +kernel
theorem d_L_law_741 : decode b_L_law 741 = .ok (.iconst 1, 1) := by decide +kernel
theorem d_L_law_742 : decode b_L_law 742 = .ok (.iadd, 1) := by decide +kernel
theorem d_L_law_743 : decode b_L_law 743 = .ok (.iaload, 1) := by decide +kernel
theorem d_L_law_744 : decode b_L_law 744 = .ok (.aload_n 0, 1) := by decide +kernel
theorem d_L_law_745 : decode b_L_law 745 = .ok (.iload 4, 2) := by decide +kernel
theorem d_L_law_747 : decode b_L_law 747 = .ok (.iconst 2, 1) := by decide +kernel
theorem d_L_law_748 : decode b_L_law 748 = .ok (.iadd, 1) := by decide +kernel
theorem d_L_law_749 : decode b_L_law 749 = .ok (.iaload, 1) := by decide +kernel
theorem d_L_law_750 : decode b_L_law 750 = .ok (.aload_n 0, 1) := by decide +kernel
theorem d_L_law_751 : decode b_L_law 751 = .ok (.iload 4, 2) := by decide +kernel
theorem d_L_law_753 : decode b_L_law 753 = .ok (.iconst 3, 1) := by decide +kernel
theorem d_L_law_754 : decode b_L_law 754 = .ok (.iadd, 1) := by decide +kernel
theorem d_L_law_755 : decode b_L_law 755 = .ok (.iaload, 1) := by decide +kernel
theorem d_L_law_756 : decode b_L_law 756 = .ok (.aload_n 0, 1) := by decide +kernel
theorem d_L_law_757 : decode b_L_law 757 = .ok (.iload 4, 2) := by decide +kernel
theorem d_L_law_759 : decode b_L_law 759 = .ok (.iconst 4, 1) := by decide +kernel
theorem d_L_law_760 : decode b_L_law 760 = .ok (.iadd, 1) := by decide +kernel
theorem d_L_law_761 : decode b_L_law 761 = .ok (.iaload, 1) := by decide +kernel
theorem d_L_law_762 : decode b_L_law 762 = .ok (.invokevirtual 97, 3) := by decide +kernel
theorem d_L_law_765 : decode b_L_law 765 = .ok (.istore 6, 2) := by decide +kernel
theorem d_L_law_767 : decode b_L_law 767 = .ok (.aload_n 2, 1) := by decide +kernel
theorem d_L_law_768 : decode b_L_law 768 = .ok (.invokevirtual 68, 3) := by decide +kernel
theorem d_L_law_771 : decode b_L_law 771 = .ok (.iload 5, 2) := by decide +kernel
theorem d_L_law_773 : decode b_L_law 773 = .ok (.if_icmp .eq 5, 3) := by decide +kernel
theorem d_L_law_776 : decode b_L_law 776 = .ok (.iconst 0, 1) := by decide +kernel
theorem d_L_law_777 : decode b_L_law 777 = .ok (.ireturn, 1) := by decide +kernel
theorem d_L_law_778 : decode b_L_law 778 = .ok (.iload 5, 2) := by decide +kernel
theorem d_L_law_780 : decode b_L_law 780 = .ok (.ifCond .ne 15, 3) := by decide +kernel
theorem d_L_law_783 : decode b_L_law 783 = .ok (.aload_n 3, 1) := by decide +kernel
theorem d_L_law_784 : decode b_L_law 784 = .ok (.iconst 0, 1) := by decide +kernel
theorem d_L_law_785 : decode b_L_law 785 = .ok (.laload, 1) := by decide +kernel
theorem d_L_law_786 : decode b_L_law 786 = .ok (.iload 6, 2) := by decide +kernel
theorem d_L_law_788 : decode b_L_law 788 = .ok (.i2l, 1) := by decide +kernel
theorem d_L_law_789 : decode b_L_law 789 = .ok (.lcmp, 1) := by decide +kernel
theorem d_L_law_790 : decode b_L_law 790 = .ok (.ifCond .eq 5, 3) := by decide +kernel
theorem d_L_law_793 : decode b_L_law 793 = .ok (.iconst 0, 1) := by decide +kernel
theorem d_L_law_794 : decode b_L_law 794 = .ok (.ireturn, 1) := by decide +kernel
theorem d_L_law_795 : decode b_L_law 795 = .ok (.goto 427, 3) := by decide +kernel
theorem d_L_law_798 : decode b_L_law 798 = .ok (.aload_n 1, 1) := by decide +kernel
theorem d_L_law_799 : decode b_L_law 799 = .ok (.aload_n 0, 1) := by decide +kernel
theorem d_L_law_800 : decode b_L_law 800 = .ok (.iload 4, 2) := by decide +kernel
theorem d_L_law_802 : decode b_L_law 802 = .ok (.iconst 1, 1) := by decide +kernel
theorem d_L_law_803 : decode b_L_law 803 = .ok (.iadd, 1) := by decide +kernel
theorem d_L_law_804 : decode b_L_law 804 = .ok (.iaload, 1) := by decide +kernel
theorem d_L_law_805 : decode b_L_law 805 = .ok (.aload_n 0, 1) := by decide +kernel
theorem d_L_law_806 : decode b_L_law 806 = .ok (.iload 4, 2) := by decide +kernel
theorem d_L_law_808 : decode b_L_law 808 = .ok (.iconst 2, 1) := by decide +kernel
theorem d_L_law_809 : decode b_L_law 809 = .ok (.iadd, 1) := by decide +kernel
