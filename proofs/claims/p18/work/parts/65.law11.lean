theorem d_L_law_779 : decode b_L_law 779 = .ok (.aload_n 0, 1) := by decide +kernel
theorem d_L_law_780 : decode b_L_law 780 = .ok (.iload 4, 2) := by decide +kernel
theorem d_L_law_782 : decode b_L_law 782 = .ok (.iconst 1, 1) := by decide +kernel
theorem d_L_law_783 : decode b_L_law 783 = .ok (.iadd, 1) := by decide +kernel
theorem d_L_law_784 : decode b_L_law 784 = .ok (.iaload, 1) := by decide +kernel
theorem d_L_law_785 : decode b_L_law 785 = .ok (.invokevirtual 110, 3) := by decide +kernel
theorem d_L_law_788 : decode b_L_law 788 = .ok (.istore 6, 2) := by decide +kernel
theorem d_L_law_790 : decode b_L_law 790 = .ok (.goto 124, 3) := by decide +kernel
theorem d_L_law_793 : decode b_L_law 793 = .ok (.aload_n 1, 1) := by decide +kernel
theorem d_L_law_794 : decode b_L_law 794 = .ok (.aload_n 0, 1) := by decide +kernel
theorem d_L_law_795 : decode b_L_law 795 = .ok (.iload 4, 2) := by decide +kernel
theorem d_L_law_797 : decode b_L_law 797 = .ok (.iconst 1, 1) := by decide +kernel
theorem d_L_law_798 : decode b_L_law 798 = .ok (.iadd, 1) := by decide +kernel
theorem d_L_law_799 : decode b_L_law 799 = .ok (.iaload, 1) := by decide +kernel
theorem d_L_law_800 : decode b_L_law 800 = .ok (.aload_n 3, 1) := by decide +kernel
theorem d_L_law_801 : decode b_L_law 801 = .ok (.invokestatic 111, 3) := by decide +kernel
theorem d_L_law_804 : decode b_L_law 804 = .ok (.istore 5, 2) := by decide +kernel
theorem d_L_law_806 : decode b_L_law 806 = .ok (.aload_n 2, 1) := by decide +kernel
theorem d_L_law_807 : decode b_L_law 807 = .ok (.aload_n 0, 1) := by decide +kernel
theorem d_L_law_808 : decode b_L_law 808 = .ok (.iload 4, 2) := by decide +kernel
theorem d_L_law_810 : decode b_L_law 810 = .ok (.iconst 1, 1) := by decide +kernel
theorem d_L_law_811 : decode b_L_law 811 = .ok (.iadd, 1) := by decide +kernel
theorem d_L_law_812 : decode b_L_law 812 = .ok (.iaload, 1) := by decide +kernel
theorem d_L_law_813 : decode b_L_law 813 = .ok (.invokevirtual 113, 3) := by decide +kernel
theorem d_L_law_816 : decode b_L_law 816 = .ok (.istore 6, 2) := by decide +kernel
theorem d_L_law_818 : decode b_L_law 818 = .ok (.goto 96, 3) := by decide +kernel
theorem d_L_law_821 : decode b_L_law 821 = .ok (.aload_n 1, 1) := by decide +kernel
theorem d_L_law_822 : decode b_L_law 822 = .ok (.aload_n 0, 1) := by decide +kernel
theorem d_L_law_823 : decode b_L_law 823 = .ok (.iload 4, 2) := by decide +kernel
theorem d_L_law_825 : decode b_L_law 825 = .ok (.iconst 1, 1) := by decide +kernel
theorem d_L_law_826 : decode b_L_law 826 = .ok (.iadd, 1) := by decide +kernel
theorem d_L_law_827 : decode b_L_law 827 = .ok (.iaload, 1) := by decide +kernel
theorem d_L_law_828 : decode b_L_law 828 = .ok (.aload_n 3, 1) := by decide +kernel
theorem d_L_law_829 : decode b_L_law 829 = .ok (.invokestatic 114, 3) := by decide +kernel
theorem d_L_law_832 : decode b_L_law 832 = .ok (.istore 5, 2) := by decide +kernel
theorem d_L_law_834 : decode b_L_law 834 = .ok (.aload_n 2, 1) := by decide +kernel
theorem d_L_law_835 : decode b_L_law 835 = .ok (.aload_n 0, 1) := by decide +kernel
theorem d_L_law_836 : decode b_L_law 836 = .ok (.iload 4, 2) := by decide +kernel
theorem d_L_law_838 : decode b_L_law 838 = .ok (.iconst 1, 1) := by decide +kernel
theorem d_L_law_839 : decode b_L_law 839 = .ok (.iadd, 1) := by decide +kernel
theorem d_L_law_840 : decode b_L_law 840 = .ok (.iaload, 1) := by decide +kernel
theorem d_L_law_841 : decode b_L_law 841 = .ok (.invokevirtual 116, 3) := by decide +kernel
theorem d_L_law_844 : decode b_L_law 844 = .ok (.istore 6, 2) := by decide +kernel
theorem d_L_law_846 : decode b_L_law 846 = .ok (.goto 68, 3) := by decide +kernel
theorem d_L_law_849 : decode b_L_law 849 = .ok (.aload_n 1, 1) := by decide +kernel
theorem d_L_law_850 : decode b_L_law 850 = .ok (.aload_n 0, 1) := by decide +kernel
theorem d_L_law_851 : decode b_L_law 851 = .ok (.iload 4, 2) := by decide +kernel
theorem d_L_law_853 : decode b_L_law 853 = .ok (.iconst 1, 1) := by decide +kernel
theorem d_L_law_854 : decode b_L_law 854 = .ok (.iadd, 1) := by decide +kernel
theorem d_L_law_855 : decode b_L_law 855 = .ok (.iaload, 1) := by decide +kernel
