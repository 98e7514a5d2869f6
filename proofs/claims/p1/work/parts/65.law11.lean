theorem d_L_law_810 : decode b_L_law 810 = .ok (.iaload, 1) := by decide +kernel
theorem d_L_law_811 : decode b_L_law 811 = .ok (.aload_n 0, 1) := by decide +kernel
theorem d_L_law_812 : decode b_L_law 812 = .ok (.iload 4, 2) := by decide +kernel
theorem d_L_law_814 : decode b_L_law 814 = .ok (.iconst 3, 1) := by decide +kernel
theorem d_L_law_815 : decode b_L_law 815 = .ok (.iadd, 1) := by decide +kernel
theorem d_L_law_816 : decode b_L_law 816 = .ok (.iaload, 1) := by decide +kernel
theorem d_L_law_817 : decode b_L_law 817 = .ok (.invokevirtual 98, 3) := by decide +kernel
theorem d_L_law_820 : decode b_L_law 820 = .ok (.aload_n 2, 1) := by decide +kernel
theorem d_L_law_821 : decode b_L_law 821 = .ok (.aload_n 0, 1) := by decide +kernel
theorem d_L_law_822 : decode b_L_law 822 = .ok (.iload 4, 2) := by decide +kernel
theorem d_L_law_824 : decode b_L_law 824 = .ok (.iconst 1, 1) := by decide +kernel
theorem d_L_law_825 : decode b_L_law 825 = .ok (.iadd, 1) := by decide +kernel
theorem d_L_law_826 : decode b_L_law 826 = .ok (.iaload, 1) := by decide +kernel
theorem d_L_law_827 : decode b_L_law 827 = .ok (.aload_n 0, 1) := by decide +kernel
theorem d_L_law_828 : decode b_L_law 828 = .ok (.iload 4, 2) := by decide +kernel
theorem d_L_law_830 : decode b_L_law 830 = .ok (.iconst 2, 1) := by decide +kernel
theorem d_L_law_831 : decode b_L_law 831 = .ok (.iadd, 1) := by decide +kernel
theorem d_L_law_832 : decode b_L_law 832 = .ok (.iaload, 1) := by decide +kernel
theorem d_L_law_833 : decode b_L_law 833 = .ok (.aload_n 0, 1) := by decide +kernel
theorem d_L_law_834 : decode b_L_law 834 = .ok (.iload 4, 2) := by decide +kernel
theorem d_L_law_836 : decode b_L_law 836 = .ok (.iconst 3, 1) := by decide +kernel
theorem d_L_law_837 : decode b_L_law 837 = .ok (.iadd, 1) := by decide +kernel
theorem d_L_law_838 : decode b_L_law 838 = .ok (.iaload, 1) := by decide +kernel
theorem d_L_law_839 : decode b_L_law 839 = .ok (.invokevirtual 102, 3) := by decide +kernel
theorem d_L_law_842 : decode b_L_law 842 = .ok (.if_icmp .eq 380, 3) := by decide +kernel
theorem d_L_law_845 : decode b_L_law 845 = .ok (.iconst 0, 1) := by decide +kernel
theorem d_L_law_846 : decode b_L_law 846 = .ok (.ireturn, 1) := by decide +kernel
theorem d_L_law_847 : decode b_L_law 847 = .ok (.aload_n 1, 1) := by decide +kernel
theorem d_L_law_848 : decode b_L_law 848 = .ok (.aload_n 0, 1) := by decide +kernel
theorem d_L_law_849 : decode b_L_law 849 = .ok (.iload 4, 2) := by decide +kernel
theorem d_L_law_851 : decode b_L_law 851 = .ok (.iconst 1, 1) := by decide +kernel
theorem d_L_law_852 : decode b_L_law 852 = .ok (.iadd, 1) := by decide +kernel
theorem d_L_law_853 : decode b_L_law 853 = .ok (.iaload, 1) := by decide +kernel
theorem d_L_law_854 : decode b_L_law 854 = .ok (.aload_n 0, 1) := by decide +kernel
theorem d_L_law_855 : decode b_L_law 855 = .ok (.iload 4, 2) := by decide +kernel
theorem d_L_law_857 : decode b_L_law 857 = .ok (.iconst 2, 1) := by decide +kernel
theorem d_L_law_858 : decode b_L_law 858 = .ok (.iadd, 1) := by decide +kernel
theorem d_L_law_859 : decode b_L_law 859 = .ok (.iaload, 1) := by decide +kernel
theorem d_L_law_860 : decode b_L_law 860 = .ok (.aload_n 0, 1) := by decide +kernel
theorem d_L_law_861 : decode b_L_law 861 = .ok (.iload 4, 2) := by decide +kernel
theorem d_L_law_863 : decode b_L_law 863 = .ok (.iconst 3, 1) := by decide +kernel
theorem d_L_law_864 : decode b_L_law 864 = .ok (.iadd, 1) := by decide +kernel
theorem d_L_law_865 : decode b_L_law 865 = .ok (.iaload, 1) := by decide +kernel
theorem d_L_law_866 : decode b_L_law 866 = .ok (.invokevirtual 103, 3) := by decide +kernel
theorem d_L_law_869 : decode b_L_law 869 = .ok (.aload_n 2, 1) := by decide +kernel
theorem d_L_law_870 : decode b_L_law 870 = .ok (.aload_n 0, 1) := by decide +kernel
theorem d_L_law_871 : decode b_L_law 871 = .ok (.iload 4, 2) := by decide +kernel
theorem d_L_law_873 : decode b_L_law 873 = .ok (.iconst 1, 1) := by decide +kernel
theorem d_L_law_874 : decode b_L_law 874 = .ok (.iadd, 1) := by decide +kernel
theorem d_L_law_875 : decode b_L_law 875 = .ok (.iaload, 1) := by decide +kernel
