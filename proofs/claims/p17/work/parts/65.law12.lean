theorem d_L_law_856 : decode b_L_law 856 = .ok (.aload_n 0, 1) := by decide +kernel
theorem d_L_law_857 : decode b_L_law 857 = .ok (.iload 4, 2) := by decide +kernel
theorem d_L_law_859 : decode b_L_law 859 = .ok (.iconst 2, 1) := by decide +kernel
theorem d_L_law_860 : decode b_L_law 860 = .ok (.iadd, 1) := by decide +kernel
theorem d_L_law_861 : decode b_L_law 861 = .ok (.iaload, 1) := by decide +kernel
theorem d_L_law_862 : decode b_L_law 862 = .ok (.aload_n 3, 1) := by decide +kernel
theorem d_L_law_863 : decode b_L_law 863 = .ok (.invokestatic 117, 3) := by decide +kernel
theorem d_L_law_866 : decode b_L_law 866 = .ok (.istore 5, 2) := by decide +kernel
theorem d_L_law_868 : decode b_L_law 868 = .ok (.aload_n 2, 1) := by decide +kernel
theorem d_L_law_869 : decode b_L_law 869 = .ok (.aload_n 0, 1) := by decide +kernel
theorem d_L_law_870 : decode b_L_law 870 = .ok (.iload 4, 2) := by decide +kernel
theorem d_L_law_872 : decode b_L_law 872 = .ok (.iconst 1, 1) := by decide +kernel
theorem d_L_law_873 : decode b_L_law 873 = .ok (.iadd, 1) := by decide +kernel
theorem d_L_law_874 : decode b_L_law 874 = .ok (.iaload, 1) := by decide +kernel
theorem d_L_law_875 : decode b_L_law 875 = .ok (.aload_n 0, 1) := by decide +kernel
theorem d_L_law_876 : decode b_L_law 876 = .ok (.iload 4, 2) := by decide +kernel
theorem d_L_law_878 : decode b_L_law 878 = .ok (.iconst 2, 1) := by decide +kernel
theorem d_L_law_879 : decode b_L_law 879 = .ok (.iadd, 1) := by decide +kernel
theorem d_L_law_880 : decode b_L_law 880 = .ok (.iaload, 1) := by decide +kernel
theorem d_L_law_881 : decode b_L_law 881 = .ok (.invokevirtual 119, 3) := by decide +kernel
theorem d_L_law_884 : decode b_L_law 884 = .ok (.istore 6, 2) := by decide +kernel
theorem d_L_law_886 : decode b_L_law 886 = .ok (.aload_n 2, 1) := by decide +kernel
theorem d_L_law_887 : decode b_L_law 887 = .ok (.invokevirtual 120, 3) := by decide +kernel
theorem d_L_law_890 : decode b_L_law 890 = .ok (.iload 5, 2) := by decide +kernel
theorem d_L_law_892 : decode b_L_law 892 = .ok (.if_icmp .eq 5, 3) := by decide +kernel
theorem d_L_law_895 : decode b_L_law 895 = .ok (.iconst 0, 1) := by decide +kernel
theorem d_L_law_896 : decode b_L_law 896 = .ok (.ireturn, 1) := by decide +kernel
theorem d_L_law_897 : decode b_L_law 897 = .ok (.iload 5, 2) := by decide +kernel
theorem d_L_law_899 : decode b_L_law 899 = .ok (.ifCond .ne 15, 3) := by decide +kernel
theorem d_L_law_902 : decode b_L_law 902 = .ok (.aload_n 3, 1) := by decide +kernel
theorem d_L_law_903 : decode b_L_law 903 = .ok (.iconst 0, 1) := by decide +kernel
theorem d_L_law_904 : decode b_L_law 904 = .ok (.laload, 1) := by decide +kernel
theorem d_L_law_905 : decode b_L_law 905 = .ok (.iload 6, 2) := by decide +kernel
theorem d_L_law_907 : decode b_L_law 907 = .ok (.i2l, 1) := by decide +kernel
theorem d_L_law_908 : decode b_L_law 908 = .ok (.lcmp, 1) := by decide +kernel
theorem d_L_law_909 : decode b_L_law 909 = .ok (.ifCond .eq 5, 3) := by decide +kernel
theorem d_L_law_912 : decode b_L_law 912 = .ok (.iconst 0, 1) := by decide +kernel
theorem d_L_law_913 : decode b_L_law 913 = .ok (.ireturn, 1) := by decide +kernel
theorem d_L_law_914 : decode b_L_law 914 = .ok (.goto 28, 3) := by decide +kernel
theorem d_L_law_917 : decode b_L_law 917 = .ok (.aload_n 1, 1) := by decide +kernel
theorem d_L_law_918 : decode b_L_law 918 = .ok (.aload_n 0, 1) := by decide +kernel
theorem d_L_law_919 : decode b_L_law 919 = .ok (.iload 4, 2) := by decide +kernel
theorem d_L_law_921 : decode b_L_law 921 = .ok (.iconst 1, 1) := by decide +kernel
theorem d_L_law_922 : decode b_L_law 922 = .ok (.iadd, 1) := by decide +kernel
theorem d_L_law_923 : decode b_L_law 923 = .ok (.iaload, 1) := by decide +kernel
theorem d_L_law_924 : decode b_L_law 924 = .ok (.invokevirtual 124, 3) := by decide +kernel
theorem d_L_law_927 : decode b_L_law 927 = .ok (.pop, 1) := by decide +kernel
theorem d_L_law_928 : decode b_L_law 928 = .ok (.aload_n 2, 1) := by decide +kernel
theorem d_L_law_929 : decode b_L_law 929 = .ok (.aload_n 0, 1) := by decide +kernel
theorem d_L_law_930 : decode b_L_law 930 = .ok (.iload 4, 2) := by decide +kernel
