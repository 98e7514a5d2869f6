theorem d_L_law_856 : decode b_L_law 856 = .ok (.aload_n 0, 1) := by decide +kernel
theorem d_L_law_857 : decode b_L_law 857 = .ok (.iload 4, 2) := by decide +kernel
theorem d_L_law_859 : decode b_L_law 859 = .ok (.iconst 2, 1) := by decide +kernel
theorem d_L_law_860 : decode b_L_law 860 = .ok (.iadd, 1) := by decide +kernel
theorem d_L_law_861 : decode b_L_law 861 = .ok (.iaload, 1) := by decide +kernel
theorem d_L_law_862 : decode b_L_law 862 = .ok (.aload_n 3, 1) := by decide +kernel
theorem d_L_law_863 : decode b_L_law 863 = .ok (.invokestatic 117, 3) := by decide +kernel
theorem d_L_law_866 : decode b_L_law 866 = .ok (.istore 5, 2) := by decide +kernel
theorem d_L_law_868 : decode b_L_law 868 = .ok (.aload_n 2, 1) := by decide +kernel
theorem d_L_law_869 : decode b_L_law 869 = .ok (.aload_n 0, 1) := by decide +kernel
theorem d_L_law_870 : decode b_L_law 870 = .ok (.iload 4, 2) := by decide +kernel
theorem d_L_law_872 : decode b_L_law 872 = .ok (.iconst 1, 1) := by decide +kernel
theorem d_L_law_873 : decode b_L_law 873 = .ok (.iadd, 1) := by decide +kernel
theorem d_L_law_874 : decode b_L_law 874 = .ok (.iaload, 1) := by decide +kernel
theorem d_L_law_875 : decode b_L_law 875 = .ok (.aload_n 0, 1) := by decide +kernel
theorem d_L_law_876 : decode b_L_law 876 = .ok (.iload 4, 2) := by decide +kernel
theorem d_L_law_878 : decode b_L_law 878 = .ok (.iconst 2, 1) := by decide +kernel
theorem d_L_law_879 : decode b_L_law 879 = .ok (.iadd, 1) := by decide +kernel
theorem d_L_law_880 : decode b_L_law 880 = .ok (.iaload, 1) := by decide +kernel
theorem d_L_law_881 : decode b_L_law 881 = .ok (.invokevirtual 119, 3) := by decide +kernel
theorem d_L_law_884 : decode b_L_law 884 = .ok (.istore 6, 2) := by decide +kernel
theorem d_L_law_886 : decode b_L_law 886 = .ok (.goto 28, 3) := by decide +kernel
theorem d_L_law_889 : decode b_L_law 889 = .ok (.aload_n 1, 1) := by decide +kernel
theorem d_L_law_890 : decode b_L_law 890 = .ok (.aload_n 0, 1) := by decide +kernel
theorem d_L_law_891 : decode b_L_law 891 = .ok (.iload 4, 2) := by decide +kernel
theorem d_L_law_893 : decode b_L_law 893 = .ok (.iconst 1, 1) := by decide +kernel
theorem d_L_law_894 : decode b_L_law 894 = .ok (.iadd, 1) := by decide +kernel
theorem d_L_law_895 : decode b_L_law 895 = .ok (.iaload, 1) := by decide +kernel
theorem d_L_law_896 : decode b_L_law 896 = .ok (.invokevirtual 120, 3) := by decide +kernel
theorem d_L_law_899 : decode b_L_law 899 = .ok (.aload_n 2, 1) := by decide +kernel
theorem d_L_law_900 : decode b_L_law 900 = .ok (.aload_n 0, 1) := by decide +kernel
theorem d_L_law_901 : decode b_L_law 901 = .ok (.iload 4, 2) := by decide +kernel
theorem d_L_law_903 : decode b_L_law 903 = .ok (.iconst 1, 1) := by decide +kernel
theorem d_L_law_904 : decode b_L_law 904 = .ok (.iadd, 1) := by decide +kernel
theorem d_L_law_905 : decode b_L_law 905 = .ok (.iaload, 1) := by decide +kernel
theorem d_L_law_906 : decode b_L_law 906 = .ok (.invokevirtual 123, 3) := by decide +kernel
theorem d_L_law_909 : decode b_L_law 909 = .ok (.if_icmp .eq 5, 3) := by decide +kernel
theorem d_L_law_912 : decode b_L_law 912 = .ok (.iconst 0, 1) := by decide +kernel
theorem d_L_law_913 : decode b_L_law 913 = .ok (.ireturn, 1) := by decide +kernel
theorem d_L_law_914 : decode b_L_law 914 = .ok (.iinc 4 5, 3) := by decide +kernel
theorem d_L_law_917 : decode b_L_law 917 = .ok (.goto (-894), 3) := by decide +kernel
theorem d_L_law_920 : decode b_L_law 920 = .ok (.iconst 1, 1) := by decide +kernel
theorem d_L_law_921 : decode b_L_law 921 = .ok (.ireturn, 1) := by decide +kernel
