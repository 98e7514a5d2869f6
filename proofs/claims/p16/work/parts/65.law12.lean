theorem d_L_law_859 : decode b_L_law 859 = .ok (.ifCond .ne 15, 3) := by decide +kernel
theorem d_L_law_862 : decode b_L_law 862 = .ok (.aload_n 3, 1) := by decide +kernel
theorem d_L_law_863 : decode b_L_law 863 = .ok (.iconst 0, 1) := by decide +kernel
theorem d_L_law_864 : decode b_L_law 864 = .ok (.laload, 1) := by decide +kernel
theorem d_L_law_865 : decode b_L_law 865 = .ok (.iload 6, 2) := by decide +kernel
theorem d_L_law_867 : decode b_L_law 867 = .ok (.i2l, 1) := by decide +kernel
theorem d_L_law_868 : decode b_L_law 868 = .ok (.lcmp, 1) := by decide +kernel
theorem d_L_law_869 : decode b_L_law 869 = .ok (.ifCond .eq 5, 3) := by decide +kernel
theorem d_L_law_872 : decode b_L_law 872 = .ok (.iconst 0, 1) := by decide +kernel
theorem d_L_law_873 : decode b_L_law 873 = .ok (.ireturn, 1) := by decide +kernel
theorem d_L_law_874 : decode b_L_law 874 = .ok (.goto 68, 3) := by decide +kernel
theorem d_L_law_877 : decode b_L_law 877 = .ok (.aload_n 1, 1) := by decide +kernel
theorem d_L_law_878 : decode b_L_law 878 = .ok (.aload_n 0, 1) := by decide +kernel
theorem d_L_law_879 : decode b_L_law 879 = .ok (.iload 4, 2) := by decide +kernel
theorem d_L_law_881 : decode b_L_law 881 = .ok (.iconst 1, 1) := by decide +kernel
theorem d_L_law_882 : decode b_L_law 882 = .ok (.iadd, 1) := by decide +kernel
theorem d_L_law_883 : decode b_L_law 883 = .ok (.iaload, 1) := by decide +kernel
theorem d_L_law_884 : decode b_L_law 884 = .ok (.aload_n 0, 1) := by decide +kernel
theorem d_L_law_885 : decode b_L_law 885 = .ok (.iload 4, 2) := by decide +kernel
theorem d_L_law_887 : decode b_L_law 887 = .ok (.iconst 2, 1) := by decide +kernel
theorem d_L_law_888 : decode b_L_law 888 = .ok (.iadd, 1) := by decide +kernel
theorem d_L_law_889 : decode b_L_law 889 = .ok (.iaload, 1) := by decide +kernel
theorem d_L_law_890 : decode b_L_law 890 = .ok (.aload_n 3, 1) := by decide +kernel
theorem d_L_law_891 : decode b_L_law 891 = .ok (.invokestatic 121, 3) := by decide +kernel
theorem d_L_law_894 : decode b_L_law 894 = .ok (.istore 5, 2) := by decide +kernel
theorem d_L_law_896 : decode b_L_law 896 = .ok (.aload_n 2, 1) := by decide +kernel
theorem d_L_law_897 : decode b_L_law 897 = .ok (.aload_n 0, 1) := by decide +kernel
theorem d_L_law_898 : decode b_L_law 898 = .ok (.iload 4, 2) := by decide +kernel
theorem d_L_law_900 : decode b_L_law 900 = .ok (.iconst 1, 1) := by decide +kernel
theorem d_L_law_901 : decode b_L_law 901 = .ok (.iadd, 1) := by decide +kernel
theorem d_L_law_902 : decode b_L_law 902 = .ok (.iaload, 1) := by decide +kernel
theorem d_L_law_903 : decode b_L_law 903 = .ok (.aload_n 0, 1) := by decide +kernel
theorem d_L_law_904 : decode b_L_law 904 = .ok (.iload 4, 2) := by decide +kernel
theorem d_L_law_906 : decode b_L_law 906 = .ok (.iconst 2, 1) := by decide +kernel
theorem d_L_law_907 : decode b_L_law 907 = .ok (.iadd, 1) := by decide +kernel
theorem d_L_law_908 : decode b_L_law 908 = .ok (.iaload, 1) := by decide +kernel
theorem d_L_law_909 : decode b_L_law 909 = .ok (.invokevirtual 123, 3) := by decide +kernel
theorem d_L_law_912 : decode b_L_law 912 = .ok (.istore 6, 2) := by decide +kernel
theorem d_L_law_914 : decode b_L_law 914 = .ok (.goto 28, 3) := by decide +kernel
theorem d_L_law_917 : decode b_L_law 917 = .ok (.aload_n 1, 1) := by decide +kernel
theorem d_L_law_918 : decode b_L_law 918 = .ok (.aload_n 0, 1) := by decide +kernel
theorem d_L_law_919 : decode b_L_law 919 = .ok (.iload 4, 2) := by decide +kernel
theorem d_L_law_921 : decode b_L_law 921 = .ok (.iconst 1, 1) := by decide +kernel
theorem d_L_law_922 : decode b_L_law 922 = .ok (.iadd, 1) := by decide +kernel
theorem d_L_law_923 : decode b_L_law 923 = .ok (.iaload, 1) := by decide +kernel
theorem d_L_law_924 : decode b_L_law 924 = .ok (.invokevirtual 124, 3) := by decide +kernel
theorem d_L_law_927 : decode b_L_law 927 = .ok (.pop, 1) := by decide +kernel
theorem d_L_law_928 : decode b_L_law 928 = .ok (.aload_n 2, 1) := by decide +kernel
theorem d_L_law_929 : decode b_L_law 929 = .ok (.aload_n 0, 1) := by decide +kernel
theorem d_L_law_930 : decode b_L_law 930 = .ok (.iload 4, 2) := by decide +kernel
