theorem d_L_law_876 : decode b_L_law 876 = .ok (.aload_n 0, 1) := by decide +kernel
theorem d_L_law_877 : decode b_L_law 877 = .ok (.iload 4, 2) := by decide +kernel
theorem d_L_law_879 : decode b_L_law 879 = .ok (.iconst 2, 1) := by decide +kernel
theorem d_L_law_880 : decode b_L_law 880 = .ok (.iadd, 1) := by decide +kernel
theorem d_L_law_881 : decode b_L_law 881 = .ok (.iaload, 1) := by decide +kernel
theorem d_L_law_882 : decode b_L_law 882 = .ok (.aload_n 0, 1) := by decide +kernel
theorem d_L_law_883 : decode b_L_law 883 = .ok (.iload 4, 2) := by decide +kernel
theorem d_L_law_885 : decode b_L_law 885 = .ok (.iconst 3, 1) := by decide +kernel
theorem d_L_law_886 : decode b_L_law 886 = .ok (.iadd, 1) := by decide +kernel
theorem d_L_law_887 : decode b_L_law 887 = .ok (.iaload, 1) := by decide +kernel
theorem d_L_law_888 : decode b_L_law 888 = .ok (.invokevirtual 106, 3) := by decide +kernel
theorem d_L_law_891 : decode b_L_law 891 = .ok (.if_icmp .eq 331, 3) := by decide +kernel
theorem d_L_law_894 : decode b_L_law 894 = .ok (.iconst 0, 1) := by decide +kernel
theorem d_L_law_895 : decode b_L_law 895 = .ok (.ireturn, 1) := by decide +kernel
theorem d_L_law_896 : decode b_L_law 896 = .ok (.aload_n 1, 1) := by decide +kernel
theorem d_L_law_897 : decode b_L_law 897 = .ok (.aload_n 0, 1) := by decide +kernel
theorem d_L_law_898 : decode b_L_law 898 = .ok (.iload 4, 2) := by decide +kernel
theorem d_L_law_900 : decode b_L_law 900 = .ok (.iconst 1, 1) := by decide +kernel
theorem d_L_law_901 : decode b_L_law 901 = .ok (.iadd, 1) := by decide +kernel
theorem d_L_law_902 : decode b_L_law 902 = .ok (.iaload, 1) := by decide +kernel
theorem d_L_law_903 : decode b_L_law 903 = .ok (.aload_n 0, 1) := by decide +kernel
theorem d_L_law_904 : decode b_L_law 904 = .ok (.iload 4, 2) := by decide +kernel
theorem d_L_law_906 : decode b_L_law 906 = .ok (.iconst 2, 1) := by decide +kernel
theorem d_L_law_907 : decode b_L_law 907 = .ok (.iadd, 1) := by decide +kernel
theorem d_L_law_908 : decode b_L_law 908 = .ok (.iaload, 1) := by decide +kernel
theorem d_L_law_909 : decode b_L_law 909 = .ok (.aload_n 0, 1) := by decide +kernel
theorem d_L_law_910 : decode b_L_law 910 = .ok (.iload 4, 2) := by decide +kernel
theorem d_L_law_912 : decode b_L_law 912 = .ok (.iconst 3, 1) := by decide +kernel
theorem d_L_law_913 : decode b_L_law 913 = .ok (.iadd, 1) := by decide +kernel
theorem d_L_law_914 : decode b_L_law 914 = .ok (.iaload, 1) := by decide +kernel
theorem d_L_law_915 : decode b_L_law 915 = .ok (.ifCond .eq 7, 3) := by decide +kernel
theorem d_L_law_918 : decode b_L_law 918 = .ok (.iconst 1, 1) := by decide +kernel
theorem d_L_law_919 : decode b_L_law 919 = .ok (.goto 4, 3) := by decide +kernel
theorem d_L_law_922 : decode b_L_law 922 = .ok (.iconst 0, 1) := by decide +kernel
theorem d_L_law_923 : decode b_L_law 923 = .ok (.invokevirtual 107, 3) := by decide +kernel
theorem d_L_law_926 : decode b_L_law 926 = .ok (.aload_n 2, 1) := by decide +kernel
theorem d_L_law_927 : decode b_L_law 927 = .ok (.aload_n 0, 1) := by decide +kernel
theorem d_L_law_928 : decode b_L_law 928 = .ok (.iload 4, 2) := by decide +kernel
theorem d_L_law_930 : decode b_L_law 930 = .ok (.iconst 1, 1) := by decide +kernel
theorem d_L_law_931 : decode b_L_law 931 = .ok (.iadd, 1) := by decide +kernel
theorem d_L_law_932 : decode b_L_law 932 = .ok (.iaload, 1) := by decide +kernel
theorem d_L_law_933 : decode b_L_law 933 = .ok (.aload_n 0, 1) := by decide +kernel
theorem d_L_law_934 : decode b_L_law 934 = .ok (.iload 4, 2) := by decide +kernel
theorem d_L_law_936 : decode b_L_law 936 = .ok (.iconst 2, 1) := by decide +kernel
theorem d_L_law_937 : decode b_L_law 937 = .ok (.iadd, 1) := by decide +kernel
theorem d_L_law_938 : decode b_L_law 938 = .ok (.iaload, 1) := by decide +kernel
theorem d_L_law_939 : decode b_L_law 939 = .ok (.aload_n 0, 1) := by decide +kernel
theorem d_L_law_940 : decode b_L_law 940 = .ok (.iload 4, 2) := by decide +kernel
theorem d_L_law_942 : decode b_L_law 942 = .ok (.iconst 3, 1) := by decide +kernel
theorem d_L_law_943 : decode b_L_law 943 = .ok (.iadd, 1) := by decide +kernel
