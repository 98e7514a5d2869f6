theorem d_L_law_944 : decode b_L_law 944 = .ok (.iaload, 1) := by decide +kernel
theorem d_L_law_945 : decode b_L_law 945 = .ok (.ifCond .eq 7, 3) := by decide +kernel
theorem d_L_law_948 : decode b_L_law 948 = .ok (.iconst 1, 1) := by decide +kernel
theorem d_L_law_949 : decode b_L_law 949 = .ok (.goto 4, 3) := by decide +kernel
theorem d_L_law_952 : decode b_L_law 952 = .ok (.iconst 0, 1) := by decide +kernel
theorem d_L_law_953 : decode b_L_law 953 = .ok (.invokevirtual 110, 3) := by decide +kernel
theorem d_L_law_956 : decode b_L_law 956 = .ok (.if_icmp .eq 266, 3) := by decide +kernel
theorem d_L_law_959 : decode b_L_law 959 = .ok (.iconst 0, 1) := by decide +kernel
theorem d_L_law_960 : decode b_L_law 960 = .ok (.ireturn, 1) := by decide +kernel
theorem d_L_law_961 : decode b_L_law 961 = .ok (.aload_n 1, 1) := by decide +kernel
theorem d_L_law_962 : decode b_L_law 962 = .ok (.aload_n 0, 1) := by decide +kernel
theorem d_L_law_963 : decode b_L_law 963 = .ok (.iload 4, 2) := by decide +kernel
theorem d_L_law_965 : decode b_L_law 965 = .ok (.iconst 1, 1) := by decide +kernel
theorem d_L_law_966 : decode b_L_law 966 = .ok (.iadd, 1) := by decide +kernel
theorem d_L_law_967 : decode b_L_law 967 = .ok (.iaload, 1) := by decide +kernel
theorem d_L_law_968 : decode b_L_law 968 = .ok (.aload_n 3, 1) := by decide +kernel
theorem d_L_law_969 : decode b_L_law 969 = .ok (.invokestatic 111, 3) := by decide +kernel
theorem d_L_law_972 : decode b_L_law 972 = .ok (.istore 5, 2) := by decide +kernel
theorem d_L_law_974 : decode b_L_law 974 = .ok (.aload_n 2, 1) := by decide +kernel
theorem d_L_law_975 : decode b_L_law 975 = .ok (.aload_n 0, 1) := by decide +kernel
theorem d_L_law_976 : decode b_L_law 976 = .ok (.iload 4, 2) := by decide +kernel
theorem d_L_law_978 : decode b_L_law 978 = .ok (.iconst 1, 1) := by decide +kernel
theorem d_L_law_979 : decode b_L_law 979 = .ok (.iadd, 1) := by decide +kernel
theorem d_L_law_980 : decode b_L_law 980 = .ok (.iaload, 1) := by decide +kernel
theorem d_L_law_981 : decode b_L_law 981 = .ok (.invokevirtual 114, 3) := by decide +kernel
theorem d_L_law_984 : decode b_L_law 984 = .ok (.istore 6, 2) := by decide +kernel
theorem d_L_law_986 : decode b_L_law 986 = .ok (.aload_n 2, 1) := by decide +kernel
theorem d_L_law_987 : decode b_L_law 987 = .ok (.invokevirtual 68, 3) := by decide +kernel
theorem d_L_law_990 : decode b_L_law 990 = .ok (.iload 5, 2) := by decide +kernel
theorem d_L_law_992 : decode b_L_law 992 = .ok (.if_icmp .eq 5, 3) := by decide +kernel
theorem d_L_law_995 : decode b_L_law 995 = .ok (.iconst 0, 1) := by decide +kernel
theorem d_L_law_996 : decode b_L_law 996 = .ok (.ireturn, 1) := by decide +kernel
theorem d_L_law_997 : decode b_L_law 997 = .ok (.iload 5, 2) := by decide +kernel
theorem d_L_law_999 : decode b_L_law 999 = .ok (.ifCond .ne 15, 3) := by decide +kernel
theorem d_L_law_1002 : decode b_L_law 1002 = .ok (.aload_n 3, 1) := by decide +kernel
theorem d_L_law_1003 : decode b_L_law 1003 = .ok (.iconst 0, 1) := by decide +kernel
theorem d_L_law_1004 : decode b_L_law 1004 = .ok (.laload, 1) := by decide +kernel
theorem d_L_law_1005 : decode b_L_law 1005 = .ok (.iload 6, 2) := by decide +kernel
theorem d_L_law_1007 : decode b_L_law 1007 = .ok (.i2l, 1) := by decide +kernel
theorem d_L_law_1008 : decode b_L_law 1008 = .ok (.lcmp, 1) := by decide +kernel
theorem d_L_law_1009 : decode b_L_law 1009 = .ok (.ifCond .eq 5, 3) := by decide +kernel
theorem d_L_law_1012 : decode b_L_law 1012 = .ok (.iconst 0, 1) := by decide +kernel
theorem d_L_law_1013 : decode b_L_law 1013 = .ok (.ireturn, 1) := by decide +kernel
theorem d_L_law_1014 : decode b_L_law 1014 = .ok (.goto 208, 3) := by decide +kernel
theorem d_L_law_1017 : decode b_L_law 1017 = .ok (.aload_n 1, 1) := by decide +kernel
theorem d_L_law_1018 : decode b_L_law 1018 = .ok (.aload_n 0, 1) := by decide +kernel
theorem d_L_law_1019 : decode b_L_law 1019 = .ok (.iload 4, 2) := by decide +kernel
theorem d_L_law_1021 : decode b_L_law 1021 = .ok (.iconst 1, 1) := by decide +kernel
theorem d_L_law_1022 : decode b_L_law 1022 = .ok (.iadd, 1) := by decide +kernel
theorem d_L_law_1023 : decode b_L_law 1023 = .ok (.iaload, 1) := by decide +kernel
