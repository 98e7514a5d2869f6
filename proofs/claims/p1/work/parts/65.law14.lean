theorem d_L_law_1024 : decode b_L_law 1024 = .ok (.aload_n 3, 1) := by decide +kernel
theorem d_L_law_1025 : decode b_L_law 1025 = .ok (.invokestatic 115, 3) := by decide +kernel
theorem d_L_law_1028 : decode b_L_law 1028 = .ok (.istore 5, 2) := by decide +kernel
theorem d_L_law_1030 : decode b_L_law 1030 = .ok (.aload_n 2, 1) := by decide +kernel
theorem d_L_law_1031 : decode b_L_law 1031 = .ok (.aload_n 0, 1) := by decide +kernel
theorem d_L_law_1032 : decode b_L_law 1032 = .ok (.iload 4, 2) := by decide +kernel
theorem d_L_law_1034 : decode b_L_law 1034 = .ok (.iconst 1, 1) := by decide +kernel
theorem d_L_law_1035 : decode b_L_law 1035 = .ok (.iadd, 1) := by decide +kernel
theorem d_L_law_1036 : decode b_L_law 1036 = .ok (.iaload, 1) := by decide +kernel
theorem d_L_law_1037 : decode b_L_law 1037 = .ok (.invokevirtual 117, 3) := by decide +kernel
theorem d_L_law_1040 : decode b_L_law 1040 = .ok (.istore 6, 2) := by decide +kernel
theorem d_L_law_1042 : decode b_L_law 1042 = .ok (.aload_n 2, 1) := by decide +kernel
theorem d_L_law_1043 : decode b_L_law 1043 = .ok (.invokevirtual 68, 3) := by decide +kernel
theorem d_L_law_1046 : decode b_L_law 1046 = .ok (.iload 5, 2) := by decide +kernel
theorem d_L_law_1048 : decode b_L_law 1048 = .ok (.if_icmp .eq 5, 3) := by decide +kernel
theorem d_L_law_1051 : decode b_L_law 1051 = .ok (.iconst 0, 1) := by decide +kernel
theorem d_L_law_1052 : decode b_L_law 1052 = .ok (.ireturn, 1) := by decide +kernel
theorem d_L_law_1053 : decode b_L_law 1053 = .ok (.iload 5, 2) := by decide +kernel
theorem d_L_law_1055 : decode b_L_law 1055 = .ok (.ifCond .ne 15, 3) := by decide +kernel
theorem d_L_law_1058 : decode b_L_law 1058 = .ok (.aload_n 3, 1) := by decide +kernel
theorem d_L_law_1059 : decode b_L_law 1059 = .ok (.iconst 0, 1) := by decide +kernel
theorem d_L_law_1060 : decode b_L_law 1060 = .ok (.laload, 1) := by decide +kernel
theorem d_L_law_1061 : decode b_L_law 1061 = .ok (.iload 6, 2) := by decide +kernel
theorem d_L_law_1063 : decode b_L_law 1063 = .ok (.i2l, 1) := by decide +kernel
theorem d_L_law_1064 : decode b_L_law 1064 = .ok (.lcmp, 1) := by decide +kernel
theorem d_L_law_1065 : decode b_L_law 1065 = .ok (.ifCond .eq 5, 3) := by decide +kernel
theorem d_L_law_1068 : decode b_L_law 1068 = .ok (.iconst 0, 1) := by decide +kernel
theorem d_L_law_1069 : decode b_L_law 1069 = .ok (.ireturn, 1) := by decide +kernel
theorem d_L_law_1070 : decode b_L_law 1070 = .ok (.goto 152, 3) := by decide +kernel
theorem d_L_law_1073 : decode b_L_law 1073 = .ok (.aload_n 1, 1) := by decide +kernel
theorem d_L_law_1074 : decode b_L_law 1074 = .ok (.aload_n 0, 1) := by decide +kernel
theorem d_L_law_1075 : decode b_L_law 1075 = .ok (.iload 4, 2) := by decide +kernel
theorem d_L_law_1077 : decode b_L_law 1077 = .ok (.iconst 1, 1) := by decide +kernel
theorem d_L_law_1078 : decode b_L_law 1078 = .ok (.iadd, 1) := by decide +kernel
theorem d_L_law_1079 : decode b_L_law 1079 = .ok (.iaload, 1) := by decide +kernel
theorem d_L_law_1080 : decode b_L_law 1080 = .ok (.aload_n 3, 1) := by decide +kernel
theorem d_L_law_1081 : decode b_L_law 1081 = .ok (.invokestatic 118, 3) := by decide +kernel
theorem d_L_law_1084 : decode b_L_law 1084 = .ok (.istore 5, 2) := by decide +kernel
theorem d_L_law_1086 : decode b_L_law 1086 = .ok (.aload_n 2, 1) := by decide +kernel
theorem d_L_law_1087 : decode b_L_law 1087 = .ok (.aload_n 0, 1) := by decide +kernel
theorem d_L_law_1088 : decode b_L_law 1088 = .ok (.iload 4, 2) := by decide +kernel
theorem d_L_law_1090 : decode b_L_law 1090 = .ok (.iconst 1, 1) := by decide +kernel
theorem d_L_law_1091 : decode b_L_law 1091 = .ok (.iadd, 1) := by decide +kernel
theorem d_L_law_1092 : decode b_L_law 1092 = .ok (.iaload, 1) := by decide +kernel
theorem d_L_law_1093 : decode b_L_law 1093 = .ok (.invokevirtual 120, 3) := by decide +kernel
theorem d_L_law_1096 : decode b_L_law 1096 = .ok (.istore 6, 2) := by decide +kernel
theorem d_L_law_1098 : decode b_L_law 1098 = .ok (.aload_n 2, 1) := by decide +kernel
theorem d_L_law_1099 : decode b_L_law 1099 = .ok (.invokevirtual 68, 3) := by decide +kernel
theorem d_L_law_1102 : decode b_L_law 1102 = .ok (.iload 5, 2) := by decide +kernel
theorem d_L_law_1104 : decode b_L_law 1104 = .ok (.if_icmp .eq 5, 3) := by decide +kernel
