theorem d_L_law_1107 : decode b_L_law 1107 = .ok (.iconst 0, 1) := by decide +kernel
theorem d_L_law_1108 : decode b_L_law 1108 = .ok (.ireturn, 1) := by decide +kernel
theorem d_L_law_1109 : decode b_L_law 1109 = .ok (.iload 5, 2) := by decide +kernel
theorem d_L_law_1111 : decode b_L_law 1111 = .ok (.ifCond .ne 15, 3) := by decide +kernel
theorem d_L_law_1114 : decode b_L_law 1114 = .ok (.aload_n 3, 1) := by decide +kernel
theorem d_L_law_1115 : decode b_L_law 1115 = .ok (.iconst 0, 1) := by decide +kernel
theorem d_L_law_1116 : decode b_L_law 1116 = .ok (.laload, 1) := by decide +kernel
theorem d_L_law_1117 : decode b_L_law 1117 = .ok (.iload 6, 2) := by decide +kernel
theorem d_L_law_1119 : decode b_L_law 1119 = .ok (.i2l, 1) := by decide +kernel
theorem d_L_law_1120 : decode b_L_law 1120 = .ok (.lcmp, 1) := by decide +kernel
theorem d_L_law_1121 : decode b_L_law 1121 = .ok (.ifCond .eq 5, 3) := by decide +kernel
theorem d_L_law_1124 : decode b_L_law 1124 = .ok (.iconst 0, 1) := by decide +kernel
theorem d_L_law_1125 : decode b_L_law 1125 = .ok (.ireturn, 1) := by decide +kernel
theorem d_L_law_1126 : decode b_L_law 1126 = .ok (.goto 96, 3) := by decide +kernel
theorem d_L_law_1129 : decode b_L_law 1129 = .ok (.aload_n 1, 1) := by decide +kernel
theorem d_L_law_1130 : decode b_L_law 1130 = .ok (.aload_n 0, 1) := by decide +kernel
theorem d_L_law_1131 : decode b_L_law 1131 = .ok (.iload 4, 2) := by decide +kernel
theorem d_L_law_1133 : decode b_L_law 1133 = .ok (.iconst 1, 1) := by decide +kernel
theorem d_L_law_1134 : decode b_L_law 1134 = .ok (.iadd, 1) := by decide +kernel
theorem d_L_law_1135 : decode b_L_law 1135 = .ok (.iaload, 1) := by decide +kernel
theorem d_L_law_1136 : decode b_L_law 1136 = .ok (.aload_n 0, 1) := by decide +kernel
theorem d_L_law_1137 : decode b_L_law 1137 = .ok (.iload 4, 2) := by decide +kernel
theorem d_L_law_1139 : decode b_L_law 1139 = .ok (.iconst 2, 1) := by decide +kernel
theorem d_L_law_1140 : decode b_L_law 1140 = .ok (.iadd, 1) := by decide +kernel
theorem d_L_law_1141 : decode b_L_law 1141 = .ok (.iaload, 1) := by decide +kernel
theorem d_L_law_1142 : decode b_L_law 1142 = .ok (.aload_n 3, 1) := by decide +kernel
theorem d_L_law_1143 : decode b_L_law 1143 = .ok (.invokestatic 121, 3) := by decide +kernel
theorem d_L_law_1146 : decode b_L_law 1146 = .ok (.istore 5, 2) := by decide +kernel
theorem d_L_law_1148 : decode b_L_law 1148 = .ok (.aload_n 2, 1) := by decide +kernel
theorem d_L_law_1149 : decode b_L_law 1149 = .ok (.aload_n 0, 1) := by decide +kernel
theorem d_L_law_1150 : decode b_L_law 1150 = .ok (.iload 4, 2) := by decide +kernel
theorem d_L_law_1152 : decode b_L_law 1152 = .ok (.iconst 1, 1) := by decide +kernel
theorem d_L_law_1153 : decode b_L_law 1153 = .ok (.iadd, 1) := by decide +kernel
theorem d_L_law_1154 : decode b_L_law 1154 = .ok (.iaload, 1) := by decide +kernel
theorem d_L_law_1155 : decode b_L_law 1155 = .ok (.aload_n 0, 1) := by decide +kernel
theorem d_L_law_1156 : decode b_L_law 1156 = .ok (.iload 4, 2) := by decide +kernel
theorem d_L_law_1158 : decode b_L_law 1158 = .ok (.iconst 2, 1) := by decide +kernel
theorem d_L_law_1159 : decode b_L_law 1159 = .ok (.iadd, 1) := by decide +kernel
theorem d_L_law_1160 : decode b_L_law 1160 = .ok (.iaload, 1) := by decide +kernel
theorem d_L_law_1161 : decode b_L_law 1161 = .ok (.invokevirtual 123, 3) := by decide +kernel
theorem d_L_law_1164 : decode b_L_law 1164 = .ok (.istore 6, 2) := by decide +kernel
theorem d_L_law_1166 : decode b_L_law 1166 = .ok (.aload_n 2, 1) := by decide +kernel
theorem d_L_law_1167 : decode b_L_law 1167 = .ok (.invokevirtual 68, 3) := by decide +kernel
theorem d_L_law_1170 : decode b_L_law 1170 = .ok (.iload 5, 2) := by decide +kernel
theorem d_L_law_1172 : decode b_L_law 1172 = .ok (.if_icmp .eq 5, 3) := by decide +kernel
theorem d_L_law_1175 : decode b_L_law 1175 = .ok (.iconst 0, 1) := by decide +kernel
theorem d_L_law_1176 : decode b_L_law 1176 = .ok (.ireturn, 1) := by decide +kernel
theorem d_L_law_1177 : decode b_L_law 1177 = .ok (.iload 5, 2) := by decide +kernel
theorem d_L_law_1179 : decode b_L_law 1179 = .ok (.ifCond .ne 15, 3) := by decide +kernel
theorem d_L_law_1182 : decode b_L_law 1182 = .ok (.aload_n 3, 1) := by decide +kernel
