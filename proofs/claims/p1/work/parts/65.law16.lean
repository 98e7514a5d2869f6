theorem d_L_law_1183 : decode b_L_law 1183 = .ok (.iconst 0, 1) := by decide +kernel
theorem d_L_law_1184 : decode b_L_law 1184 = .ok (.laload, 1) := by decide +kernel
theorem d_L_law_1185 : decode b_L_law 1185 = .ok (.iload 6, 2) := by decide +kernel
theorem d_L_law_1187 : decode b_L_law 1187 = .ok (.i2l, 1) := by decide +kernel
theorem d_L_law_1188 : decode b_L_law 1188 = .ok (.lcmp, 1) := by decide +kernel
theorem d_L_law_1189 : decode b_L_law 1189 = .ok (.ifCond .eq 5, 3) := by decide +kernel
theorem d_L_law_1192 : decode b_L_law 1192 = .ok (.iconst 0, 1) := by decide +kernel
theorem d_L_law_1193 : decode b_L_law 1193 = .ok (.ireturn, 1) := by decide +kernel
theorem d_L_law_1194 : decode b_L_law 1194 = .ok (.goto 28, 3) := by decide +kernel
theorem d_L_law_1197 : decode b_L_law 1197 = .ok (.aload_n 1, 1) := by decide +kernel
theorem d_L_law_1198 : decode b_L_law 1198 = .ok (.aload_n 0, 1) := by decide +kernel
theorem d_L_law_1199 : decode b_L_law 1199 = .ok (.iload 4, 2) := by decide +kernel
theorem d_L_law_1201 : decode b_L_law 1201 = .ok (.iconst 1, 1) := by decide +kernel
theorem d_L_law_1202 : decode b_L_law 1202 = .ok (.iadd, 1) := by decide +kernel
theorem d_L_law_1203 : decode b_L_law 1203 = .ok (.iaload, 1) := by decide +kernel
theorem d_L_law_1204 : decode b_L_law 1204 = .ok (.invokevirtual 124, 3) := by decide +kernel
theorem d_L_law_1207 : decode b_L_law 1207 = .ok (.aload_n 2, 1) := by decide +kernel
theorem d_L_law_1208 : decode b_L_law 1208 = .ok (.aload_n 0, 1) := by decide +kernel
theorem d_L_law_1209 : decode b_L_law 1209 = .ok (.iload 4, 2) := by decide +kernel
theorem d_L_law_1211 : decode b_L_law 1211 = .ok (.iconst 1, 1) := by decide +kernel
theorem d_L_law_1212 : decode b_L_law 1212 = .ok (.iadd, 1) := by decide +kernel
theorem d_L_law_1213 : decode b_L_law 1213 = .ok (.iaload, 1) := by decide +kernel
theorem d_L_law_1214 : decode b_L_law 1214 = .ok (.invokevirtual 127, 3) := by decide +kernel
theorem d_L_law_1217 : decode b_L_law 1217 = .ok (.if_icmp .eq 5, 3) := by decide +kernel
theorem d_L_law_1220 : decode b_L_law 1220 = .ok (.iconst 0, 1) := by decide +kernel
theorem d_L_law_1221 : decode b_L_law 1221 = .ok (.ireturn, 1) := by decide +kernel
theorem d_L_law_1222 : decode b_L_law 1222 = .ok (.iinc 4 5, 3) := by decide +kernel
theorem d_L_law_1225 : decode b_L_law 1225 = .ok (.goto (-1202), 3) := by decide +kernel
theorem d_L_law_1228 : decode b_L_law 1228 = .ok (.iconst 1, 1) := by decide +kernel
theorem d_L_law_1229 : decode b_L_law 1229 = .ok (.ireturn, 1) := by decide +kernel
