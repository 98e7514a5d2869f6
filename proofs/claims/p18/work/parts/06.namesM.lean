abbrev b_M_init : ByteArray := prog_5_method_1_code
def y_M_init : MethodName := ⟨R_M, "<init>", "()V"⟩
theorem d_M_init_0 : decode b_M_init 0 = .ok (.aload_n 0, 1) := by decide +kernel
theorem d_M_init_1 : decode b_M_init 1 = .ok (.invokespecial 1, 3) := by decide +kernel
theorem d_M_init_4 : decode b_M_init 4 = .ok (.aload_n 0, 1) := by decide +kernel
theorem d_M_init_5 : decode b_M_init 5 = .ok (.bipush 60, 2) := by decide +kernel
theorem d_M_init_7 : decode b_M_init 7 = .ok (.newarray .boolean, 2) := by decide +kernel
theorem d_M_init_9 : decode b_M_init 9 = .ok (.putfield 7, 3) := by decide +kernel
theorem d_M_init_12 : decode b_M_init 12 = .ok (.aload_n 0, 1) := by decide +kernel
theorem d_M_init_13 : decode b_M_init 13 = .ok (.bipush 30, 2) := by decide +kernel
theorem d_M_init_15 : decode b_M_init 15 = .ok (.newarray .int, 2) := by decide +kernel
theorem d_M_init_17 : decode b_M_init 17 = .ok (.putfield 13, 3) := by decide +kernel
theorem d_M_init_20 : decode b_M_init 20 = .ok (.aload_n 0, 1) := by decide +kernel
theorem d_M_init_21 : decode b_M_init 21 = .ok (.bipush 30, 2) := by decide +kernel
theorem d_M_init_23 : decode b_M_init 23 = .ok (.newarray .int, 2) := by decide +kernel
theorem d_M_init_25 : decode b_M_init 25 = .ok (.putfield 17, 3) := by decide +kernel
theorem d_M_init_28 : decode b_M_init 28 = .ok (.aload_n 0, 1) := by decide +kernel
theorem d_M_init_29 : decode b_M_init 29 = .ok (.bipush 30, 2) := by decide +kernel
theorem d_M_init_31 : decode b_M_init 31 = .ok (.newarray .int, 2) := by decide +kernel
theorem d_M_init_33 : decode b_M_init 33 = .ok (.putfield 20, 3) := by decide +kernel
theorem d_M_init_36 : decode b_M_init 36 = .ok (.aload_n 0, 1) := by decide +kernel
theorem d_M_init_37 : decode b_M_init 37 = .ok (.bipush 30, 2) := by decide +kernel
theorem d_M_init_39 : decode b_M_init 39 = .ok (.newarray .int, 2) := by decide +kernel
theorem d_M_init_41 : decode b_M_init 41 = .ok (.putfield 23, 3) := by decide +kernel
theorem d_M_init_44 : decode b_M_init 44 = .ok (.aload_n 0, 1) := by decide +kernel
theorem d_M_init_45 : decode b_M_init 45 = .ok (.bipush 30, 2) := by decide +kernel
theorem d_M_init_47 : decode b_M_init 47 = .ok (.newarray .int, 2) := by decide +kernel
theorem d_M_init_49 : decode b_M_init 49 = .ok (.putfield 26, 3) := by decide +kernel
theorem d_M_init_52 : decode b_M_init 52 = .ok (.aload_n 0, 1) := by decide +kernel
theorem d_M_init_53 : decode b_M_init 53 = .ok (.bipush 30, 2) := by decide +kernel
theorem d_M_init_55 : decode b_M_init 55 = .ok (.newarray .int, 2) := by decide +kernel
theorem d_M_init_57 : decode b_M_init 57 = .ok (.putfield 29, 3) := by decide +kernel
theorem d_M_init_60 : decode b_M_init 60 = .ok (.aload_n 0, 1) := by decide +kernel
theorem d_M_init_61 : decode b_M_init 61 = .ok (.bipush 30, 2) := by decide +kernel
theorem d_M_init_63 : decode b_M_init 63 = .ok (.newarray .int, 2) := by decide +kernel
theorem d_M_init_65 : decode b_M_init 65 = .ok (.putfield 32, 3) := by decide +kernel
theorem d_M_init_68 : decode b_M_init 68 = .ok (.aload_n 0, 1) := by decide +kernel
theorem d_M_init_69 : decode b_M_init 69 = .ok (.bipush 30, 2) := by decide +kernel
theorem d_M_init_71 : decode b_M_init 71 = .ok (.newarray .int, 2) := by decide +kernel
theorem d_M_init_73 : decode b_M_init 73 = .ok (.putfield 35, 3) := by decide +kernel
theorem d_M_init_76 : decode b_M_init 76 = .ok (.aload_n 0, 1) := by decide +kernel
theorem d_M_init_77 : decode b_M_init 77 = .ok (.bipush 30, 2) := by decide +kernel
theorem d_M_init_79 : decode b_M_init 79 = .ok (.newarray .int, 2) := by decide +kernel
theorem d_M_init_81 : decode b_M_init 81 = .ok (.putfield 38, 3) := by decide +kernel
theorem d_M_init_84 : decode b_M_init 84 = .ok (.aload_n 0, 1) := by decide +kernel
theorem d_M_init_85 : decode b_M_init 85 = .ok (.bipush 30, 2) := by decide +kernel
theorem d_M_init_87 : decode b_M_init 87 = .ok (.newarray .int, 2) := by decide +kernel
theorem d_M_init_89 : decode b_M_init 89 = .ok (.putfield 41, 3) := by decide +kernel
theorem d_M_init_92 : decode b_M_init 92 = .ok (.aload_n 0, 1) := by decide +kernel
theorem d_M_init_93 : decode b_M_init 93 = .ok (.bipush 10, 2) := by decide +kernel
theorem d_M_init_95 : decode b_M_init 95 = .ok (.newarray .int, 2) := by decide +kernel
theorem d_M_init_97 : decode b_M_init 97 = .ok (.putfield 44, 3) := by decide +kernel
theorem d_M_init_100 : decode b_M_init 100 = .ok (.aload_n 0, 1) := by decide +kernel
theorem d_M_init_101 : decode b_M_init 101 = .ok (.bipush 10, 2) := by decide +kernel
theorem d_M_init_103 : decode b_M_init 103 = .ok (.newarray .boolean, 2) := by decide +kernel
theorem d_M_init_105 : decode b_M_init 105 = .ok (.putfield 47, 3) := by decide +kernel
theorem d_M_init_108 : decode b_M_init 108 = .ok (.aload_n 0, 1) := by decide +kernel
theorem d_M_init_109 : decode b_M_init 109 = .ok (.bipush 10, 2) := by decide +kernel
theorem d_M_init_111 : decode b_M_init 111 = .ok (.newarray .int, 2) := by decide +kernel
theorem d_M_init_113 : decode b_M_init 113 = .ok (.putfield 50, 3) := by decide +kernel
theorem d_M_init_116 : decode b_M_init 116 = .ok (.aload_n 0, 1) := by decide +kernel
theorem d_M_init_117 : decode b_M_init 117 = .ok (.bipush 40, 2) := by decide +kernel
theorem d_M_init_119 : decode b_M_init 119 = .ok (.newarray .int, 2) := by decide +kernel
theorem d_M_init_121 : decode b_M_init 121 = .ok (.putfield 53, 3) := by decide +kernel
theorem d_M_init_124 : decode b_M_init 124 = .ok (.aload_n 0, 1) := by decide +kernel
theorem d_M_init_125 : decode b_M_init 125 = .ok (.bipush 40, 2) := by decide +kernel
theorem d_M_init_127 : decode b_M_init 127 = .ok (.newarray .int, 2) := by decide +kernel
theorem d_M_init_129 : decode b_M_init 129 = .ok (.putfield 56, 3) := by decide +kernel
theorem d_M_init_132 : decode b_M_init 132 = .ok (.aload_n 0, 1) := by decide +kernel
theorem d_M_init_133 : decode b_M_init 133 = .ok (.bipush 40, 2) := by decide +kernel
theorem d_M_init_135 : decode b_M_init 135 = .ok (.newarray .int, 2) := by decide +kernel
theorem d_M_init_137 : decode b_M_init 137 = .ok (.putfield 59, 3) := by decide +kernel
theorem d_M_init_140 : decode b_M_init 140 = .ok (.aload_n 0, 1) := by decide +kernel
theorem d_M_init_141 : decode b_M_init 141 = .ok (.sipush 160, 3) := by decide +kernel
theorem d_M_init_144 : decode b_M_init 144 = .ok (.newarray .int, 2) := by decide +kernel
theorem d_M_init_146 : decode b_M_init 146 = .ok (.putfield 62, 3) := by decide +kernel
theorem d_M_init_149 : decode b_M_init 149 = .ok (.aload_n 0, 1) := by decide +kernel
theorem d_M_init_150 : decode b_M_init 150 = .ok (.sipush 160, 3) := by decide +kernel
theorem d_M_init_153 : decode b_M_init 153 = .ok (.newarray .boolean, 2) := by decide +kernel
theorem d_M_init_155 : decode b_M_init 155 = .ok (.putfield 65, 3) := by decide +kernel
theorem d_M_init_158 : decode b_M_init 158 = .ok (.aload_n 0, 1) := by decide +kernel
theorem d_M_init_159 : decode b_M_init 159 = .ok (.iconst 4, 1) := by decide +kernel
theorem d_M_init_160 : decode b_M_init 160 = .ok (.newarray .int, 2) := by decide +kernel
theorem d_M_init_162 : decode b_M_init 162 = .ok (.putfield 68, 3) := by decide +kernel
theorem d_M_init_165 : decode b_M_init 165 = .ok (.aload_n 0, 1) := by decide +kernel
theorem d_M_init_166 : decode b_M_init 166 = .ok (.iconst 4, 1) := by decide +kernel
theorem d_M_init_167 : decode b_M_init 167 = .ok (.newarray .int, 2) := by decide +kernel
theorem d_M_init_169 : decode b_M_init 169 = .ok (.putfield 71, 3) := by decide +kernel
theorem d_M_init_172 : decode b_M_init 172 = .ok (.iconst 0, 1) := by decide +kernel
theorem d_M_init_173 : decode b_M_init 173 = .ok (.istore_n 1, 1) := by decide +kernel
theorem d_M_init_174 : decode b_M_init 174 = .ok (.iload_n 1, 1) := by decide +kernel
theorem d_M_init_175 : decode b_M_init 175 = .ok (.bipush 40, 2) := by decide +kernel
theorem d_M_init_177 : decode b_M_init 177 = .ok (.if_icmp .ge 16, 3) := by decide +kernel
theorem d_M_init_180 : decode b_M_init 180 = .ok (.aload_n 0, 1) := by decide +kernel
theorem d_M_init_181 : decode b_M_init 181 = .ok (.getfield 53, 3) := by decide +kernel
theorem d_M_init_184 : decode b_M_init 184 = .ok (.iload_n 1, 1) := by decide +kernel
theorem d_M_init_185 : decode b_M_init 185 = .ok (.iconst (-1), 1) := by decide +kernel
theorem d_M_init_186 : decode b_M_init 186 = .ok (.iastore, 1) := by decide +kernel
theorem d_M_init_187 : decode b_M_init 187 = .ok (.iinc 1 1, 3) := by decide +kernel
theorem d_M_init_190 : decode b_M_init 190 = .ok (.goto (-16), 3) := by decide +kernel
theorem d_M_init_193 : decode b_M_init 193 = .ok (.iconst 0, 1) := by decide +kernel
theorem d_M_init_194 : decode b_M_init 194 = .ok (.istore_n 1, 1) := by decide +kernel
theorem d_M_init_195 : decode b_M_init 195 = .ok (.iload_n 1, 1) := by decide +kernel
theorem d_M_init_196 : decode b_M_init 196 = .ok (.sipush 160, 3) := by decide +kernel
theorem d_M_init_199 : decode b_M_init 199 = .ok (.if_icmp .ge 16, 3) := by decide +kernel
theorem d_M_init_202 : decode b_M_init 202 = .ok (.aload_n 0, 1) := by decide +kernel
theorem d_M_init_203 : decode b_M_init 203 = .ok (.getfield 62, 3) := by decide +kernel
theorem d_M_init_206 : decode b_M_init 206 = .ok (.iload_n 1, 1) := by decide +kernel
theorem d_M_init_207 : decode b_M_init 207 = .ok (.iconst (-1), 1) := by decide +kernel
theorem d_M_init_208 : decode b_M_init 208 = .ok (.iastore, 1) := by decide +kernel
theorem d_M_init_209 : decode b_M_init 209 = .ok (.iinc 1 1, 3) := by decide +kernel
theorem d_M_init_212 : decode b_M_init 212 = .ok (.goto (-17), 3) := by decide +kernel
theorem d_M_init_215 : decode b_M_init 215 = .ok (.return_, 1) := by decide +kernel
abbrev b_M_in : ByteArray := prog_5_method_3_code
def y_M_in : MethodName := ⟨R_M, "in", "(III)Z"⟩
theorem d_M_in_0 : decode b_M_in 0 = .ok (.iload_n 0, 1) := by decide +kernel
theorem d_M_in_1 : decode b_M_in 1 = .ok (.iload_n 1, 1) := by decide +kernel
theorem d_M_in_2 : decode b_M_in 2 = .ok (.if_icmp .lt 12, 3) := by decide +kernel
theorem d_M_in_5 : decode b_M_in 5 = .ok (.iload_n 0, 1) := by decide +kernel
theorem d_M_in_6 : decode b_M_in 6 = .ok (.iload_n 2, 1) := by decide +kernel
theorem d_M_in_7 : decode b_M_in 7 = .ok (.if_icmp .gt 7, 3) := by decide +kernel
theorem d_M_in_10 : decode b_M_in 10 = .ok (.iconst 1, 1) := by decide +kernel
theorem d_M_in_11 : decode b_M_in 11 = .ok (.goto 4, 3) := by decide +kernel
theorem d_M_in_14 : decode b_M_in 14 = .ok (.iconst 0, 1) := by decide +kernel
theorem d_M_in_15 : decode b_M_in 15 = .ok (.ireturn, 1) := by decide +kernel
abbrev b_M_isTen : ByteArray := prog_5_method_4_code
def y_M_isTen : MethodName := ⟨R_M, "isTen", "(I)Z"⟩
theorem d_M_isTen_0 : decode b_M_isTen 0 = .ok (.iload_n 0, 1) := by decide +kernel
theorem d_M_isTen_1 : decode b_M_isTen 1 = .ok (.ifCond .lt 13, 3) := by decide +kernel
theorem d_M_isTen_4 : decode b_M_isTen 4 = .ok (.iload_n 0, 1) := by decide +kernel
theorem d_M_isTen_5 : decode b_M_isTen 5 = .ok (.bipush 10, 2) := by decide +kernel
theorem d_M_isTen_7 : decode b_M_isTen 7 = .ok (.if_icmp .ge 7, 3) := by decide +kernel
theorem d_M_isTen_10 : decode b_M_isTen 10 = .ok (.iconst 1, 1) := by decide +kernel
theorem d_M_isTen_11 : decode b_M_isTen 11 = .ok (.goto 4, 3) := by decide +kernel
theorem d_M_isTen_14 : decode b_M_isTen 14 = .ok (.iconst 0, 1) := by decide +kernel
theorem d_M_isTen_15 : decode b_M_isTen 15 = .ok (.ireturn, 1) := by decide +kernel
abbrev b_M_isOne : ByteArray := prog_5_method_5_code
def y_M_isOne : MethodName := ⟨R_M, "isOne", "(I)Z"⟩
theorem d_M_isOne_0 : decode b_M_isOne 0 = .ok (.iload_n 1, 1) := by decide +kernel
theorem d_M_isOne_1 : decode b_M_isOne 1 = .ok (.ifCond .lt 15, 3) := by decide +kernel
theorem d_M_isOne_4 : decode b_M_isOne 4 = .ok (.iload_n 1, 1) := by decide +kernel
theorem d_M_isOne_5 : decode b_M_isOne 5 = .ok (.aload_n 0, 1) := by decide +kernel
theorem d_M_isOne_6 : decode b_M_isOne 6 = .ok (.getfield 78, 3) := by decide +kernel
theorem d_M_isOne_9 : decode b_M_isOne 9 = .ok (.if_icmp .ge 7, 3) := by decide +kernel
theorem d_M_isOne_12 : decode b_M_isOne 12 = .ok (.iconst 1, 1) := by decide +kernel
theorem d_M_isOne_13 : decode b_M_isOne 13 = .ok (.goto 4, 3) := by decide +kernel
theorem d_M_isOne_16 : decode b_M_isOne 16 = .ok (.iconst 0, 1) := by decide +kernel
theorem d_M_isOne_17 : decode b_M_isOne 17 = .ok (.ireturn, 1) := by decide +kernel
abbrev b_M_isTime : ByteArray := prog_5_method_6_code
def y_M_isTime : MethodName := ⟨R_M, "isTime", "(I)Z"⟩
theorem d_M_isTime_0 : decode b_M_isTime 0 = .ok (.iload_n 1, 1) := by decide +kernel
theorem d_M_isTime_1 : decode b_M_isTime 1 = .ok (.aload_n 0, 1) := by decide +kernel
theorem d_M_isTime_2 : decode b_M_isTime 2 = .ok (.getfield 81, 3) := by decide +kernel
theorem d_M_isTime_5 : decode b_M_isTime 5 = .ok (.if_icmp .lt 13, 3) := by decide +kernel
theorem d_M_isTime_8 : decode b_M_isTime 8 = .ok (.iload_n 1, 1) := by decide +kernel
theorem d_M_isTime_9 : decode b_M_isTime 9 = .ok (.ldc 84, 2) := by decide +kernel
theorem d_M_isTime_11 : decode b_M_isTime 11 = .ok (.if_icmp .gt 7, 3) := by decide +kernel
theorem d_M_isTime_14 : decode b_M_isTime 14 = .ok (.iconst 1, 1) := by decide +kernel
theorem d_M_isTime_15 : decode b_M_isTime 15 = .ok (.goto 4, 3) := by decide +kernel
theorem d_M_isTime_18 : decode b_M_isTime 18 = .ok (.iconst 0, 1) := by decide +kernel
theorem d_M_isTime_19 : decode b_M_isTime 19 = .ok (.ireturn, 1) := by decide +kernel
abbrev b_M_may : ByteArray := prog_5_method_7_code
def y_M_may : MethodName := ⟨R_M, "may", "(II)Z"⟩
theorem d_M_may_0 : decode b_M_may 0 = .ok (.aload_n 0, 1) := by decide +kernel
theorem d_M_may_1 : decode b_M_may 1 = .ok (.getfield 7, 3) := by decide +kernel
theorem d_M_may_4 : decode b_M_may 4 = .ok (.bipush 6, 2) := by decide +kernel
theorem d_M_may_6 : decode b_M_may 6 = .ok (.iload_n 1, 1) := by decide +kernel
theorem d_M_may_7 : decode b_M_may 7 = .ok (.imul, 1) := by decide +kernel
theorem d_M_may_8 : decode b_M_may 8 = .ok (.iload_n 2, 1) := by decide +kernel
theorem d_M_may_9 : decode b_M_may 9 = .ok (.iadd, 1) := by decide +kernel
theorem d_M_may_10 : decode b_M_may 10 = .ok (.baload, 1) := by decide +kernel
theorem d_M_may_11 : decode b_M_may 11 = .ok (.ireturn, 1) := by decide +kernel
abbrev b_M_right : ByteArray := prog_5_method_8_code
def y_M_right : MethodName := ⟨R_M, "right", "(IIZ)Z"⟩
theorem d_M_right_0 : decode b_M_right 0 = .ok (.aload_n 0, 1) := by decide +kernel
theorem d_M_right_1 : decode b_M_right 1 = .ok (.iconst 0, 1) := by decide +kernel
theorem d_M_right_2 : decode b_M_right 2 = .ok (.putfield 74, 3) := by decide +kernel
theorem d_M_right_5 : decode b_M_right 5 = .ok (.iload_n 1, 1) := by decide +kernel
theorem d_M_right_6 : decode b_M_right 6 = .ok (.invokestatic 85, 3) := by decide +kernel
theorem d_M_right_9 : decode b_M_right 9 = .ok (.ifCond .eq 22, 3) := by decide +kernel
theorem d_M_right_12 : decode b_M_right 12 = .ok (.iload_n 2, 1) := by decide +kernel
theorem d_M_right_13 : decode b_M_right 13 = .ok (.iconst 0, 1) := by decide +kernel
theorem d_M_right_14 : decode b_M_right 14 = .ok (.iconst 5, 1) := by decide +kernel
theorem d_M_right_15 : decode b_M_right 15 = .ok (.invokestatic 89, 3) := by decide +kernel
theorem d_M_right_18 : decode b_M_right 18 = .ok (.ifCond .eq 13, 3) := by decide +kernel
theorem d_M_right_21 : decode b_M_right 21 = .ok (.aload_n 0, 1) := by decide +kernel
theorem d_M_right_22 : decode b_M_right 22 = .ok (.iload_n 1, 1) := by decide +kernel
theorem d_M_right_23 : decode b_M_right 23 = .ok (.iload_n 2, 1) := by decide +kernel
theorem d_M_right_24 : decode b_M_right 24 = .ok (.invokevirtual 93, 3) := by decide +kernel
theorem d_M_right_27 : decode b_M_right 27 = .ok (.iload_n 3, 1) := by decide +kernel
theorem d_M_right_28 : decode b_M_right 28 = .ok (.if_icmp .ne 5, 3) := by decide +kernel
theorem d_M_right_31 : decode b_M_right 31 = .ok (.iconst 0, 1) := by decide +kernel
theorem d_M_right_32 : decode b_M_right 32 = .ok (.ireturn, 1) := by decide +kernel
theorem d_M_right_33 : decode b_M_right 33 = .ok (.aload_n 0, 1) := by decide +kernel
theorem d_M_right_34 : decode b_M_right 34 = .ok (.getfield 7, 3) := by decide +kernel
theorem d_M_right_37 : decode b_M_right 37 = .ok (.bipush 6, 2) := by decide +kernel
theorem d_M_right_39 : decode b_M_right 39 = .ok (.iload_n 1, 1) := by decide +kernel
theorem d_M_right_40 : decode b_M_right 40 = .ok (.imul, 1) := by decide +kernel
theorem d_M_right_41 : decode b_M_right 41 = .ok (.iload_n 2, 1) := by decide +kernel
theorem d_M_right_42 : decode b_M_right 42 = .ok (.iadd, 1) := by decide +kernel
theorem d_M_right_43 : decode b_M_right 43 = .ok (.iload_n 3, 1) := by decide +kernel
theorem d_M_right_44 : decode b_M_right 44 = .ok (.bastore, 1) := by decide +kernel
theorem d_M_right_45 : decode b_M_right 45 = .ok (.iconst 1, 1) := by decide +kernel
theorem d_M_right_46 : decode b_M_right 46 = .ok (.ireturn, 1) := by decide +kernel
abbrev b_M_inspection : ByteArray := prog_5_method_9_code
def y_M_inspection : MethodName := ⟨R_M, "inspection", "(III)I"⟩
theorem d_M_inspection_0 : decode b_M_inspection 0 = .ok (.aload_n 0, 1) := by decide +kernel
theorem d_M_inspection_1 : decode b_M_inspection 1 = .ok (.iload_n 1, 1) := by decide +kernel
theorem d_M_inspection_2 : decode b_M_inspection 2 = .ok (.invokestatic 85, 3) := by decide +kernel
theorem d_M_inspection_5 : decode b_M_inspection 5 = .ok (.ifCond .eq 20, 3) := by decide +kernel
theorem d_M_inspection_8 : decode b_M_inspection 8 = .ok (.iload_n 2, 1) := by decide +kernel
theorem d_M_inspection_9 : decode b_M_inspection 9 = .ok (.iconst 0, 1) := by decide +kernel
theorem d_M_inspection_10 : decode b_M_inspection 10 = .ok (.iconst 4, 1) := by decide +kernel
theorem d_M_inspection_11 : decode b_M_inspection 11 = .ok (.invokestatic 89, 3) := by decide +kernel
theorem d_M_inspection_14 : decode b_M_inspection 14 = .ok (.ifCond .eq 11, 3) := by decide +kernel
theorem d_M_inspection_17 : decode b_M_inspection 17 = .ok (.aload_n 0, 1) := by decide +kernel
theorem d_M_inspection_18 : decode b_M_inspection 18 = .ok (.iload_n 3, 1) := by decide +kernel
theorem d_M_inspection_19 : decode b_M_inspection 19 = .ok (.invokevirtual 97, 3) := by decide +kernel
theorem d_M_inspection_22 : decode b_M_inspection 22 = .ok (.ifCond .ne 7, 3) := by decide +kernel
theorem d_M_inspection_25 : decode b_M_inspection 25 = .ok (.iconst 1, 1) := by decide +kernel
theorem d_M_inspection_26 : decode b_M_inspection 26 = .ok (.goto 17, 3) := by decide +kernel
theorem d_M_inspection_29 : decode b_M_inspection 29 = .ok (.aload_n 0, 1) := by decide +kernel
theorem d_M_inspection_30 : decode b_M_inspection 30 = .ok (.getfield 78, 3) := by decide +kernel
theorem d_M_inspection_33 : decode b_M_inspection 33 = .ok (.bipush 30, 2) := by decide +kernel
theorem d_M_inspection_35 : decode b_M_inspection 35 = .ok (.if_icmp .ne 7, 3) := by decide +kernel
theorem d_M_inspection_38 : decode b_M_inspection 38 = .ok (.iconst 2, 1) := by decide +kernel
theorem d_M_inspection_39 : decode b_M_inspection 39 = .ok (.goto 4, 3) := by decide +kernel
theorem d_M_inspection_42 : decode b_M_inspection 42 = .ok (.iconst 0, 1) := by decide +kernel
theorem d_M_inspection_43 : decode b_M_inspection 43 = .ok (.putfield 74, 3) := by decide +kernel
theorem d_M_inspection_46 : decode b_M_inspection 46 = .ok (.aload_n 0, 1) := by decide +kernel
theorem d_M_inspection_47 : decode b_M_inspection 47 = .ok (.getfield 74, 3) := by decide +kernel
theorem d_M_inspection_50 : decode b_M_inspection 50 = .ok (.ifCond .le 5, 3) := by decide +kernel
theorem d_M_inspection_53 : decode b_M_inspection 53 = .ok (.iconst 0, 1) := by decide +kernel
theorem d_M_inspection_54 : decode b_M_inspection 54 = .ok (.ireturn, 1) := by decide +kernel
theorem d_M_inspection_55 : decode b_M_inspection 55 = .ok (.aload_n 0, 1) := by decide +kernel
theorem d_M_inspection_56 : decode b_M_inspection 56 = .ok (.getfield 13, 3) := by decide +kernel
theorem d_M_inspection_59 : decode b_M_inspection 59 = .ok (.aload_n 0, 1) := by decide +kernel
theorem d_M_inspection_60 : decode b_M_inspection 60 = .ok (.getfield 78, 3) := by decide +kernel
theorem d_M_inspection_63 : decode b_M_inspection 63 = .ok (.iload_n 1, 1) := by decide +kernel
theorem d_M_inspection_64 : decode b_M_inspection 64 = .ok (.iastore, 1) := by decide +kernel
theorem d_M_inspection_65 : decode b_M_inspection 65 = .ok (.aload_n 0, 1) := by decide +kernel
theorem d_M_inspection_66 : decode b_M_inspection 66 = .ok (.getfield 17, 3) := by decide +kernel
theorem d_M_inspection_69 : decode b_M_inspection 69 = .ok (.aload_n 0, 1) := by decide +kernel
theorem d_M_inspection_70 : decode b_M_inspection 70 = .ok (.getfield 78, 3) := by decide +kernel
theorem d_M_inspection_73 : decode b_M_inspection 73 = .ok (.iload_n 2, 1) := by decide +kernel
theorem d_M_inspection_74 : decode b_M_inspection 74 = .ok (.iastore, 1) := by decide +kernel
theorem d_M_inspection_75 : decode b_M_inspection 75 = .ok (.aload_n 0, 1) := by decide +kernel
theorem d_M_inspection_76 : decode b_M_inspection 76 = .ok (.getfield 20, 3) := by decide +kernel
theorem d_M_inspection_79 : decode b_M_inspection 79 = .ok (.aload_n 0, 1) := by decide +kernel
theorem d_M_inspection_80 : decode b_M_inspection 80 = .ok (.getfield 78, 3) := by decide +kernel
theorem d_M_inspection_83 : decode b_M_inspection 83 = .ok (.iload_n 3, 1) := by decide +kernel
theorem d_M_inspection_84 : decode b_M_inspection 84 = .ok (.iastore, 1) := by decide +kernel
theorem d_M_inspection_85 : decode b_M_inspection 85 = .ok (.aload_n 0, 1) := by decide +kernel
theorem d_M_inspection_86 : decode b_M_inspection 86 = .ok (.getfield 38, 3) := by decide +kernel
theorem d_M_inspection_89 : decode b_M_inspection 89 = .ok (.aload_n 0, 1) := by decide +kernel
theorem d_M_inspection_90 : decode b_M_inspection 90 = .ok (.getfield 78, 3) := by decide +kernel
theorem d_M_inspection_93 : decode b_M_inspection 93 = .ok (.iconst (-1), 1) := by decide +kernel
theorem d_M_inspection_94 : decode b_M_inspection 94 = .ok (.iastore, 1) := by decide +kernel
theorem d_M_inspection_95 : decode b_M_inspection 95 = .ok (.aload_n 0, 1) := by decide +kernel
theorem d_M_inspection_96 : decode b_M_inspection 96 = .ok (.dup, 1) := by decide +kernel
theorem d_M_inspection_97 : decode b_M_inspection 97 = .ok (.getfield 78, 3) := by decide +kernel
theorem d_M_inspection_100 : decode b_M_inspection 100 = .ok (.iconst 1, 1) := by decide +kernel
theorem d_M_inspection_101 : decode b_M_inspection 101 = .ok (.iadd, 1) := by decide +kernel
theorem d_M_inspection_102 : decode b_M_inspection 102 = .ok (.putfield 78, 3) := by decide +kernel
theorem d_M_inspection_105 : decode b_M_inspection 105 = .ok (.aload_n 0, 1) := by decide +kernel
theorem d_M_inspection_106 : decode b_M_inspection 106 = .ok (.getfield 78, 3) := by decide +kernel
theorem d_M_inspection_109 : decode b_M_inspection 109 = .ok (.iconst 1, 1) := by decide +kernel
theorem d_M_inspection_110 : decode b_M_inspection 110 = .ok (.isub, 1) := by decide +kernel
theorem d_M_inspection_111 : decode b_M_inspection 111 = .ok (.ireturn, 1) := by decide +kernel
abbrev b_M_takesPlace : ByteArray := prog_5_method_10_code
def y_M_takesPlace : MethodName := ⟨R_M, "takesPlace", "(I)Z"⟩
theorem d_M_takesPlace_0 : decode b_M_takesPlace 0 = .ok (.aload_n 0, 1) := by decide +kernel
theorem d_M_takesPlace_1 : decode b_M_takesPlace 1 = .ok (.getfield 23, 3) := by decide +kernel
theorem d_M_takesPlace_4 : decode b_M_takesPlace 4 = .ok (.iload_n 1, 1) := by decide +kernel
theorem d_M_takesPlace_5 : decode b_M_takesPlace 5 = .ok (.iaload, 1) := by decide +kernel
theorem d_M_takesPlace_6 : decode b_M_takesPlace 6 = .ok (.iconst 1, 1) := by decide +kernel
theorem d_M_takesPlace_7 : decode b_M_takesPlace 7 = .ok (.if_icmp .eq 13, 3) := by decide +kernel
theorem d_M_takesPlace_10 : decode b_M_takesPlace 10 = .ok (.aload_n 0, 1) := by decide +kernel
theorem d_M_takesPlace_11 : decode b_M_takesPlace 11 = .ok (.getfield 23, 3) := by decide +kernel
theorem d_M_takesPlace_14 : decode b_M_takesPlace 14 = .ok (.iload_n 1, 1) := by decide +kernel
theorem d_M_takesPlace_15 : decode b_M_takesPlace 15 = .ok (.iaload, 1) := by decide +kernel
theorem d_M_takesPlace_16 : decode b_M_takesPlace 16 = .ok (.iconst 2, 1) := by decide +kernel
theorem d_M_takesPlace_17 : decode b_M_takesPlace 17 = .ok (.if_icmp .ne 7, 3) := by decide +kernel
theorem d_M_takesPlace_20 : decode b_M_takesPlace 20 = .ok (.iconst 1, 1) := by decide +kernel
theorem d_M_takesPlace_21 : decode b_M_takesPlace 21 = .ok (.goto 4, 3) := by decide +kernel
theorem d_M_takesPlace_24 : decode b_M_takesPlace 24 = .ok (.iconst 0, 1) := by decide +kernel
theorem d_M_takesPlace_25 : decode b_M_takesPlace 25 = .ok (.ireturn, 1) := by decide +kernel
abbrev b_M_plan : ByteArray := prog_5_method_11_code
def y_M_plan : MethodName := ⟨R_M, "plan", "(IIII)I"⟩
theorem d_M_plan_0 : decode b_M_plan 0 = .ok (.aload_n 0, 1) := by decide +kernel
theorem d_M_plan_1 : decode b_M_plan 1 = .ok (.aload_n 0, 1) := by decide +kernel
theorem d_M_plan_2 : decode b_M_plan 2 = .ok (.iload_n 1, 1) := by decide +kernel
theorem d_M_plan_3 : decode b_M_plan 3 = .ok (.invokevirtual 100, 3) := by decide +kernel
theorem d_M_plan_6 : decode b_M_plan 6 = .ok (.ifCond .eq 39, 3) := by decide +kernel
theorem d_M_plan_9 : decode b_M_plan 9 = .ok (.iload_n 2, 1) := by decide +kernel
theorem d_M_plan_10 : decode b_M_plan 10 = .ok (.iconst 0, 1) := by decide +kernel
theorem d_M_plan_11 : decode b_M_plan 11 = .ok (.iconst 3, 1) := by decide +kernel
theorem d_M_plan_12 : decode b_M_plan 12 = .ok (.invokestatic 89, 3) := by decide +kernel
theorem d_M_plan_15 : decode b_M_plan 15 = .ok (.ifCond .eq 30, 3) := by decide +kernel
theorem d_M_plan_18 : decode b_M_plan 18 = .ok (.aload_n 0, 1) := by decide +kernel
theorem d_M_plan_19 : decode b_M_plan 19 = .ok (.iload_n 3, 1) := by decide +kernel
theorem d_M_plan_20 : decode b_M_plan 20 = .ok (.invokevirtual 97, 3) := by decide +kernel
theorem d_M_plan_23 : decode b_M_plan 23 = .ok (.ifCond .eq 22, 3) := by decide +kernel
theorem d_M_plan_26 : decode b_M_plan 26 = .ok (.aload_n 0, 1) := by decide +kernel
theorem d_M_plan_27 : decode b_M_plan 27 = .ok (.iload 4, 2) := by decide +kernel
theorem d_M_plan_29 : decode b_M_plan 29 = .ok (.invokevirtual 97, 3) := by decide +kernel
theorem d_M_plan_32 : decode b_M_plan 32 = .ok (.ifCond .eq 13, 3) := by decide +kernel
theorem d_M_plan_35 : decode b_M_plan 35 = .ok (.iload_n 3, 1) := by decide +kernel
theorem d_M_plan_36 : decode b_M_plan 36 = .ok (.iload 4, 2) := by decide +kernel
theorem d_M_plan_38 : decode b_M_plan 38 = .ok (.if_icmp .ge 7, 3) := by decide +kernel
theorem d_M_plan_41 : decode b_M_plan 41 = .ok (.iconst 0, 1) := by decide +kernel
theorem d_M_plan_42 : decode b_M_plan 42 = .ok (.goto 4, 3) := by decide +kernel
theorem d_M_plan_45 : decode b_M_plan 45 = .ok (.iconst 1, 1) := by decide +kernel
theorem d_M_plan_46 : decode b_M_plan 46 = .ok (.putfield 74, 3) := by decide +kernel
theorem d_M_plan_49 : decode b_M_plan 49 = .ok (.aload_n 0, 1) := by decide +kernel
theorem d_M_plan_50 : decode b_M_plan 50 = .ok (.getfield 74, 3) := by decide +kernel
theorem d_M_plan_53 : decode b_M_plan 53 = .ok (.ifCond .gt 22, 3) := by decide +kernel
theorem d_M_plan_56 : decode b_M_plan 56 = .ok (.aload_n 0, 1) := by decide +kernel
theorem d_M_plan_57 : decode b_M_plan 57 = .ok (.getfield 23, 3) := by decide +kernel
theorem d_M_plan_60 : decode b_M_plan 60 = .ok (.iload_n 1, 1) := by decide +kernel
theorem d_M_plan_61 : decode b_M_plan 61 = .ok (.iaload, 1) := by decide +kernel
theorem d_M_plan_62 : decode b_M_plan 62 = .ok (.ifCond .eq 15, 3) := by decide +kernel
theorem d_M_plan_65 : decode b_M_plan 65 = .ok (.aload_n 0, 1) := by decide +kernel
theorem d_M_plan_66 : decode b_M_plan 66 = .ok (.getfield 23, 3) := by decide +kernel
theorem d_M_plan_69 : decode b_M_plan 69 = .ok (.iload_n 1, 1) := by decide +kernel
theorem d_M_plan_70 : decode b_M_plan 70 = .ok (.iaload, 1) := by decide +kernel
theorem d_M_plan_71 : decode b_M_plan 71 = .ok (.iconst 4, 1) := by decide +kernel
theorem d_M_plan_72 : decode b_M_plan 72 = .ok (.if_icmp .eq 5, 3) := by decide +kernel
theorem d_M_plan_75 : decode b_M_plan 75 = .ok (.iconst 0, 1) := by decide +kernel
theorem d_M_plan_76 : decode b_M_plan 76 = .ok (.ireturn, 1) := by decide +kernel
theorem d_M_plan_77 : decode b_M_plan 77 = .ok (.iconst 0, 1) := by decide +kernel
theorem d_M_plan_78 : decode b_M_plan 78 = .ok (.istore 5, 2) := by decide +kernel
theorem d_M_plan_80 : decode b_M_plan 80 = .ok (.iload 5, 2) := by decide +kernel
theorem d_M_plan_82 : decode b_M_plan 82 = .ok (.aload_n 0, 1) := by decide +kernel
theorem d_M_plan_83 : decode b_M_plan 83 = .ok (.getfield 78, 3) := by decide +kernel
theorem d_M_plan_86 : decode b_M_plan 86 = .ok (.if_icmp .ge 66, 3) := by decide +kernel
theorem d_M_plan_89 : decode b_M_plan 89 = .ok (.iload 4, 2) := by decide +kernel
theorem d_M_plan_91 : decode b_M_plan 91 = .ok (.aload_n 0, 1) := by decide +kernel
theorem d_M_plan_92 : decode b_M_plan 92 = .ok (.getfield 32, 3) := by decide +kernel
theorem d_M_plan_95 : decode b_M_plan 95 = .ok (.iload 5, 2) := by decide +kernel
theorem d_M_plan_97 : decode b_M_plan 97 = .ok (.iaload, 1) := by decide +kernel
theorem d_M_plan_98 : decode b_M_plan 98 = .ok (.if_icmp .le 14, 3) := by decide +kernel
theorem d_M_plan_101 : decode b_M_plan 101 = .ok (.iload_n 3, 1) := by decide +kernel
theorem d_M_plan_102 : decode b_M_plan 102 = .ok (.aload_n 0, 1) := by decide +kernel
theorem d_M_plan_103 : decode b_M_plan 103 = .ok (.getfield 35, 3) := by decide +kernel
theorem d_M_plan_106 : decode b_M_plan 106 = .ok (.iload 5, 2) := by decide +kernel
theorem d_M_plan_108 : decode b_M_plan 108 = .ok (.iaload, 1) := by decide +kernel
theorem d_M_plan_109 : decode b_M_plan 109 = .ok (.if_icmp .lt 7, 3) := by decide +kernel
theorem d_M_plan_112 : decode b_M_plan 112 = .ok (.iconst 1, 1) := by decide +kernel
theorem d_M_plan_113 : decode b_M_plan 113 = .ok (.goto 4, 3) := by decide +kernel
theorem d_M_plan_116 : decode b_M_plan 116 = .ok (.iconst 0, 1) := by decide +kernel
theorem d_M_plan_117 : decode b_M_plan 117 = .ok (.istore 6, 2) := by decide +kernel
theorem d_M_plan_119 : decode b_M_plan 119 = .ok (.aload_n 0, 1) := by decide +kernel
theorem d_M_plan_120 : decode b_M_plan 120 = .ok (.iload 5, 2) := by decide +kernel
theorem d_M_plan_122 : decode b_M_plan 122 = .ok (.invokevirtual 103, 3) := by decide +kernel
theorem d_M_plan_125 : decode b_M_plan 125 = .ok (.ifCond .eq 21, 3) := by decide +kernel
theorem d_M_plan_128 : decode b_M_plan 128 = .ok (.aload_n 0, 1) := by decide +kernel
theorem d_M_plan_129 : decode b_M_plan 129 = .ok (.getfield 29, 3) := by decide +kernel
theorem d_M_plan_132 : decode b_M_plan 132 = .ok (.iload 5, 2) := by decide +kernel
theorem d_M_plan_134 : decode b_M_plan 134 = .ok (.iaload, 1) := by decide +kernel
theorem d_M_plan_135 : decode b_M_plan 135 = .ok (.iload_n 2, 1) := by decide +kernel
theorem d_M_plan_136 : decode b_M_plan 136 = .ok (.if_icmp .ne 10, 3) := by decide +kernel
theorem d_M_plan_139 : decode b_M_plan 139 = .ok (.iload 6, 2) := by decide +kernel
theorem d_M_plan_141 : decode b_M_plan 141 = .ok (.ifCond .ne 5, 3) := by decide +kernel
theorem d_M_plan_144 : decode b_M_plan 144 = .ok (.iconst 0, 1) := by decide +kernel
theorem d_M_plan_145 : decode b_M_plan 145 = .ok (.ireturn, 1) := by decide +kernel
theorem d_M_plan_146 : decode b_M_plan 146 = .ok (.iinc 5 1, 3) := by decide +kernel
theorem d_M_plan_149 : decode b_M_plan 149 = .ok (.goto (-69), 3) := by decide +kernel
theorem d_M_plan_152 : decode b_M_plan 152 = .ok (.aload_n 0, 1) := by decide +kernel
theorem d_M_plan_153 : decode b_M_plan 153 = .ok (.getfield 23, 3) := by decide +kernel
theorem d_M_plan_156 : decode b_M_plan 156 = .ok (.iload_n 1, 1) := by decide +kernel
theorem d_M_plan_157 : decode b_M_plan 157 = .ok (.iconst 1, 1) := by decide +kernel
theorem d_M_plan_158 : decode b_M_plan 158 = .ok (.iastore, 1) := by decide +kernel
theorem d_M_plan_159 : decode b_M_plan 159 = .ok (.aload_n 0, 1) := by decide +kernel
theorem d_M_plan_160 : decode b_M_plan 160 = .ok (.getfield 29, 3) := by decide +kernel
theorem d_M_plan_163 : decode b_M_plan 163 = .ok (.iload_n 1, 1) := by decide +kernel
theorem d_M_plan_164 : decode b_M_plan 164 = .ok (.iload_n 2, 1) := by decide +kernel
theorem d_M_plan_165 : decode b_M_plan 165 = .ok (.iastore, 1) := by decide +kernel
theorem d_M_plan_166 : decode b_M_plan 166 = .ok (.aload_n 0, 1) := by decide +kernel
theorem d_M_plan_167 : decode b_M_plan 167 = .ok (.getfield 32, 3) := by decide +kernel
theorem d_M_plan_170 : decode b_M_plan 170 = .ok (.iload_n 1, 1) := by decide +kernel
theorem d_M_plan_171 : decode b_M_plan 171 = .ok (.iload_n 3, 1) := by decide +kernel
theorem d_M_plan_172 : decode b_M_plan 172 = .ok (.iastore, 1) := by decide +kernel
theorem d_M_plan_173 : decode b_M_plan 173 = .ok (.aload_n 0, 1) := by decide +kernel
theorem d_M_plan_174 : decode b_M_plan 174 = .ok (.getfield 35, 3) := by decide +kernel
theorem d_M_plan_177 : decode b_M_plan 177 = .ok (.iload_n 1, 1) := by decide +kernel
theorem d_M_plan_178 : decode b_M_plan 178 = .ok (.iload 4, 2) := by decide +kernel
theorem d_M_plan_180 : decode b_M_plan 180 = .ok (.iastore, 1) := by decide +kernel
theorem d_M_plan_181 : decode b_M_plan 181 = .ok (.iconst 1, 1) := by decide +kernel
theorem d_M_plan_182 : decode b_M_plan 182 = .ok (.ireturn, 1) := by decide +kernel
abbrev b_M_begin : ByteArray := prog_5_method_12_code
def y_M_begin : MethodName := ⟨R_M, "begin", "(II)I"⟩
theorem d_M_begin_0 : decode b_M_begin 0 = .ok (.aload_n 0, 1) := by decide +kernel
theorem d_M_begin_1 : decode b_M_begin 1 = .ok (.aload_n 0, 1) := by decide +kernel
theorem d_M_begin_2 : decode b_M_begin 2 = .ok (.iload_n 1, 1) := by decide +kernel
theorem d_M_begin_3 : decode b_M_begin 3 = .ok (.invokevirtual 100, 3) := by decide +kernel
theorem d_M_begin_6 : decode b_M_begin 6 = .ok (.ifCond .eq 14, 3) := by decide +kernel
theorem d_M_begin_9 : decode b_M_begin 9 = .ok (.iload_n 2, 1) := by decide +kernel
theorem d_M_begin_10 : decode b_M_begin 10 = .ok (.invokestatic 85, 3) := by decide +kernel
theorem d_M_begin_13 : decode b_M_begin 13 = .ok (.ifCond .eq 7, 3) := by decide +kernel
theorem d_M_begin_16 : decode b_M_begin 16 = .ok (.iconst 0, 1) := by decide +kernel
theorem d_M_begin_17 : decode b_M_begin 17 = .ok (.goto 4, 3) := by decide +kernel
theorem d_M_begin_20 : decode b_M_begin 20 = .ok (.iconst 1, 1) := by decide +kernel
theorem d_M_begin_21 : decode b_M_begin 21 = .ok (.putfield 74, 3) := by decide +kernel
theorem d_M_begin_24 : decode b_M_begin 24 = .ok (.aload_n 0, 1) := by decide +kernel
theorem d_M_begin_25 : decode b_M_begin 25 = .ok (.getfield 74, 3) := by decide +kernel
theorem d_M_begin_28 : decode b_M_begin 28 = .ok (.ifCond .gt 53, 3) := by decide +kernel
theorem d_M_begin_31 : decode b_M_begin 31 = .ok (.aload_n 0, 1) := by decide +kernel
theorem d_M_begin_32 : decode b_M_begin 32 = .ok (.getfield 23, 3) := by decide +kernel
theorem d_M_begin_35 : decode b_M_begin 35 = .ok (.iload_n 1, 1) := by decide +kernel
theorem d_M_begin_36 : decode b_M_begin 36 = .ok (.iaload, 1) := by decide +kernel
theorem d_M_begin_37 : decode b_M_begin 37 = .ok (.iconst 1, 1) := by decide +kernel
theorem d_M_begin_38 : decode b_M_begin 38 = .ok (.if_icmp .ne 43, 3) := by decide +kernel
theorem d_M_begin_41 : decode b_M_begin 41 = .ok (.aload_n 0, 1) := by decide +kernel
theorem d_M_begin_42 : decode b_M_begin 42 = .ok (.getfield 81, 3) := by decide +kernel
theorem d_M_begin_45 : decode b_M_begin 45 = .ok (.aload_n 0, 1) := by decide +kernel
theorem d_M_begin_46 : decode b_M_begin 46 = .ok (.getfield 32, 3) := by decide +kernel
theorem d_M_begin_49 : decode b_M_begin 49 = .ok (.iload_n 1, 1) := by decide +kernel
theorem d_M_begin_50 : decode b_M_begin 50 = .ok (.iaload, 1) := by decide +kernel
theorem d_M_begin_51 : decode b_M_begin 51 = .ok (.if_icmp .lt 30, 3) := by decide +kernel
theorem d_M_begin_54 : decode b_M_begin 54 = .ok (.aload_n 0, 1) := by decide +kernel
theorem d_M_begin_55 : decode b_M_begin 55 = .ok (.getfield 81, 3) := by decide +kernel
theorem d_M_begin_58 : decode b_M_begin 58 = .ok (.aload_n 0, 1) := by decide +kernel
theorem d_M_begin_59 : decode b_M_begin 59 = .ok (.getfield 35, 3) := by decide +kernel
theorem d_M_begin_62 : decode b_M_begin 62 = .ok (.iload_n 1, 1) := by decide +kernel
theorem d_M_begin_63 : decode b_M_begin 63 = .ok (.iaload, 1) := by decide +kernel
theorem d_M_begin_64 : decode b_M_begin 64 = .ok (.if_icmp .gt 17, 3) := by decide +kernel
theorem d_M_begin_67 : decode b_M_begin 67 = .ok (.aload_n 0, 1) := by decide +kernel
theorem d_M_begin_68 : decode b_M_begin 68 = .ok (.iload_n 2, 1) := by decide +kernel
theorem d_M_begin_69 : decode b_M_begin 69 = .ok (.aload_n 0, 1) := by decide +kernel
theorem d_M_begin_70 : decode b_M_begin 70 = .ok (.getfield 17, 3) := by decide +kernel
theorem d_M_begin_73 : decode b_M_begin 73 = .ok (.iload_n 1, 1) := by decide +kernel
theorem d_M_begin_74 : decode b_M_begin 74 = .ok (.iaload, 1) := by decide +kernel
theorem d_M_begin_75 : decode b_M_begin 75 = .ok (.invokevirtual 93, 3) := by decide +kernel
theorem d_M_begin_78 : decode b_M_begin 78 = .ok (.ifCond .ne 5, 3) := by decide +kernel
theorem d_M_begin_81 : decode b_M_begin 81 = .ok (.iconst 0, 1) := by decide +kernel
theorem d_M_begin_82 : decode b_M_begin 82 = .ok (.ireturn, 1) := by decide +kernel
theorem d_M_begin_83 : decode b_M_begin 83 = .ok (.aload_n 0, 1) := by decide +kernel
theorem d_M_begin_84 : decode b_M_begin 84 = .ok (.getfield 23, 3) := by decide +kernel
theorem d_M_begin_87 : decode b_M_begin 87 = .ok (.iload_n 1, 1) := by decide +kernel
theorem d_M_begin_88 : decode b_M_begin 88 = .ok (.iconst 2, 1) := by decide +kernel
theorem d_M_begin_89 : decode b_M_begin 89 = .ok (.iastore, 1) := by decide +kernel
theorem d_M_begin_90 : decode b_M_begin 90 = .ok (.aload_n 0, 1) := by decide +kernel
theorem d_M_begin_91 : decode b_M_begin 91 = .ok (.getfield 38, 3) := by decide +kernel
theorem d_M_begin_94 : decode b_M_begin 94 = .ok (.iload_n 1, 1) := by decide +kernel
theorem d_M_begin_95 : decode b_M_begin 95 = .ok (.iload_n 2, 1) := by decide +kernel
theorem d_M_begin_96 : decode b_M_begin 96 = .ok (.iastore, 1) := by decide +kernel
theorem d_M_begin_97 : decode b_M_begin 97 = .ok (.aload_n 0, 1) := by decide +kernel
theorem d_M_begin_98 : decode b_M_begin 98 = .ok (.getfield 41, 3) := by decide +kernel
theorem d_M_begin_101 : decode b_M_begin 101 = .ok (.iload_n 1, 1) := by decide +kernel
theorem d_M_begin_102 : decode b_M_begin 102 = .ok (.dup2, 1) := by decide +kernel
theorem d_M_begin_103 : decode b_M_begin 103 = .ok (.iaload, 1) := by decide +kernel
theorem d_M_begin_104 : decode b_M_begin 104 = .ok (.iconst 1, 1) := by decide +kernel
theorem d_M_begin_105 : decode b_M_begin 105 = .ok (.iadd, 1) := by decide +kernel
theorem d_M_begin_106 : decode b_M_begin 106 = .ok (.iastore, 1) := by decide +kernel
theorem d_M_begin_107 : decode b_M_begin 107 = .ok (.aload_n 0, 1) := by decide +kernel
theorem d_M_begin_108 : decode b_M_begin 108 = .ok (.getfield 17, 3) := by decide +kernel
theorem d_M_begin_111 : decode b_M_begin 111 = .ok (.iload_n 1, 1) := by decide +kernel
theorem d_M_begin_112 : decode b_M_begin 112 = .ok (.iaload, 1) := by decide +kernel
theorem d_M_begin_113 : decode b_M_begin 113 = .ok (.iconst 2, 1) := by decide +kernel
theorem d_M_begin_114 : decode b_M_begin 114 = .ok (.if_icmp .le 15, 3) := by decide +kernel
theorem d_M_begin_117 : decode b_M_begin 117 = .ok (.aload_n 0, 1) := by decide +kernel
theorem d_M_begin_118 : decode b_M_begin 118 = .ok (.getfield 47, 3) := by decide +kernel
theorem d_M_begin_121 : decode b_M_begin 121 = .ok (.aload_n 0, 1) := by decide +kernel
theorem d_M_begin_122 : decode b_M_begin 122 = .ok (.getfield 13, 3) := by decide +kernel
theorem d_M_begin_125 : decode b_M_begin 125 = .ok (.iload_n 1, 1) := by decide +kernel
theorem d_M_begin_126 : decode b_M_begin 126 = .ok (.iaload, 1) := by decide +kernel
theorem d_M_begin_127 : decode b_M_begin 127 = .ok (.iconst 1, 1) := by decide +kernel
theorem d_M_begin_128 : decode b_M_begin 128 = .ok (.bastore, 1) := by decide +kernel
theorem d_M_begin_129 : decode b_M_begin 129 = .ok (.iconst 1, 1) := by decide +kernel
theorem d_M_begin_130 : decode b_M_begin 130 = .ok (.ireturn, 1) := by decide +kernel
abbrev b_M_end : ByteArray := prog_5_method_13_code
def y_M_end : MethodName := ⟨R_M, "end", "(IIZ)I"⟩
theorem d_M_end_0 : decode b_M_end 0 = .ok (.aload_n 0, 1) := by decide +kernel
theorem d_M_end_1 : decode b_M_end 1 = .ok (.aload_n 0, 1) := by decide +kernel
theorem d_M_end_2 : decode b_M_end 2 = .ok (.iload_n 1, 1) := by decide +kernel
theorem d_M_end_3 : decode b_M_end 3 = .ok (.invokevirtual 100, 3) := by decide +kernel
theorem d_M_end_6 : decode b_M_end 6 = .ok (.ifCond .eq 14, 3) := by decide +kernel
theorem d_M_end_9 : decode b_M_end 9 = .ok (.iload_n 2, 1) := by decide +kernel
theorem d_M_end_10 : decode b_M_end 10 = .ok (.invokestatic 85, 3) := by decide +kernel
theorem d_M_end_13 : decode b_M_end 13 = .ok (.ifCond .eq 7, 3) := by decide +kernel
theorem d_M_end_16 : decode b_M_end 16 = .ok (.iconst 0, 1) := by decide +kernel
theorem d_M_end_17 : decode b_M_end 17 = .ok (.goto 4, 3) := by decide +kernel
theorem d_M_end_20 : decode b_M_end 20 = .ok (.iconst 1, 1) := by decide +kernel
theorem d_M_end_21 : decode b_M_end 21 = .ok (.putfield 74, 3) := by decide +kernel
theorem d_M_end_24 : decode b_M_end 24 = .ok (.aload_n 0, 1) := by decide +kernel
theorem d_M_end_25 : decode b_M_end 25 = .ok (.getfield 74, 3) := by decide +kernel
theorem d_M_end_28 : decode b_M_end 28 = .ok (.ifCond .gt 23, 3) := by decide +kernel
theorem d_M_end_31 : decode b_M_end 31 = .ok (.aload_n 0, 1) := by decide +kernel
theorem d_M_end_32 : decode b_M_end 32 = .ok (.getfield 23, 3) := by decide +kernel
theorem d_M_end_35 : decode b_M_end 35 = .ok (.iload_n 1, 1) := by decide +kernel
theorem d_M_end_36 : decode b_M_end 36 = .ok (.iaload, 1) := by decide +kernel
theorem d_M_end_37 : decode b_M_end 37 = .ok (.iconst 2, 1) := by decide +kernel
theorem d_M_end_38 : decode b_M_end 38 = .ok (.if_icmp .ne 13, 3) := by decide +kernel
theorem d_M_end_41 : decode b_M_end 41 = .ok (.aload_n 0, 1) := by decide +kernel
theorem d_M_end_42 : decode b_M_end 42 = .ok (.getfield 38, 3) := by decide +kernel
theorem d_M_end_45 : decode b_M_end 45 = .ok (.iload_n 1, 1) := by decide +kernel
theorem d_M_end_46 : decode b_M_end 46 = .ok (.iaload, 1) := by decide +kernel
theorem d_M_end_47 : decode b_M_end 47 = .ok (.iload_n 2, 1) := by decide +kernel
theorem d_M_end_48 : decode b_M_end 48 = .ok (.if_icmp .eq 5, 3) := by decide +kernel
theorem d_M_end_51 : decode b_M_end 51 = .ok (.iconst 0, 1) := by decide +kernel
theorem d_M_end_52 : decode b_M_end 52 = .ok (.ireturn, 1) := by decide +kernel
theorem d_M_end_53 : decode b_M_end 53 = .ok (.aload_n 0, 1) := by decide +kernel
theorem d_M_end_54 : decode b_M_end 54 = .ok (.getfield 23, 3) := by decide +kernel
theorem d_M_end_57 : decode b_M_end 57 = .ok (.iload_n 1, 1) := by decide +kernel
theorem d_M_end_58 : decode b_M_end 58 = .ok (.iload_n 3, 1) := by decide +kernel
theorem d_M_end_59 : decode b_M_end 59 = .ok (.ifCond .eq 7, 3) := by decide +kernel
theorem d_M_end_62 : decode b_M_end 62 = .ok (.iconst 3, 1) := by decide +kernel
theorem d_M_end_63 : decode b_M_end 63 = .ok (.goto 4, 3) := by decide +kernel
theorem d_M_end_66 : decode b_M_end 66 = .ok (.iconst 4, 1) := by decide +kernel
theorem d_M_end_67 : decode b_M_end 67 = .ok (.iastore, 1) := by decide +kernel
theorem d_M_end_68 : decode b_M_end 68 = .ok (.iconst 1, 1) := by decide +kernel
theorem d_M_end_69 : decode b_M_end 69 = .ok (.ireturn, 1) := by decide +kernel
abbrev b_M_giveUp : ByteArray := prog_5_method_14_code
def y_M_giveUp : MethodName := ⟨R_M, "giveUp", "(I)Z"⟩
theorem d_M_giveUp_0 : decode b_M_giveUp 0 = .ok (.aload_n 0, 1) := by decide +kernel
theorem d_M_giveUp_1 : decode b_M_giveUp 1 = .ok (.iconst 0, 1) := by decide +kernel
theorem d_M_giveUp_2 : decode b_M_giveUp 2 = .ok (.putfield 74, 3) := by decide +kernel
theorem d_M_giveUp_5 : decode b_M_giveUp 5 = .ok (.aload_n 0, 1) := by decide +kernel
theorem d_M_giveUp_6 : decode b_M_giveUp 6 = .ok (.iload_n 1, 1) := by decide +kernel
theorem d_M_giveUp_7 : decode b_M_giveUp 7 = .ok (.invokevirtual 100, 3) := by decide +kernel
theorem d_M_giveUp_10 : decode b_M_giveUp 10 = .ok (.ifCond .eq 32, 3) := by decide +kernel
theorem d_M_giveUp_13 : decode b_M_giveUp 13 = .ok (.aload_n 0, 1) := by decide +kernel
theorem d_M_giveUp_14 : decode b_M_giveUp 14 = .ok (.getfield 23, 3) := by decide +kernel
theorem d_M_giveUp_17 : decode b_M_giveUp 17 = .ok (.iload_n 1, 1) := by decide +kernel
theorem d_M_giveUp_18 : decode b_M_giveUp 18 = .ok (.iaload, 1) := by decide +kernel
theorem d_M_giveUp_19 : decode b_M_giveUp 19 = .ok (.ifCond .eq 25, 3) := by decide +kernel
theorem d_M_giveUp_22 : decode b_M_giveUp 22 = .ok (.aload_n 0, 1) := by decide +kernel
theorem d_M_giveUp_23 : decode b_M_giveUp 23 = .ok (.getfield 23, 3) := by decide +kernel
theorem d_M_giveUp_26 : decode b_M_giveUp 26 = .ok (.iload_n 1, 1) := by decide +kernel
theorem d_M_giveUp_27 : decode b_M_giveUp 27 = .ok (.iaload, 1) := by decide +kernel
theorem d_M_giveUp_28 : decode b_M_giveUp 28 = .ok (.iconst 1, 1) := by decide +kernel
theorem d_M_giveUp_29 : decode b_M_giveUp 29 = .ok (.if_icmp .eq 15, 3) := by decide +kernel
theorem d_M_giveUp_32 : decode b_M_giveUp 32 = .ok (.aload_n 0, 1) := by decide +kernel
theorem d_M_giveUp_33 : decode b_M_giveUp 33 = .ok (.getfield 23, 3) := by decide +kernel
theorem d_M_giveUp_36 : decode b_M_giveUp 36 = .ok (.iload_n 1, 1) := by decide +kernel
theorem d_M_giveUp_37 : decode b_M_giveUp 37 = .ok (.iaload, 1) := by decide +kernel
theorem d_M_giveUp_38 : decode b_M_giveUp 38 = .ok (.iconst 4, 1) := by decide +kernel
theorem d_M_giveUp_39 : decode b_M_giveUp 39 = .ok (.if_icmp .eq 5, 3) := by decide +kernel
theorem d_M_giveUp_42 : decode b_M_giveUp 42 = .ok (.iconst 0, 1) := by decide +kernel
theorem d_M_giveUp_43 : decode b_M_giveUp 43 = .ok (.ireturn, 1) := by decide +kernel
theorem d_M_giveUp_44 : decode b_M_giveUp 44 = .ok (.aload_n 0, 1) := by decide +kernel
theorem d_M_giveUp_45 : decode b_M_giveUp 45 = .ok (.getfield 23, 3) := by decide +kernel
theorem d_M_giveUp_48 : decode b_M_giveUp 48 = .ok (.iload_n 1, 1) := by decide +kernel
theorem d_M_giveUp_49 : decode b_M_giveUp 49 = .ok (.iconst 5, 1) := by decide +kernel
theorem d_M_giveUp_50 : decode b_M_giveUp 50 = .ok (.iastore, 1) := by decide +kernel
theorem d_M_giveUp_51 : decode b_M_giveUp 51 = .ok (.iconst 1, 1) := by decide +kernel
theorem d_M_giveUp_52 : decode b_M_giveUp 52 = .ok (.ireturn, 1) := by decide +kernel
abbrev b_M_isOpened : ByteArray := prog_5_method_15_code
def y_M_isOpened : MethodName := ⟨R_M, "isOpened", "(I)Z"⟩
theorem d_M_isOpened_0 : decode b_M_isOpened 0 = .ok (.aload_n 0, 1) := by decide +kernel
theorem d_M_isOpened_1 : decode b_M_isOpened 1 = .ok (.getfield 17, 3) := by decide +kernel
theorem d_M_isOpened_4 : decode b_M_isOpened 4 = .ok (.iload_n 1, 1) := by decide +kernel
theorem d_M_isOpened_5 : decode b_M_isOpened 5 = .ok (.iaload, 1) := by decide +kernel
theorem d_M_isOpened_6 : decode b_M_isOpened 6 = .ok (.iconst 2, 1) := by decide +kernel
theorem d_M_isOpened_7 : decode b_M_isOpened 7 = .ok (.if_icmp .le 17, 3) := by decide +kernel
theorem d_M_isOpened_10 : decode b_M_isOpened 10 = .ok (.aload_n 0, 1) := by decide +kernel
theorem d_M_isOpened_11 : decode b_M_isOpened 11 = .ok (.getfield 23, 3) := by decide +kernel
theorem d_M_isOpened_14 : decode b_M_isOpened 14 = .ok (.iload_n 1, 1) := by decide +kernel
theorem d_M_isOpened_15 : decode b_M_isOpened 15 = .ok (.iaload, 1) := by decide +kernel
theorem d_M_isOpened_16 : decode b_M_isOpened 16 = .ok (.iconst 2, 1) := by decide +kernel
theorem d_M_isOpened_17 : decode b_M_isOpened 17 = .ok (.if_icmp .ne 7, 3) := by decide +kernel
theorem d_M_isOpened_20 : decode b_M_isOpened 20 = .ok (.iconst 1, 1) := by decide +kernel
theorem d_M_isOpened_21 : decode b_M_isOpened 21 = .ok (.goto 4, 3) := by decide +kernel
theorem d_M_isOpened_24 : decode b_M_isOpened 24 = .ok (.iconst 0, 1) := by decide +kernel
theorem d_M_isOpened_25 : decode b_M_isOpened 25 = .ok (.ireturn, 1) := by decide +kernel
abbrev b_M_seal : ByteArray := prog_5_method_16_code
def y_M_seal : MethodName := ⟨R_M, "seal", "(IIII)I"⟩
theorem d_M_seal_0 : decode b_M_seal 0 = .ok (.aload_n 0, 1) := by decide +kernel
theorem d_M_seal_1 : decode b_M_seal 1 = .ok (.iload_n 1, 1) := by decide +kernel
theorem d_M_seal_2 : decode b_M_seal 2 = .ok (.invokestatic 85, 3) := by decide +kernel
theorem d_M_seal_5 : decode b_M_seal 5 = .ok (.ifCond .eq 38, 3) := by decide +kernel
theorem d_M_seal_8 : decode b_M_seal 8 = .ok (.iload_n 2, 1) := by decide +kernel
theorem d_M_seal_9 : decode b_M_seal 9 = .ok (.iconst 1, 1) := by decide +kernel
theorem d_M_seal_10 : decode b_M_seal 10 = .ok (.ldc 106, 2) := by decide +kernel
theorem d_M_seal_12 : decode b_M_seal 12 = .ok (.invokestatic 89, 3) := by decide +kernel
theorem d_M_seal_15 : decode b_M_seal 15 = .ok (.ifCond .eq 28, 3) := by decide +kernel
theorem d_M_seal_18 : decode b_M_seal 18 = .ok (.iload_n 3, 1) := by decide +kernel
theorem d_M_seal_19 : decode b_M_seal 19 = .ok (.invokestatic 85, 3) := by decide +kernel
theorem d_M_seal_22 : decode b_M_seal 22 = .ok (.ifCond .eq 21, 3) := by decide +kernel
theorem d_M_seal_25 : decode b_M_seal 25 = .ok (.iload 4, 2) := by decide +kernel
theorem d_M_seal_27 : decode b_M_seal 27 = .ok (.invokestatic 85, 3) := by decide +kernel
theorem d_M_seal_30 : decode b_M_seal 30 = .ok (.ifCond .eq 13, 3) := by decide +kernel
theorem d_M_seal_33 : decode b_M_seal 33 = .ok (.iload_n 3, 1) := by decide +kernel
theorem d_M_seal_34 : decode b_M_seal 34 = .ok (.iload 4, 2) := by decide +kernel
theorem d_M_seal_36 : decode b_M_seal 36 = .ok (.if_icmp .eq 7, 3) := by decide +kernel
theorem d_M_seal_39 : decode b_M_seal 39 = .ok (.iconst 0, 1) := by decide +kernel
theorem d_M_seal_40 : decode b_M_seal 40 = .ok (.goto 4, 3) := by decide +kernel
theorem d_M_seal_43 : decode b_M_seal 43 = .ok (.iconst 1, 1) := by decide +kernel
theorem d_M_seal_44 : decode b_M_seal 44 = .ok (.putfield 74, 3) := by decide +kernel
theorem d_M_seal_47 : decode b_M_seal 47 = .ok (.aload_n 0, 1) := by decide +kernel
theorem d_M_seal_48 : decode b_M_seal 48 = .ok (.getfield 74, 3) := by decide +kernel
theorem d_M_seal_51 : decode b_M_seal 51 = .ok (.ifCond .gt 31, 3) := by decide +kernel
theorem d_M_seal_54 : decode b_M_seal 54 = .ok (.aload_n 0, 1) := by decide +kernel
theorem d_M_seal_55 : decode b_M_seal 55 = .ok (.getfield 47, 3) := by decide +kernel
theorem d_M_seal_58 : decode b_M_seal 58 = .ok (.iload_n 1, 1) := by decide +kernel
theorem d_M_seal_59 : decode b_M_seal 59 = .ok (.baload, 1) := by decide +kernel
theorem d_M_seal_60 : decode b_M_seal 60 = .ok (.ifCond .eq 22, 3) := by decide +kernel
theorem d_M_seal_63 : decode b_M_seal 63 = .ok (.aload_n 0, 1) := by decide +kernel
theorem d_M_seal_64 : decode b_M_seal 64 = .ok (.iload_n 3, 1) := by decide +kernel
theorem d_M_seal_65 : decode b_M_seal 65 = .ok (.iconst 5, 1) := by decide +kernel
theorem d_M_seal_66 : decode b_M_seal 66 = .ok (.invokevirtual 93, 3) := by decide +kernel
theorem d_M_seal_69 : decode b_M_seal 69 = .ok (.ifCond .eq 13, 3) := by decide +kernel
theorem d_M_seal_72 : decode b_M_seal 72 = .ok (.aload_n 0, 1) := by decide +kernel
theorem d_M_seal_73 : decode b_M_seal 73 = .ok (.iload 4, 2) := by decide +kernel
theorem d_M_seal_75 : decode b_M_seal 75 = .ok (.iconst 5, 1) := by decide +kernel
theorem d_M_seal_76 : decode b_M_seal 76 = .ok (.invokevirtual 93, 3) := by decide +kernel
theorem d_M_seal_79 : decode b_M_seal 79 = .ok (.ifCond .ne 5, 3) := by decide +kernel
theorem d_M_seal_82 : decode b_M_seal 82 = .ok (.iconst 0, 1) := by decide +kernel
theorem d_M_seal_83 : decode b_M_seal 83 = .ok (.ireturn, 1) := by decide +kernel
theorem d_M_seal_84 : decode b_M_seal 84 = .ok (.iconst 0, 1) := by decide +kernel
theorem d_M_seal_85 : decode b_M_seal 85 = .ok (.istore 5, 2) := by decide +kernel
theorem d_M_seal_87 : decode b_M_seal 87 = .ok (.iload 5, 2) := by decide +kernel
theorem d_M_seal_89 : decode b_M_seal 89 = .ok (.aload_n 0, 1) := by decide +kernel
theorem d_M_seal_90 : decode b_M_seal 90 = .ok (.getfield 78, 3) := by decide +kernel
theorem d_M_seal_93 : decode b_M_seal 93 = .ok (.if_icmp .ge 31, 3) := by decide +kernel
theorem d_M_seal_96 : decode b_M_seal 96 = .ok (.aload_n 0, 1) := by decide +kernel
theorem d_M_seal_97 : decode b_M_seal 97 = .ok (.getfield 13, 3) := by decide +kernel
theorem d_M_seal_100 : decode b_M_seal 100 = .ok (.iload 5, 2) := by decide +kernel
theorem d_M_seal_102 : decode b_M_seal 102 = .ok (.iaload, 1) := by decide +kernel
theorem d_M_seal_103 : decode b_M_seal 103 = .ok (.iload_n 1, 1) := by decide +kernel
theorem d_M_seal_104 : decode b_M_seal 104 = .ok (.if_icmp .ne 14, 3) := by decide +kernel
theorem d_M_seal_107 : decode b_M_seal 107 = .ok (.aload_n 0, 1) := by decide +kernel
theorem d_M_seal_108 : decode b_M_seal 108 = .ok (.iload 5, 2) := by decide +kernel
theorem d_M_seal_110 : decode b_M_seal 110 = .ok (.invokevirtual 107, 3) := by decide +kernel
theorem d_M_seal_113 : decode b_M_seal 113 = .ok (.ifCond .eq 5, 3) := by decide +kernel
theorem d_M_seal_116 : decode b_M_seal 116 = .ok (.iconst 0, 1) := by decide +kernel
theorem d_M_seal_117 : decode b_M_seal 117 = .ok (.ireturn, 1) := by decide +kernel
theorem d_M_seal_118 : decode b_M_seal 118 = .ok (.iinc 5 1, 3) := by decide +kernel
theorem d_M_seal_121 : decode b_M_seal 121 = .ok (.goto (-34), 3) := by decide +kernel
theorem d_M_seal_124 : decode b_M_seal 124 = .ok (.aload_n 0, 1) := by decide +kernel
theorem d_M_seal_125 : decode b_M_seal 125 = .ok (.getfield 47, 3) := by decide +kernel
theorem d_M_seal_128 : decode b_M_seal 128 = .ok (.iload_n 1, 1) := by decide +kernel
theorem d_M_seal_129 : decode b_M_seal 129 = .ok (.iconst 0, 1) := by decide +kernel
theorem d_M_seal_130 : decode b_M_seal 130 = .ok (.bastore, 1) := by decide +kernel
theorem d_M_seal_131 : decode b_M_seal 131 = .ok (.aload_n 0, 1) := by decide +kernel
theorem d_M_seal_132 : decode b_M_seal 132 = .ok (.getfield 44, 3) := by decide +kernel
theorem d_M_seal_135 : decode b_M_seal 135 = .ok (.iload_n 1, 1) := by decide +kernel
theorem d_M_seal_136 : decode b_M_seal 136 = .ok (.iload_n 2, 1) := by decide +kernel
theorem d_M_seal_137 : decode b_M_seal 137 = .ok (.iastore, 1) := by decide +kernel
theorem d_M_seal_138 : decode b_M_seal 138 = .ok (.iconst 1, 1) := by decide +kernel
theorem d_M_seal_139 : decode b_M_seal 139 = .ok (.ireturn, 1) := by decide +kernel
abbrev b_M_sealed : ByteArray := prog_5_method_17_code
def y_M_sealed : MethodName := ⟨R_M, "sealed", "(I)I"⟩
theorem d_M_sealed_0 : decode b_M_sealed 0 = .ok (.iconst (-1), 1) := by decide +kernel
theorem d_M_sealed_1 : decode b_M_sealed 1 = .ok (.istore_n 2, 1) := by decide +kernel
theorem d_M_sealed_2 : decode b_M_sealed 2 = .ok (.iconst 0, 1) := by decide +kernel
theorem d_M_sealed_3 : decode b_M_sealed 3 = .ok (.istore_n 3, 1) := by decide +kernel
theorem d_M_sealed_4 : decode b_M_sealed 4 = .ok (.iload_n 3, 1) := by decide +kernel
theorem d_M_sealed_5 : decode b_M_sealed 5 = .ok (.aload_n 0, 1) := by decide +kernel
theorem d_M_sealed_6 : decode b_M_sealed 6 = .ok (.getfield 110, 3) := by decide +kernel
theorem d_M_sealed_9 : decode b_M_sealed 9 = .ok (.if_icmp .ge 25, 3) := by decide +kernel
theorem d_M_sealed_12 : decode b_M_sealed 12 = .ok (.aload_n 0, 1) := by decide +kernel
theorem d_M_sealed_13 : decode b_M_sealed 13 = .ok (.getfield 59, 3) := by decide +kernel
theorem d_M_sealed_16 : decode b_M_sealed 16 = .ok (.iload_n 3, 1) := by decide +kernel
theorem d_M_sealed_17 : decode b_M_sealed 17 = .ok (.iaload, 1) := by decide +kernel
theorem d_M_sealed_18 : decode b_M_sealed 18 = .ok (.iload_n 1, 1) := by decide +kernel
theorem d_M_sealed_19 : decode b_M_sealed 19 = .ok (.if_icmp .ne 7, 3) := by decide +kernel
theorem d_M_sealed_22 : decode b_M_sealed 22 = .ok (.iload_n 3, 1) := by decide +kernel
theorem d_M_sealed_23 : decode b_M_sealed 23 = .ok (.goto 4, 3) := by decide +kernel
theorem d_M_sealed_26 : decode b_M_sealed 26 = .ok (.iload_n 2, 1) := by decide +kernel
theorem d_M_sealed_27 : decode b_M_sealed 27 = .ok (.istore_n 2, 1) := by decide +kernel
theorem d_M_sealed_28 : decode b_M_sealed 28 = .ok (.iinc 3 1, 3) := by decide +kernel
theorem d_M_sealed_31 : decode b_M_sealed 31 = .ok (.goto (-27), 3) := by decide +kernel
theorem d_M_sealed_34 : decode b_M_sealed 34 = .ok (.iload_n 2, 1) := by decide +kernel
theorem d_M_sealed_35 : decode b_M_sealed 35 = .ok (.ireturn, 1) := by decide +kernel
abbrev b_M_sample : ByteArray := prog_5_method_18_code
def y_M_sample : MethodName := ⟨R_M, "sample", "(II)I"⟩
theorem d_M_sample_0 : decode b_M_sample 0 = .ok (.aload_n 0, 1) := by decide +kernel
theorem d_M_sample_1 : decode b_M_sample 1 = .ok (.aload_n 0, 1) := by decide +kernel
theorem d_M_sample_2 : decode b_M_sample 2 = .ok (.iload_n 1, 1) := by decide +kernel
theorem d_M_sample_3 : decode b_M_sample 3 = .ok (.invokevirtual 100, 3) := by decide +kernel
theorem d_M_sample_6 : decode b_M_sample 6 = .ok (.ifCond .eq 13, 3) := by decide +kernel
theorem d_M_sample_9 : decode b_M_sample 9 = .ok (.iload_n 2, 1) := by decide +kernel
theorem d_M_sample_10 : decode b_M_sample 10 = .ok (.iconst 1, 1) := by decide +kernel
theorem d_M_sample_11 : decode b_M_sample 11 = .ok (.ldc 106, 2) := by decide +kernel
theorem d_M_sample_13 : decode b_M_sample 13 = .ok (.invokestatic 89, 3) := by decide +kernel
theorem d_M_sample_16 : decode b_M_sample 16 = .ok (.ifCond .ne 7, 3) := by decide +kernel
theorem d_M_sample_19 : decode b_M_sample 19 = .ok (.iconst 1, 1) := by decide +kernel
theorem d_M_sample_20 : decode b_M_sample 20 = .ok (.goto 17, 3) := by decide +kernel
theorem d_M_sample_23 : decode b_M_sample 23 = .ok (.aload_n 0, 1) := by decide +kernel
theorem d_M_sample_24 : decode b_M_sample 24 = .ok (.getfield 110, 3) := by decide +kernel
theorem d_M_sample_27 : decode b_M_sample 27 = .ok (.bipush 40, 2) := by decide +kernel
theorem d_M_sample_29 : decode b_M_sample 29 = .ok (.if_icmp .ne 7, 3) := by decide +kernel
theorem d_M_sample_32 : decode b_M_sample 32 = .ok (.iconst 2, 1) := by decide +kernel
theorem d_M_sample_33 : decode b_M_sample 33 = .ok (.goto 4, 3) := by decide +kernel
theorem d_M_sample_36 : decode b_M_sample 36 = .ok (.iconst 0, 1) := by decide +kernel
theorem d_M_sample_37 : decode b_M_sample 37 = .ok (.putfield 74, 3) := by decide +kernel
theorem d_M_sample_40 : decode b_M_sample 40 = .ok (.aload_n 0, 1) := by decide +kernel
theorem d_M_sample_41 : decode b_M_sample 41 = .ok (.getfield 74, 3) := by decide +kernel
theorem d_M_sample_44 : decode b_M_sample 44 = .ok (.ifCond .le 5, 3) := by decide +kernel
theorem d_M_sample_47 : decode b_M_sample 47 = .ok (.iconst 0, 1) := by decide +kernel
theorem d_M_sample_48 : decode b_M_sample 48 = .ok (.ireturn, 1) := by decide +kernel
theorem d_M_sample_49 : decode b_M_sample 49 = .ok (.aload_n 0, 1) := by decide +kernel
theorem d_M_sample_50 : decode b_M_sample 50 = .ok (.iload_n 1, 1) := by decide +kernel
theorem d_M_sample_51 : decode b_M_sample 51 = .ok (.invokevirtual 107, 3) := by decide +kernel
theorem d_M_sample_54 : decode b_M_sample 54 = .ok (.ifCond .eq 11, 3) := by decide +kernel
theorem d_M_sample_57 : decode b_M_sample 57 = .ok (.aload_n 0, 1) := by decide +kernel
theorem d_M_sample_58 : decode b_M_sample 58 = .ok (.iload_n 2, 1) := by decide +kernel
theorem d_M_sample_59 : decode b_M_sample 59 = .ok (.invokevirtual 113, 3) := by decide +kernel
theorem d_M_sample_62 : decode b_M_sample 62 = .ok (.ifCond .lt 5, 3) := by decide +kernel
theorem d_M_sample_65 : decode b_M_sample 65 = .ok (.iconst (-1), 1) := by decide +kernel
theorem d_M_sample_66 : decode b_M_sample 66 = .ok (.ireturn, 1) := by decide +kernel
theorem d_M_sample_67 : decode b_M_sample 67 = .ok (.aload_n 0, 1) := by decide +kernel
theorem d_M_sample_68 : decode b_M_sample 68 = .ok (.getfield 56, 3) := by decide +kernel
theorem d_M_sample_71 : decode b_M_sample 71 = .ok (.aload_n 0, 1) := by decide +kernel
theorem d_M_sample_72 : decode b_M_sample 72 = .ok (.getfield 110, 3) := by decide +kernel
theorem d_M_sample_75 : decode b_M_sample 75 = .ok (.iload_n 1, 1) := by decide +kernel
theorem d_M_sample_76 : decode b_M_sample 76 = .ok (.iastore, 1) := by decide +kernel
theorem d_M_sample_77 : decode b_M_sample 77 = .ok (.aload_n 0, 1) := by decide +kernel
theorem d_M_sample_78 : decode b_M_sample 78 = .ok (.getfield 59, 3) := by decide +kernel
theorem d_M_sample_81 : decode b_M_sample 81 = .ok (.aload_n 0, 1) := by decide +kernel
theorem d_M_sample_82 : decode b_M_sample 82 = .ok (.getfield 110, 3) := by decide +kernel
theorem d_M_sample_85 : decode b_M_sample 85 = .ok (.iload_n 2, 1) := by decide +kernel
theorem d_M_sample_86 : decode b_M_sample 86 = .ok (.iastore, 1) := by decide +kernel
theorem d_M_sample_87 : decode b_M_sample 87 = .ok (.aload_n 0, 1) := by decide +kernel
theorem d_M_sample_88 : decode b_M_sample 88 = .ok (.dup, 1) := by decide +kernel
theorem d_M_sample_89 : decode b_M_sample 89 = .ok (.getfield 110, 3) := by decide +kernel
theorem d_M_sample_92 : decode b_M_sample 92 = .ok (.iconst 1, 1) := by decide +kernel
theorem d_M_sample_93 : decode b_M_sample 93 = .ok (.iadd, 1) := by decide +kernel
theorem d_M_sample_94 : decode b_M_sample 94 = .ok (.putfield 110, 3) := by decide +kernel
theorem d_M_sample_97 : decode b_M_sample 97 = .ok (.aload_n 0, 1) := by decide +kernel
theorem d_M_sample_98 : decode b_M_sample 98 = .ok (.getfield 110, 3) := by decide +kernel
theorem d_M_sample_101 : decode b_M_sample 101 = .ok (.iconst 1, 1) := by decide +kernel
theorem d_M_sample_102 : decode b_M_sample 102 = .ok (.isub, 1) := by decide +kernel
theorem d_M_sample_103 : decode b_M_sample 103 = .ok (.ireturn, 1) := by decide +kernel
abbrev b_M_differs : ByteArray := prog_5_method_19_code
def y_M_differs : MethodName := ⟨R_M, "differs", "(II)I"⟩
theorem d_M_differs_0 : decode b_M_differs 0 = .ok (.aload_n 0, 1) := by decide +kernel
theorem d_M_differs_1 : decode b_M_differs 1 = .ok (.getfield 62, 3) := by decide +kernel
theorem d_M_differs_4 : decode b_M_differs 4 = .ok (.iconst 4, 1) := by decide +kernel
theorem d_M_differs_5 : decode b_M_differs 5 = .ok (.iload_n 1, 1) := by decide +kernel
theorem d_M_differs_6 : decode b_M_differs 6 = .ok (.imul, 1) := by decide +kernel
theorem d_M_differs_7 : decode b_M_differs 7 = .ok (.iload_n 2, 1) := by decide +kernel
theorem d_M_differs_8 : decode b_M_differs 8 = .ok (.iadd, 1) := by decide +kernel
theorem d_M_differs_9 : decode b_M_differs 9 = .ok (.iaload, 1) := by decide +kernel
theorem d_M_differs_10 : decode b_M_differs 10 = .ok (.i2l, 1) := by decide +kernel
theorem d_M_differs_11 : decode b_M_differs 11 = .ok (.lstore_n 3, 1) := by decide +kernel
theorem d_M_differs_12 : decode b_M_differs 12 = .ok (.aload_n 0, 1) := by decide +kernel
theorem d_M_differs_13 : decode b_M_differs 13 = .ok (.getfield 53, 3) := by decide +kernel
theorem d_M_differs_16 : decode b_M_differs 16 = .ok (.iconst 4, 1) := by decide +kernel
theorem d_M_differs_17 : decode b_M_differs 17 = .ok (.aload_n 0, 1) := by decide +kernel
theorem d_M_differs_18 : decode b_M_differs 18 = .ok (.getfield 13, 3) := by decide +kernel
theorem d_M_differs_21 : decode b_M_differs 21 = .ok (.aload_n 0, 1) := by decide +kernel
theorem d_M_differs_22 : decode b_M_differs 22 = .ok (.getfield 56, 3) := by decide +kernel
theorem d_M_differs_25 : decode b_M_differs 25 = .ok (.iload_n 1, 1) := by decide +kernel
theorem d_M_differs_26 : decode b_M_differs 26 = .ok (.iaload, 1) := by decide +kernel
theorem d_M_differs_27 : decode b_M_differs 27 = .ok (.iaload, 1) := by decide +kernel
theorem d_M_differs_28 : decode b_M_differs 28 = .ok (.imul, 1) := by decide +kernel
theorem d_M_differs_29 : decode b_M_differs 29 = .ok (.iload_n 2, 1) := by decide +kernel
theorem d_M_differs_30 : decode b_M_differs 30 = .ok (.iadd, 1) := by decide +kernel
theorem d_M_differs_31 : decode b_M_differs 31 = .ok (.iaload, 1) := by decide +kernel
theorem d_M_differs_32 : decode b_M_differs 32 = .ok (.i2l, 1) := by decide +kernel
theorem d_M_differs_33 : decode b_M_differs 33 = .ok (.lstore 5, 2) := by decide +kernel
theorem d_M_differs_35 : decode b_M_differs 35 = .ok (.lload_n 3, 1) := by decide +kernel
theorem d_M_differs_36 : decode b_M_differs 36 = .ok (.lconst 0, 1) := by decide +kernel
theorem d_M_differs_37 : decode b_M_differs 37 = .ok (.lcmp, 1) := by decide +kernel
theorem d_M_differs_38 : decode b_M_differs 38 = .ok (.ifCond .lt 10, 3) := by decide +kernel
theorem d_M_differs_41 : decode b_M_differs 41 = .ok (.lload 5, 2) := by decide +kernel
theorem d_M_differs_43 : decode b_M_differs 43 = .ok (.lconst 0, 1) := by decide +kernel
theorem d_M_differs_44 : decode b_M_differs 44 = .ok (.lcmp, 1) := by decide +kernel
theorem d_M_differs_45 : decode b_M_differs 45 = .ok (.ifCond .ge 5, 3) := by decide +kernel
theorem d_M_differs_48 : decode b_M_differs 48 = .ok (.iconst 0, 1) := by decide +kernel
theorem d_M_differs_49 : decode b_M_differs 49 = .ok (.ireturn, 1) := by decide +kernel
theorem d_M_differs_50 : decode b_M_differs 50 = .ok (.lload_n 3, 1) := by decide +kernel
theorem d_M_differs_51 : decode b_M_differs 51 = .ok (.lload 5, 2) := by decide +kernel
theorem d_M_differs_53 : decode b_M_differs 53 = .ok (.lcmp, 1) := by decide +kernel
theorem d_M_differs_54 : decode b_M_differs 54 = .ok (.ifCond .le 14, 3) := by decide +kernel
theorem d_M_differs_57 : decode b_M_differs 57 = .ok (.ldc2_w 117, 3) := by decide +kernel
theorem d_M_differs_60 : decode b_M_differs 60 = .ok (.lload_n 3, 1) := by decide +kernel
theorem d_M_differs_61 : decode b_M_differs 61 = .ok (.lload 5, 2) := by decide +kernel
theorem d_M_differs_63 : decode b_M_differs 63 = .ok (.lsub, 1) := by decide +kernel
theorem d_M_differs_64 : decode b_M_differs 64 = .ok (.lmul, 1) := by decide +kernel
theorem d_M_differs_65 : decode b_M_differs 65 = .ok (.goto 11, 3) := by decide +kernel
theorem d_M_differs_68 : decode b_M_differs 68 = .ok (.ldc2_w 117, 3) := by decide +kernel
theorem d_M_differs_71 : decode b_M_differs 71 = .ok (.lload 5, 2) := by decide +kernel
theorem d_M_differs_73 : decode b_M_differs 73 = .ok (.lload_n 3, 1) := by decide +kernel
theorem d_M_differs_74 : decode b_M_differs 74 = .ok (.lsub, 1) := by decide +kernel
theorem d_M_differs_75 : decode b_M_differs 75 = .ok (.lmul, 1) := by decide +kernel
theorem d_M_differs_76 : decode b_M_differs 76 = .ok (.lstore 7, 2) := by decide +kernel
theorem d_M_differs_78 : decode b_M_differs 78 = .ok (.lload_n 3, 1) := by decide +kernel
theorem d_M_differs_79 : decode b_M_differs 79 = .ok (.lload 5, 2) := by decide +kernel
theorem d_M_differs_81 : decode b_M_differs 81 = .ok (.lcmp, 1) := by decide +kernel
theorem d_M_differs_82 : decode b_M_differs 82 = .ok (.ifCond .le 16, 3) := by decide +kernel
theorem d_M_differs_85 : decode b_M_differs 85 = .ok (.lload 5, 2) := by decide +kernel
theorem d_M_differs_87 : decode b_M_differs 87 = .ok (.aload_n 0, 1) := by decide +kernel
theorem d_M_differs_88 : decode b_M_differs 88 = .ok (.getfield 68, 3) := by decide +kernel
theorem d_M_differs_91 : decode b_M_differs 91 = .ok (.iload_n 2, 1) := by decide +kernel
theorem d_M_differs_92 : decode b_M_differs 92 = .ok (.iaload, 1) := by decide +kernel
theorem d_M_differs_93 : decode b_M_differs 93 = .ok (.i2l, 1) := by decide +kernel
theorem d_M_differs_94 : decode b_M_differs 94 = .ok (.lmul, 1) := by decide +kernel
theorem d_M_differs_95 : decode b_M_differs 95 = .ok (.goto 13, 3) := by decide +kernel
theorem d_M_differs_98 : decode b_M_differs 98 = .ok (.lload 5, 2) := by decide +kernel
theorem d_M_differs_100 : decode b_M_differs 100 = .ok (.aload_n 0, 1) := by decide +kernel
theorem d_M_differs_101 : decode b_M_differs 101 = .ok (.getfield 71, 3) := by decide +kernel
theorem d_M_differs_104 : decode b_M_differs 104 = .ok (.iload_n 2, 1) := by decide +kernel
theorem d_M_differs_105 : decode b_M_differs 105 = .ok (.iaload, 1) := by decide +kernel
theorem d_M_differs_106 : decode b_M_differs 106 = .ok (.i2l, 1) := by decide +kernel
theorem d_M_differs_107 : decode b_M_differs 107 = .ok (.lmul, 1) := by decide +kernel
theorem d_M_differs_108 : decode b_M_differs 108 = .ok (.lstore 9, 2) := by decide +kernel
theorem d_M_differs_110 : decode b_M_differs 110 = .ok (.lload 7, 2) := by decide +kernel
theorem d_M_differs_112 : decode b_M_differs 112 = .ok (.lload 9, 2) := by decide +kernel
theorem d_M_differs_114 : decode b_M_differs 114 = .ok (.lcmp, 1) := by decide +kernel
theorem d_M_differs_115 : decode b_M_differs 115 = .ok (.ifCond .gt 7, 3) := by decide +kernel
theorem d_M_differs_118 : decode b_M_differs 118 = .ok (.iconst 0, 1) := by decide +kernel
theorem d_M_differs_119 : decode b_M_differs 119 = .ok (.goto 19, 3) := by decide +kernel
theorem d_M_differs_122 : decode b_M_differs 122 = .ok (.lload 7, 2) := by decide +kernel
theorem d_M_differs_124 : decode b_M_differs 124 = .ok (.lload 9, 2) := by decide +kernel
theorem d_M_differs_126 : decode b_M_differs 126 = .ok (.lload 9, 2) := by decide +kernel
theorem d_M_differs_128 : decode b_M_differs 128 = .ok (.ladd, 1) := by decide +kernel
theorem d_M_differs_129 : decode b_M_differs 129 = .ok (.lcmp, 1) := by decide +kernel
theorem d_M_differs_130 : decode b_M_differs 130 = .ok (.ifCond .gt 7, 3) := by decide +kernel
theorem d_M_differs_133 : decode b_M_differs 133 = .ok (.iconst 1, 1) := by decide +kernel
theorem d_M_differs_134 : decode b_M_differs 134 = .ok (.goto 4, 3) := by decide +kernel
theorem d_M_differs_137 : decode b_M_differs 137 = .ok (.iconst 2, 1) := by decide +kernel
theorem d_M_differs_138 : decode b_M_differs 138 = .ok (.ireturn, 1) := by decide +kernel
abbrev b_M_result : ByteArray := prog_5_method_20_code
def y_M_result : MethodName := ⟨R_M, "result", "(IIII)I"⟩
theorem d_M_result_0 : decode b_M_result 0 = .ok (.aload_n 0, 1) := by decide +kernel
theorem d_M_result_1 : decode b_M_result 1 = .ok (.iload_n 1, 1) := by decide +kernel
theorem d_M_result_2 : decode b_M_result 2 = .ok (.ifCond .lt 45, 3) := by decide +kernel
theorem d_M_result_5 : decode b_M_result 5 = .ok (.iload_n 1, 1) := by decide +kernel
theorem d_M_result_6 : decode b_M_result 6 = .ok (.aload_n 0, 1) := by decide +kernel
theorem d_M_result_7 : decode b_M_result 7 = .ok (.getfield 110, 3) := by decide +kernel
theorem d_M_result_10 : decode b_M_result 10 = .ok (.if_icmp .ge 37, 3) := by decide +kernel
theorem d_M_result_13 : decode b_M_result 13 = .ok (.iload_n 2, 1) := by decide +kernel
theorem d_M_result_14 : decode b_M_result 14 = .ok (.iconst 1, 1) := by decide +kernel
theorem d_M_result_15 : decode b_M_result 15 = .ok (.ldc 106, 2) := by decide +kernel
theorem d_M_result_17 : decode b_M_result 17 = .ok (.invokestatic 89, 3) := by decide +kernel
theorem d_M_result_20 : decode b_M_result 20 = .ok (.ifCond .eq 27, 3) := by decide +kernel
theorem d_M_result_23 : decode b_M_result 23 = .ok (.iload_n 3, 1) := by decide +kernel
theorem d_M_result_24 : decode b_M_result 24 = .ok (.iconst 0, 1) := by decide +kernel
theorem d_M_result_25 : decode b_M_result 25 = .ok (.iconst 3, 1) := by decide +kernel
theorem d_M_result_26 : decode b_M_result 26 = .ok (.invokestatic 89, 3) := by decide +kernel
theorem d_M_result_29 : decode b_M_result 29 = .ok (.ifCond .eq 18, 3) := by decide +kernel
theorem d_M_result_32 : decode b_M_result 32 = .ok (.iload 4, 2) := by decide +kernel
theorem d_M_result_34 : decode b_M_result 34 = .ok (.iconst 0, 1) := by decide +kernel
theorem d_M_result_35 : decode b_M_result 35 = .ok (.ldc 106, 2) := by decide +kernel
theorem d_M_result_37 : decode b_M_result 37 = .ok (.invokestatic 89, 3) := by decide +kernel
theorem d_M_result_40 : decode b_M_result 40 = .ok (.ifCond .eq 7, 3) := by decide +kernel
theorem d_M_result_43 : decode b_M_result 43 = .ok (.iconst 0, 1) := by decide +kernel
theorem d_M_result_44 : decode b_M_result 44 = .ok (.goto 4, 3) := by decide +kernel
theorem d_M_result_47 : decode b_M_result 47 = .ok (.iconst 1, 1) := by decide +kernel
theorem d_M_result_48 : decode b_M_result 48 = .ok (.putfield 74, 3) := by decide +kernel
theorem d_M_result_51 : decode b_M_result 51 = .ok (.aload_n 0, 1) := by decide +kernel
theorem d_M_result_52 : decode b_M_result 52 = .ok (.getfield 74, 3) := by decide +kernel
theorem d_M_result_55 : decode b_M_result 55 = .ok (.ifCond .le 5, 3) := by decide +kernel
theorem d_M_result_58 : decode b_M_result 58 = .ok (.iconst 0, 1) := by decide +kernel
theorem d_M_result_59 : decode b_M_result 59 = .ok (.ireturn, 1) := by decide +kernel
theorem d_M_result_60 : decode b_M_result 60 = .ok (.aload_n 0, 1) := by decide +kernel
theorem d_M_result_61 : decode b_M_result 61 = .ok (.iload_n 2, 1) := by decide +kernel
theorem d_M_result_62 : decode b_M_result 62 = .ok (.invokevirtual 113, 3) := by decide +kernel
theorem d_M_result_65 : decode b_M_result 65 = .ok (.istore 5, 2) := by decide +kernel
theorem d_M_result_67 : decode b_M_result 67 = .ok (.iload 5, 2) := by decide +kernel
theorem d_M_result_69 : decode b_M_result 69 = .ok (.iload_n 1, 1) := by decide +kernel
theorem d_M_result_70 : decode b_M_result 70 = .ok (.if_icmp .eq 16, 3) := by decide +kernel
theorem d_M_result_73 : decode b_M_result 73 = .ok (.iload 5, 2) := by decide +kernel
theorem d_M_result_75 : decode b_M_result 75 = .ok (.ifCond .ge 8, 3) := by decide +kernel
theorem d_M_result_78 : decode b_M_result 78 = .ok (.bipush (-3), 2) := by decide +kernel
theorem d_M_result_80 : decode b_M_result 80 = .ok (.goto 5, 3) := by decide +kernel
theorem d_M_result_83 : decode b_M_result 83 = .ok (.bipush (-2), 2) := by decide +kernel
theorem d_M_result_85 : decode b_M_result 85 = .ok (.ireturn, 1) := by decide +kernel
theorem d_M_result_86 : decode b_M_result 86 = .ok (.aload_n 0, 1) := by decide +kernel
theorem d_M_result_87 : decode b_M_result 87 = .ok (.getfield 62, 3) := by decide +kernel
theorem d_M_result_90 : decode b_M_result 90 = .ok (.iconst 4, 1) := by decide +kernel
theorem d_M_result_91 : decode b_M_result 91 = .ok (.iload_n 1, 1) := by decide +kernel
theorem d_M_result_92 : decode b_M_result 92 = .ok (.imul, 1) := by decide +kernel
theorem d_M_result_93 : decode b_M_result 93 = .ok (.iload_n 3, 1) := by decide +kernel
theorem d_M_result_94 : decode b_M_result 94 = .ok (.iadd, 1) := by decide +kernel
theorem d_M_result_95 : decode b_M_result 95 = .ok (.iaload, 1) := by decide +kernel
theorem d_M_result_96 : decode b_M_result 96 = .ok (.ifCond .lt 5, 3) := by decide +kernel
theorem d_M_result_99 : decode b_M_result 99 = .ok (.iconst (-1), 1) := by decide +kernel
theorem d_M_result_100 : decode b_M_result 100 = .ok (.ireturn, 1) := by decide +kernel
theorem d_M_result_101 : decode b_M_result 101 = .ok (.aload_n 0, 1) := by decide +kernel
theorem d_M_result_102 : decode b_M_result 102 = .ok (.getfield 62, 3) := by decide +kernel
theorem d_M_result_105 : decode b_M_result 105 = .ok (.iconst 4, 1) := by decide +kernel
theorem d_M_result_106 : decode b_M_result 106 = .ok (.iload_n 1, 1) := by decide +kernel
theorem d_M_result_107 : decode b_M_result 107 = .ok (.imul, 1) := by decide +kernel
theorem d_M_result_108 : decode b_M_result 108 = .ok (.iload_n 3, 1) := by decide +kernel
theorem d_M_result_109 : decode b_M_result 109 = .ok (.iadd, 1) := by decide +kernel
theorem d_M_result_110 : decode b_M_result 110 = .ok (.iload 4, 2) := by decide +kernel
theorem d_M_result_112 : decode b_M_result 112 = .ok (.iastore, 1) := by decide +kernel
theorem d_M_result_113 : decode b_M_result 113 = .ok (.aload_n 0, 1) := by decide +kernel
theorem d_M_result_114 : decode b_M_result 114 = .ok (.iload_n 1, 1) := by decide +kernel
theorem d_M_result_115 : decode b_M_result 115 = .ok (.iload_n 3, 1) := by decide +kernel
theorem d_M_result_116 : decode b_M_result 116 = .ok (.invokevirtual 119, 3) := by decide +kernel
theorem d_M_result_119 : decode b_M_result 119 = .ok (.ireturn, 1) := by decide +kernel
abbrev b_M_declared : ByteArray := prog_5_method_21_code
def y_M_declared : MethodName := ⟨R_M, "declared", "(III)Z"⟩
theorem d_M_declared_0 : decode b_M_declared 0 = .ok (.aload_n 0, 1) := by decide +kernel
theorem d_M_declared_1 : decode b_M_declared 1 = .ok (.iconst 0, 1) := by decide +kernel
theorem d_M_declared_2 : decode b_M_declared 2 = .ok (.putfield 74, 3) := by decide +kernel
theorem d_M_declared_5 : decode b_M_declared 5 = .ok (.iload_n 1, 1) := by decide +kernel
theorem d_M_declared_6 : decode b_M_declared 6 = .ok (.invokestatic 85, 3) := by decide +kernel
theorem d_M_declared_9 : decode b_M_declared 9 = .ok (.ifCond .eq 22, 3) := by decide +kernel
theorem d_M_declared_12 : decode b_M_declared 12 = .ok (.iload_n 2, 1) := by decide +kernel
theorem d_M_declared_13 : decode b_M_declared 13 = .ok (.iconst 0, 1) := by decide +kernel
theorem d_M_declared_14 : decode b_M_declared 14 = .ok (.iconst 3, 1) := by decide +kernel
theorem d_M_declared_15 : decode b_M_declared 15 = .ok (.invokestatic 89, 3) := by decide +kernel
theorem d_M_declared_18 : decode b_M_declared 18 = .ok (.ifCond .eq 13, 3) := by decide +kernel
theorem d_M_declared_21 : decode b_M_declared 21 = .ok (.iload_n 3, 1) := by decide +kernel
theorem d_M_declared_22 : decode b_M_declared 22 = .ok (.iconst 0, 1) := by decide +kernel
theorem d_M_declared_23 : decode b_M_declared 23 = .ok (.ldc 106, 2) := by decide +kernel
theorem d_M_declared_25 : decode b_M_declared 25 = .ok (.invokestatic 89, 3) := by decide +kernel
theorem d_M_declared_28 : decode b_M_declared 28 = .ok (.ifCond .ne 5, 3) := by decide +kernel
theorem d_M_declared_31 : decode b_M_declared 31 = .ok (.iconst 0, 1) := by decide +kernel
theorem d_M_declared_32 : decode b_M_declared 32 = .ok (.ireturn, 1) := by decide +kernel
theorem d_M_declared_33 : decode b_M_declared 33 = .ok (.aload_n 0, 1) := by decide +kernel
theorem d_M_declared_34 : decode b_M_declared 34 = .ok (.getfield 53, 3) := by decide +kernel
theorem d_M_declared_37 : decode b_M_declared 37 = .ok (.iconst 4, 1) := by decide +kernel
theorem d_M_declared_38 : decode b_M_declared 38 = .ok (.iload_n 1, 1) := by decide +kernel
theorem d_M_declared_39 : decode b_M_declared 39 = .ok (.imul, 1) := by decide +kernel
theorem d_M_declared_40 : decode b_M_declared 40 = .ok (.iload_n 2, 1) := by decide +kernel
theorem d_M_declared_41 : decode b_M_declared 41 = .ok (.iadd, 1) := by decide +kernel
theorem d_M_declared_42 : decode b_M_declared 42 = .ok (.iload_n 3, 1) := by decide +kernel
theorem d_M_declared_43 : decode b_M_declared 43 = .ok (.iastore, 1) := by decide +kernel
theorem d_M_declared_44 : decode b_M_declared 44 = .ok (.iconst 1, 1) := by decide +kernel
theorem d_M_declared_45 : decode b_M_declared 45 = .ok (.ireturn, 1) := by decide +kernel
abbrev b_M_tolerance : ByteArray := prog_5_method_22_code
def y_M_tolerance : MethodName := ⟨R_M, "tolerance", "(III)Z"⟩
theorem d_M_tolerance_0 : decode b_M_tolerance 0 = .ok (.aload_n 0, 1) := by decide +kernel
theorem d_M_tolerance_1 : decode b_M_tolerance 1 = .ok (.iconst 0, 1) := by decide +kernel
theorem d_M_tolerance_2 : decode b_M_tolerance 2 = .ok (.putfield 74, 3) := by decide +kernel
theorem d_M_tolerance_5 : decode b_M_tolerance 5 = .ok (.iload_n 1, 1) := by decide +kernel
theorem d_M_tolerance_6 : decode b_M_tolerance 6 = .ok (.iconst 0, 1) := by decide +kernel
theorem d_M_tolerance_7 : decode b_M_tolerance 7 = .ok (.iconst 3, 1) := by decide +kernel
theorem d_M_tolerance_8 : decode b_M_tolerance 8 = .ok (.invokestatic 89, 3) := by decide +kernel
theorem d_M_tolerance_11 : decode b_M_tolerance 11 = .ok (.ifCond .eq 25, 3) := by decide +kernel
theorem d_M_tolerance_14 : decode b_M_tolerance 14 = .ok (.iload_n 2, 1) := by decide +kernel
theorem d_M_tolerance_15 : decode b_M_tolerance 15 = .ok (.iconst 0, 1) := by decide +kernel
theorem d_M_tolerance_16 : decode b_M_tolerance 16 = .ok (.sipush 1000, 3) := by decide +kernel
theorem d_M_tolerance_19 : decode b_M_tolerance 19 = .ok (.invokestatic 89, 3) := by decide +kernel
theorem d_M_tolerance_22 : decode b_M_tolerance 22 = .ok (.ifCond .eq 14, 3) := by decide +kernel
theorem d_M_tolerance_25 : decode b_M_tolerance 25 = .ok (.iload_n 3, 1) := by decide +kernel
theorem d_M_tolerance_26 : decode b_M_tolerance 26 = .ok (.iconst 0, 1) := by decide +kernel
theorem d_M_tolerance_27 : decode b_M_tolerance 27 = .ok (.sipush 1000, 3) := by decide +kernel
theorem d_M_tolerance_30 : decode b_M_tolerance 30 = .ok (.invokestatic 89, 3) := by decide +kernel
theorem d_M_tolerance_33 : decode b_M_tolerance 33 = .ok (.ifCond .ne 5, 3) := by decide +kernel
theorem d_M_tolerance_36 : decode b_M_tolerance 36 = .ok (.iconst 0, 1) := by decide +kernel
theorem d_M_tolerance_37 : decode b_M_tolerance 37 = .ok (.ireturn, 1) := by decide +kernel
theorem d_M_tolerance_38 : decode b_M_tolerance 38 = .ok (.aload_n 0, 1) := by decide +kernel
theorem d_M_tolerance_39 : decode b_M_tolerance 39 = .ok (.getfield 68, 3) := by decide +kernel
theorem d_M_tolerance_42 : decode b_M_tolerance 42 = .ok (.iload_n 1, 1) := by decide +kernel
theorem d_M_tolerance_43 : decode b_M_tolerance 43 = .ok (.iload_n 2, 1) := by decide +kernel
theorem d_M_tolerance_44 : decode b_M_tolerance 44 = .ok (.iastore, 1) := by decide +kernel
theorem d_M_tolerance_45 : decode b_M_tolerance 45 = .ok (.aload_n 0, 1) := by decide +kernel
theorem d_M_tolerance_46 : decode b_M_tolerance 46 = .ok (.getfield 71, 3) := by decide +kernel
theorem d_M_tolerance_49 : decode b_M_tolerance 49 = .ok (.iload_n 1, 1) := by decide +kernel
theorem d_M_tolerance_50 : decode b_M_tolerance 50 = .ok (.iload_n 3, 1) := by decide +kernel
theorem d_M_tolerance_51 : decode b_M_tolerance 51 = .ok (.iastore, 1) := by decide +kernel
theorem d_M_tolerance_52 : decode b_M_tolerance 52 = .ok (.iconst 1, 1) := by decide +kernel
theorem d_M_tolerance_53 : decode b_M_tolerance 53 = .ok (.ireturn, 1) := by decide +kernel
abbrev b_M_hold : ByteArray := prog_5_method_23_code
def y_M_hold : MethodName := ⟨R_M, "hold", "(IIZ)Z"⟩
theorem d_M_hold_0 : decode b_M_hold 0 = .ok (.aload_n 0, 1) := by decide +kernel
theorem d_M_hold_1 : decode b_M_hold 1 = .ok (.iconst 0, 1) := by decide +kernel
theorem d_M_hold_2 : decode b_M_hold 2 = .ok (.putfield 74, 3) := by decide +kernel
theorem d_M_hold_5 : decode b_M_hold 5 = .ok (.iload_n 1, 1) := by decide +kernel
theorem d_M_hold_6 : decode b_M_hold 6 = .ok (.invokestatic 85, 3) := by decide +kernel
theorem d_M_hold_9 : decode b_M_hold 9 = .ok (.ifCond .eq 36, 3) := by decide +kernel
theorem d_M_hold_12 : decode b_M_hold 12 = .ok (.iload_n 2, 1) := by decide +kernel
theorem d_M_hold_13 : decode b_M_hold 13 = .ok (.iconst 0, 1) := by decide +kernel
theorem d_M_hold_14 : decode b_M_hold 14 = .ok (.bipush 7, 2) := by decide +kernel
theorem d_M_hold_16 : decode b_M_hold 16 = .ok (.invokestatic 89, 3) := by decide +kernel
theorem d_M_hold_19 : decode b_M_hold 19 = .ok (.ifCond .eq 26, 3) := by decide +kernel
theorem d_M_hold_22 : decode b_M_hold 22 = .ok (.aload_n 0, 1) := by decide +kernel
theorem d_M_hold_23 : decode b_M_hold 23 = .ok (.getfield 50, 3) := by decide +kernel
theorem d_M_hold_26 : decode b_M_hold 26 = .ok (.iload_n 1, 1) := by decide +kernel
theorem d_M_hold_27 : decode b_M_hold 27 = .ok (.iaload, 1) := by decide +kernel
theorem d_M_hold_28 : decode b_M_hold 28 = .ok (.iload_n 2, 1) := by decide +kernel
theorem d_M_hold_29 : decode b_M_hold 29 = .ok (.ishr, 1) := by decide +kernel
theorem d_M_hold_30 : decode b_M_hold 30 = .ok (.iconst 1, 1) := by decide +kernel
theorem d_M_hold_31 : decode b_M_hold 31 = .ok (.iand, 1) := by decide +kernel
theorem d_M_hold_32 : decode b_M_hold 32 = .ok (.iconst 1, 1) := by decide +kernel
theorem d_M_hold_33 : decode b_M_hold 33 = .ok (.if_icmp .ne 7, 3) := by decide +kernel
theorem d_M_hold_36 : decode b_M_hold 36 = .ok (.iconst 1, 1) := by decide +kernel
theorem d_M_hold_37 : decode b_M_hold 37 = .ok (.goto 4, 3) := by decide +kernel
theorem d_M_hold_40 : decode b_M_hold 40 = .ok (.iconst 0, 1) := by decide +kernel
theorem d_M_hold_41 : decode b_M_hold 41 = .ok (.iload_n 3, 1) := by decide +kernel
theorem d_M_hold_42 : decode b_M_hold 42 = .ok (.if_icmp .ne 5, 3) := by decide +kernel
theorem d_M_hold_45 : decode b_M_hold 45 = .ok (.iconst 0, 1) := by decide +kernel
theorem d_M_hold_46 : decode b_M_hold 46 = .ok (.ireturn, 1) := by decide +kernel
theorem d_M_hold_47 : decode b_M_hold 47 = .ok (.aload_n 0, 1) := by decide +kernel
theorem d_M_hold_48 : decode b_M_hold 48 = .ok (.getfield 50, 3) := by decide +kernel
theorem d_M_hold_51 : decode b_M_hold 51 = .ok (.iload_n 1, 1) := by decide +kernel
theorem d_M_hold_52 : decode b_M_hold 52 = .ok (.dup2, 1) := by decide +kernel
theorem d_M_hold_53 : decode b_M_hold 53 = .ok (.iaload, 1) := by decide +kernel
theorem d_M_hold_54 : decode b_M_hold 54 = .ok (.iload_n 3, 1) := by decide +kernel
theorem d_M_hold_55 : decode b_M_hold 55 = .ok (.ifCond .eq 9, 3) := by decide +kernel
theorem d_M_hold_58 : decode b_M_hold 58 = .ok (.iconst 1, 1) := by decide +kernel
theorem d_M_hold_59 : decode b_M_hold 59 = .ok (.iload_n 2, 1) := by decide +kernel
theorem d_M_hold_60 : decode b_M_hold 60 = .ok (.ishl, 1) := by decide +kernel
theorem d_M_hold_61 : decode b_M_hold 61 = .ok (.goto 7, 3) := by decide +kernel
theorem d_M_hold_64 : decode b_M_hold 64 = .ok (.iconst 1, 1) := by decide +kernel
theorem d_M_hold_65 : decode b_M_hold 65 = .ok (.iload_n 2, 1) := by decide +kernel
theorem d_M_hold_66 : decode b_M_hold 66 = .ok (.ishl, 1) := by decide +kernel
theorem d_M_hold_67 : decode b_M_hold 67 = .ok (.ineg, 1) := by decide +kernel
theorem d_M_hold_68 : decode b_M_hold 68 = .ok (.iadd, 1) := by decide +kernel
theorem d_M_hold_69 : decode b_M_hold 69 = .ok (.iastore, 1) := by decide +kernel
theorem d_M_hold_70 : decode b_M_hold 70 = .ok (.iconst 1, 1) := by decide +kernel
theorem d_M_hold_71 : decode b_M_hold 71 = .ok (.ireturn, 1) := by decide +kernel
abbrev b_M_isOf : ByteArray := prog_5_method_24_code
def y_M_isOf : MethodName := ⟨R_M, "isOf", "(II)Z"⟩
theorem d_M_isOf_0 : decode b_M_isOf 0 = .ok (.aload_n 0, 1) := by decide +kernel
theorem d_M_isOf_1 : decode b_M_isOf 1 = .ok (.getfield 13, 3) := by decide +kernel
theorem d_M_isOf_4 : decode b_M_isOf 4 = .ok (.aload_n 0, 1) := by decide +kernel
theorem d_M_isOf_5 : decode b_M_isOf 5 = .ok (.getfield 56, 3) := by decide +kernel
theorem d_M_isOf_8 : decode b_M_isOf 8 = .ok (.iload_n 1, 1) := by decide +kernel
theorem d_M_isOf_9 : decode b_M_isOf 9 = .ok (.iaload, 1) := by decide +kernel
theorem d_M_isOf_10 : decode b_M_isOf 10 = .ok (.iaload, 1) := by decide +kernel
theorem d_M_isOf_11 : decode b_M_isOf 11 = .ok (.iload_n 2, 1) := by decide +kernel
theorem d_M_isOf_12 : decode b_M_isOf 12 = .ok (.if_icmp .ne 7, 3) := by decide +kernel
theorem d_M_isOf_15 : decode b_M_isOf 15 = .ok (.iconst 1, 1) := by decide +kernel
theorem d_M_isOf_16 : decode b_M_isOf 16 = .ok (.goto 4, 3) := by decide +kernel
theorem d_M_isOf_19 : decode b_M_isOf 19 = .ok (.iconst 0, 1) := by decide +kernel
theorem d_M_isOf_20 : decode b_M_isOf 20 = .ok (.ireturn, 1) := by decide +kernel
abbrev b_M_great : ByteArray := prog_5_method_25_code
def y_M_great : MethodName := ⟨R_M, "great", "(IZ)I"⟩
theorem d_M_great_0 : decode b_M_great 0 = .ok (.iconst 0, 1) := by decide +kernel
theorem d_M_great_1 : decode b_M_great 1 = .ok (.istore_n 3, 1) := by decide +kernel
theorem d_M_great_2 : decode b_M_great 2 = .ok (.iconst 0, 1) := by decide +kernel
theorem d_M_great_3 : decode b_M_great 3 = .ok (.istore 4, 2) := by decide +kernel
theorem d_M_great_5 : decode b_M_great 5 = .ok (.iload 4, 2) := by decide +kernel
theorem d_M_great_7 : decode b_M_great 7 = .ok (.iconst 4, 1) := by decide +kernel
theorem d_M_great_8 : decode b_M_great 8 = .ok (.aload_n 0, 1) := by decide +kernel
theorem d_M_great_9 : decode b_M_great 9 = .ok (.getfield 110, 3) := by decide +kernel
theorem d_M_great_12 : decode b_M_great 12 = .ok (.imul, 1) := by decide +kernel
theorem d_M_great_13 : decode b_M_great 13 = .ok (.if_icmp .ge 59, 3) := by decide +kernel
theorem d_M_great_16 : decode b_M_great 16 = .ok (.iload_n 3, 1) := by decide +kernel
theorem d_M_great_17 : decode b_M_great 17 = .ok (.aload_n 0, 1) := by decide +kernel
theorem d_M_great_18 : decode b_M_great 18 = .ok (.iload 4, 2) := by decide +kernel
theorem d_M_great_20 : decode b_M_great 20 = .ok (.iconst 4, 1) := by decide +kernel
theorem d_M_great_21 : decode b_M_great 21 = .ok (.idiv, 1) := by decide +kernel
theorem d_M_great_22 : decode b_M_great 22 = .ok (.iload_n 1, 1) := by decide +kernel
theorem d_M_great_23 : decode b_M_great 23 = .ok (.invokevirtual 123, 3) := by decide +kernel
theorem d_M_great_26 : decode b_M_great 26 = .ok (.ifCond .eq 37, 3) := by decide +kernel
theorem d_M_great_29 : decode b_M_great 29 = .ok (.aload_n 0, 1) := by decide +kernel
theorem d_M_great_30 : decode b_M_great 30 = .ok (.iload 4, 2) := by decide +kernel
theorem d_M_great_32 : decode b_M_great 32 = .ok (.iconst 4, 1) := by decide +kernel
theorem d_M_great_33 : decode b_M_great 33 = .ok (.idiv, 1) := by decide +kernel
theorem d_M_great_34 : decode b_M_great 34 = .ok (.iload 4, 2) := by decide +kernel
theorem d_M_great_36 : decode b_M_great 36 = .ok (.iconst 4, 1) := by decide +kernel
theorem d_M_great_37 : decode b_M_great 37 = .ok (.irem, 1) := by decide +kernel
theorem d_M_great_38 : decode b_M_great 38 = .ok (.invokevirtual 119, 3) := by decide +kernel
theorem d_M_great_41 : decode b_M_great 41 = .ok (.iconst 2, 1) := by decide +kernel
theorem d_M_great_42 : decode b_M_great 42 = .ok (.if_icmp .ne 21, 3) := by decide +kernel
theorem d_M_great_45 : decode b_M_great 45 = .ok (.iload_n 2, 1) := by decide +kernel
theorem d_M_great_46 : decode b_M_great 46 = .ok (.ifCond .ne 13, 3) := by decide +kernel
theorem d_M_great_49 : decode b_M_great 49 = .ok (.aload_n 0, 1) := by decide +kernel
theorem d_M_great_50 : decode b_M_great 50 = .ok (.getfield 65, 3) := by decide +kernel
theorem d_M_great_53 : decode b_M_great 53 = .ok (.iload 4, 2) := by decide +kernel
theorem d_M_great_55 : decode b_M_great 55 = .ok (.baload, 1) := by decide +kernel
theorem d_M_great_56 : decode b_M_great 56 = .ok (.ifCond .ne 7, 3) := by decide +kernel
theorem d_M_great_59 : decode b_M_great 59 = .ok (.iconst 1, 1) := by decide +kernel
theorem d_M_great_60 : decode b_M_great 60 = .ok (.goto 4, 3) := by decide +kernel
theorem d_M_great_63 : decode b_M_great 63 = .ok (.iconst 0, 1) := by decide +kernel
theorem d_M_great_64 : decode b_M_great 64 = .ok (.iadd, 1) := by decide +kernel
theorem d_M_great_65 : decode b_M_great 65 = .ok (.istore_n 3, 1) := by decide +kernel
theorem d_M_great_66 : decode b_M_great 66 = .ok (.iinc 4 1, 3) := by decide +kernel
theorem d_M_great_69 : decode b_M_great 69 = .ok (.goto (-64), 3) := by decide +kernel
theorem d_M_great_72 : decode b_M_great 72 = .ok (.iload_n 3, 1) := by decide +kernel
theorem d_M_great_73 : decode b_M_great 73 = .ok (.ireturn, 1) := by decide +kernel
abbrev b_M_settle : ByteArray := prog_5_method_26_code
def y_M_settle : MethodName := ⟨R_M, "settle", "(I)I"⟩
theorem d_M_settle_0 : decode b_M_settle 0 = .ok (.aload_n 0, 1) := by decide +kernel
theorem d_M_settle_1 : decode b_M_settle 1 = .ok (.iload_n 1, 1) := by decide +kernel
theorem d_M_settle_2 : decode b_M_settle 2 = .ok (.invokestatic 85, 3) := by decide +kernel
theorem d_M_settle_5 : decode b_M_settle 5 = .ok (.ifCond .eq 7, 3) := by decide +kernel
theorem d_M_settle_8 : decode b_M_settle 8 = .ok (.iconst 0, 1) := by decide +kernel
theorem d_M_settle_9 : decode b_M_settle 9 = .ok (.goto 4, 3) := by decide +kernel
theorem d_M_settle_12 : decode b_M_settle 12 = .ok (.iconst 1, 1) := by decide +kernel
theorem d_M_settle_13 : decode b_M_settle 13 = .ok (.putfield 74, 3) := by decide +kernel
theorem d_M_settle_16 : decode b_M_settle 16 = .ok (.aload_n 0, 1) := by decide +kernel
theorem d_M_settle_17 : decode b_M_settle 17 = .ok (.getfield 74, 3) := by decide +kernel
theorem d_M_settle_20 : decode b_M_settle 20 = .ok (.ifCond .le 5, 3) := by decide +kernel
theorem d_M_settle_23 : decode b_M_settle 23 = .ok (.iconst 0, 1) := by decide +kernel
theorem d_M_settle_24 : decode b_M_settle 24 = .ok (.ireturn, 1) := by decide +kernel
theorem d_M_settle_25 : decode b_M_settle 25 = .ok (.aload_n 0, 1) := by decide +kernel
theorem d_M_settle_26 : decode b_M_settle 26 = .ok (.iload_n 1, 1) := by decide +kernel
theorem d_M_settle_27 : decode b_M_settle 27 = .ok (.iconst 0, 1) := by decide +kernel
theorem d_M_settle_28 : decode b_M_settle 28 = .ok (.invokevirtual 126, 3) := by decide +kernel
theorem d_M_settle_31 : decode b_M_settle 31 = .ok (.istore_n 2, 1) := by decide +kernel
theorem d_M_settle_32 : decode b_M_settle 32 = .ok (.iconst 0, 1) := by decide +kernel
theorem d_M_settle_33 : decode b_M_settle 33 = .ok (.istore_n 3, 1) := by decide +kernel
theorem d_M_settle_34 : decode b_M_settle 34 = .ok (.iload_n 3, 1) := by decide +kernel
theorem d_M_settle_35 : decode b_M_settle 35 = .ok (.iconst 4, 1) := by decide +kernel
theorem d_M_settle_36 : decode b_M_settle 36 = .ok (.aload_n 0, 1) := by decide +kernel
theorem d_M_settle_37 : decode b_M_settle 37 = .ok (.getfield 110, 3) := by decide +kernel
theorem d_M_settle_40 : decode b_M_settle 40 = .ok (.imul, 1) := by decide +kernel
theorem d_M_settle_41 : decode b_M_settle 41 = .ok (.if_icmp .ge 49, 3) := by decide +kernel
theorem d_M_settle_44 : decode b_M_settle 44 = .ok (.aload_n 0, 1) := by decide +kernel
theorem d_M_settle_45 : decode b_M_settle 45 = .ok (.getfield 65, 3) := by decide +kernel
theorem d_M_settle_48 : decode b_M_settle 48 = .ok (.iload_n 3, 1) := by decide +kernel
theorem d_M_settle_49 : decode b_M_settle 49 = .ok (.aload_n 0, 1) := by decide +kernel
theorem d_M_settle_50 : decode b_M_settle 50 = .ok (.getfield 65, 3) := by decide +kernel
theorem d_M_settle_53 : decode b_M_settle 53 = .ok (.iload_n 3, 1) := by decide +kernel
theorem d_M_settle_54 : decode b_M_settle 54 = .ok (.baload, 1) := by decide +kernel
theorem d_M_settle_55 : decode b_M_settle 55 = .ok (.ifCond .ne 23, 3) := by decide +kernel
theorem d_M_settle_58 : decode b_M_settle 58 = .ok (.aload_n 0, 1) := by decide +kernel
theorem d_M_settle_59 : decode b_M_settle 59 = .ok (.iload_n 3, 1) := by decide +kernel
theorem d_M_settle_60 : decode b_M_settle 60 = .ok (.iconst 4, 1) := by decide +kernel
theorem d_M_settle_61 : decode b_M_settle 61 = .ok (.idiv, 1) := by decide +kernel
theorem d_M_settle_62 : decode b_M_settle 62 = .ok (.iload_n 1, 1) := by decide +kernel
theorem d_M_settle_63 : decode b_M_settle 63 = .ok (.invokevirtual 123, 3) := by decide +kernel
theorem d_M_settle_66 : decode b_M_settle 66 = .ok (.ifCond .eq 16, 3) := by decide +kernel
theorem d_M_settle_69 : decode b_M_settle 69 = .ok (.aload_n 0, 1) := by decide +kernel
theorem d_M_settle_70 : decode b_M_settle 70 = .ok (.getfield 62, 3) := by decide +kernel
theorem d_M_settle_73 : decode b_M_settle 73 = .ok (.iload_n 3, 1) := by decide +kernel
theorem d_M_settle_74 : decode b_M_settle 74 = .ok (.iaload, 1) := by decide +kernel
theorem d_M_settle_75 : decode b_M_settle 75 = .ok (.ifCond .lt 7, 3) := by decide +kernel
theorem d_M_settle_78 : decode b_M_settle 78 = .ok (.iconst 1, 1) := by decide +kernel
theorem d_M_settle_79 : decode b_M_settle 79 = .ok (.goto 4, 3) := by decide +kernel
theorem d_M_settle_82 : decode b_M_settle 82 = .ok (.iconst 0, 1) := by decide +kernel
theorem d_M_settle_83 : decode b_M_settle 83 = .ok (.bastore, 1) := by decide +kernel
theorem d_M_settle_84 : decode b_M_settle 84 = .ok (.iinc 3 1, 3) := by decide +kernel
theorem d_M_settle_87 : decode b_M_settle 87 = .ok (.goto (-53), 3) := by decide +kernel
theorem d_M_settle_90 : decode b_M_settle 90 = .ok (.iload_n 2, 1) := by decide +kernel
theorem d_M_settle_91 : decode b_M_settle 91 = .ok (.ireturn, 1) := by decide +kernel
abbrev b_M_tick : ByteArray := prog_5_method_27_code
def y_M_tick : MethodName := ⟨R_M, "tick", "(I)I"⟩
theorem d_M_tick_0 : decode b_M_tick 0 = .ok (.aload_n 0, 1) := by decide +kernel
theorem d_M_tick_1 : decode b_M_tick 1 = .ok (.aload_n 0, 1) := by decide +kernel
theorem d_M_tick_2 : decode b_M_tick 2 = .ok (.iload_n 1, 1) := by decide +kernel
theorem d_M_tick_3 : decode b_M_tick 3 = .ok (.invokevirtual 97, 3) := by decide +kernel
theorem d_M_tick_6 : decode b_M_tick 6 = .ok (.ifCond .eq 7, 3) := by decide +kernel
theorem d_M_tick_9 : decode b_M_tick 9 = .ok (.iconst 0, 1) := by decide +kernel
theorem d_M_tick_10 : decode b_M_tick 10 = .ok (.goto 4, 3) := by decide +kernel
theorem d_M_tick_13 : decode b_M_tick 13 = .ok (.iconst 1, 1) := by decide +kernel
theorem d_M_tick_14 : decode b_M_tick 14 = .ok (.putfield 74, 3) := by decide +kernel
theorem d_M_tick_17 : decode b_M_tick 17 = .ok (.aload_n 0, 1) := by decide +kernel
theorem d_M_tick_18 : decode b_M_tick 18 = .ok (.getfield 74, 3) := by decide +kernel
theorem d_M_tick_21 : decode b_M_tick 21 = .ok (.ifCond .le 5, 3) := by decide +kernel
theorem d_M_tick_24 : decode b_M_tick 24 = .ok (.iconst 0, 1) := by decide +kernel
theorem d_M_tick_25 : decode b_M_tick 25 = .ok (.ireturn, 1) := by decide +kernel
theorem d_M_tick_26 : decode b_M_tick 26 = .ok (.iconst 0, 1) := by decide +kernel
theorem d_M_tick_27 : decode b_M_tick 27 = .ok (.istore_n 2, 1) := by decide +kernel
theorem d_M_tick_28 : decode b_M_tick 28 = .ok (.aload_n 0, 1) := by decide +kernel
theorem d_M_tick_29 : decode b_M_tick 29 = .ok (.getfield 81, 3) := by decide +kernel
theorem d_M_tick_32 : decode b_M_tick 32 = .ok (.iconst 1, 1) := by decide +kernel
theorem d_M_tick_33 : decode b_M_tick 33 = .ok (.iadd, 1) := by decide +kernel
theorem d_M_tick_34 : decode b_M_tick 34 = .ok (.istore_n 3, 1) := by decide +kernel
theorem d_M_tick_35 : decode b_M_tick 35 = .ok (.iload_n 3, 1) := by decide +kernel
theorem d_M_tick_36 : decode b_M_tick 36 = .ok (.iload_n 1, 1) := by decide +kernel
theorem d_M_tick_37 : decode b_M_tick 37 = .ok (.if_icmp .gt 127, 3) := by decide +kernel
theorem d_M_tick_40 : decode b_M_tick 40 = .ok (.iconst 0, 1) := by decide +kernel
theorem d_M_tick_41 : decode b_M_tick 41 = .ok (.istore 4, 2) := by decide +kernel
theorem d_M_tick_43 : decode b_M_tick 43 = .ok (.iload 4, 2) := by decide +kernel
theorem d_M_tick_45 : decode b_M_tick 45 = .ok (.aload_n 0, 1) := by decide +kernel
theorem d_M_tick_46 : decode b_M_tick 46 = .ok (.getfield 78, 3) := by decide +kernel
theorem d_M_tick_49 : decode b_M_tick 49 = .ok (.if_icmp .ge 109, 3) := by decide +kernel
theorem d_M_tick_52 : decode b_M_tick 52 = .ok (.iload_n 3, 1) := by decide +kernel
theorem d_M_tick_53 : decode b_M_tick 53 = .ok (.aload_n 0, 1) := by decide +kernel
theorem d_M_tick_54 : decode b_M_tick 54 = .ok (.getfield 20, 3) := by decide +kernel
theorem d_M_tick_57 : decode b_M_tick 57 = .ok (.iload 4, 2) := by decide +kernel
theorem d_M_tick_59 : decode b_M_tick 59 = .ok (.iaload, 1) := by decide +kernel
theorem d_M_tick_60 : decode b_M_tick 60 = .ok (.if_icmp .le 56, 3) := by decide +kernel
theorem d_M_tick_63 : decode b_M_tick 63 = .ok (.iload_n 3, 1) := by decide +kernel
theorem d_M_tick_64 : decode b_M_tick 64 = .ok (.aload_n 0, 1) := by decide +kernel
theorem d_M_tick_65 : decode b_M_tick 65 = .ok (.getfield 20, 3) := by decide +kernel
theorem d_M_tick_68 : decode b_M_tick 68 = .ok (.iload 4, 2) := by decide +kernel
theorem d_M_tick_70 : decode b_M_tick 70 = .ok (.iaload, 1) := by decide +kernel
theorem d_M_tick_71 : decode b_M_tick 71 = .ok (.isub, 1) := by decide +kernel
theorem d_M_tick_72 : decode b_M_tick 72 = .ok (.bipush 100, 2) := by decide +kernel
theorem d_M_tick_74 : decode b_M_tick 74 = .ok (.irem, 1) := by decide +kernel
theorem d_M_tick_75 : decode b_M_tick 75 = .ok (.iconst 1, 1) := by decide +kernel
theorem d_M_tick_76 : decode b_M_tick 76 = .ok (.if_icmp .ne 40, 3) := by decide +kernel
theorem d_M_tick_79 : decode b_M_tick 79 = .ok (.aload_n 0, 1) := by decide +kernel
theorem d_M_tick_80 : decode b_M_tick 80 = .ok (.getfield 26, 3) := by decide +kernel
theorem d_M_tick_83 : decode b_M_tick 83 = .ok (.iload 4, 2) := by decide +kernel
theorem d_M_tick_85 : decode b_M_tick 85 = .ok (.iaload, 1) := by decide +kernel
theorem d_M_tick_86 : decode b_M_tick 86 = .ok (.iconst 3, 1) := by decide +kernel
theorem d_M_tick_87 : decode b_M_tick 87 = .ok (.if_icmp .ge 29, 3) := by decide +kernel
theorem d_M_tick_90 : decode b_M_tick 90 = .ok (.aload_n 0, 1) := by decide +kernel
theorem d_M_tick_91 : decode b_M_tick 91 = .ok (.getfield 23, 3) := by decide +kernel
theorem d_M_tick_94 : decode b_M_tick 94 = .ok (.iload 4, 2) := by decide +kernel
theorem d_M_tick_96 : decode b_M_tick 96 = .ok (.iaload, 1) := by decide +kernel
theorem d_M_tick_97 : decode b_M_tick 97 = .ok (.iconst 3, 1) := by decide +kernel
theorem d_M_tick_98 : decode b_M_tick 98 = .ok (.if_icmp .eq 18, 3) := by decide +kernel
theorem d_M_tick_101 : decode b_M_tick 101 = .ok (.aload_n 0, 1) := by decide +kernel
theorem d_M_tick_102 : decode b_M_tick 102 = .ok (.getfield 23, 3) := by decide +kernel
theorem d_M_tick_105 : decode b_M_tick 105 = .ok (.iload 4, 2) := by decide +kernel
theorem d_M_tick_107 : decode b_M_tick 107 = .ok (.iaload, 1) := by decide +kernel
theorem d_M_tick_108 : decode b_M_tick 108 = .ok (.iconst 5, 1) := by decide +kernel
theorem d_M_tick_109 : decode b_M_tick 109 = .ok (.if_icmp .eq 7, 3) := by decide +kernel
theorem d_M_tick_112 : decode b_M_tick 112 = .ok (.iconst 1, 1) := by decide +kernel
theorem d_M_tick_113 : decode b_M_tick 113 = .ok (.goto 4, 3) := by decide +kernel
theorem d_M_tick_116 : decode b_M_tick 116 = .ok (.iconst 0, 1) := by decide +kernel
theorem d_M_tick_117 : decode b_M_tick 117 = .ok (.istore 5, 2) := by decide +kernel
theorem d_M_tick_119 : decode b_M_tick 119 = .ok (.aload_n 0, 1) := by decide +kernel
theorem d_M_tick_120 : decode b_M_tick 120 = .ok (.getfield 26, 3) := by decide +kernel
theorem d_M_tick_123 : decode b_M_tick 123 = .ok (.iload 4, 2) := by decide +kernel
theorem d_M_tick_125 : decode b_M_tick 125 = .ok (.dup2, 1) := by decide +kernel
theorem d_M_tick_126 : decode b_M_tick 126 = .ok (.iaload, 1) := by decide +kernel
theorem d_M_tick_127 : decode b_M_tick 127 = .ok (.iload 5, 2) := by decide +kernel
theorem d_M_tick_129 : decode b_M_tick 129 = .ok (.ifCond .eq 7, 3) := by decide +kernel
theorem d_M_tick_132 : decode b_M_tick 132 = .ok (.iconst 1, 1) := by decide +kernel
theorem d_M_tick_133 : decode b_M_tick 133 = .ok (.goto 4, 3) := by decide +kernel
theorem d_M_tick_136 : decode b_M_tick 136 = .ok (.iconst 0, 1) := by decide +kernel
theorem d_M_tick_137 : decode b_M_tick 137 = .ok (.iadd, 1) := by decide +kernel
theorem d_M_tick_138 : decode b_M_tick 138 = .ok (.iastore, 1) := by decide +kernel
theorem d_M_tick_139 : decode b_M_tick 139 = .ok (.iload_n 2, 1) := by decide +kernel
theorem d_M_tick_140 : decode b_M_tick 140 = .ok (.iload 5, 2) := by decide +kernel
theorem d_M_tick_142 : decode b_M_tick 142 = .ok (.ifCond .eq 7, 3) := by decide +kernel
theorem d_M_tick_145 : decode b_M_tick 145 = .ok (.iconst 1, 1) := by decide +kernel
theorem d_M_tick_146 : decode b_M_tick 146 = .ok (.goto 4, 3) := by decide +kernel
theorem d_M_tick_149 : decode b_M_tick 149 = .ok (.iconst 0, 1) := by decide +kernel
theorem d_M_tick_150 : decode b_M_tick 150 = .ok (.iadd, 1) := by decide +kernel
theorem d_M_tick_151 : decode b_M_tick 151 = .ok (.istore_n 2, 1) := by decide +kernel
theorem d_M_tick_152 : decode b_M_tick 152 = .ok (.iinc 4 1, 3) := by decide +kernel
theorem d_M_tick_155 : decode b_M_tick 155 = .ok (.goto (-112), 3) := by decide +kernel
theorem d_M_tick_158 : decode b_M_tick 158 = .ok (.iinc 3 1, 3) := by decide +kernel
theorem d_M_tick_161 : decode b_M_tick 161 = .ok (.goto (-126), 3) := by decide +kernel
theorem d_M_tick_164 : decode b_M_tick 164 = .ok (.aload_n 0, 1) := by decide +kernel
theorem d_M_tick_165 : decode b_M_tick 165 = .ok (.iload_n 1, 1) := by decide +kernel
theorem d_M_tick_166 : decode b_M_tick 166 = .ok (.putfield 81, 3) := by decide +kernel
theorem d_M_tick_169 : decode b_M_tick 169 = .ok (.iload_n 2, 1) := by decide +kernel
theorem d_M_tick_170 : decode b_M_tick 170 = .ok (.ireturn, 1) := by decide +kernel
abbrev b_M_hasNoResult : ByteArray := prog_5_method_28_code
def y_M_hasNoResult : MethodName := ⟨R_M, "hasNoResult", "(I)Z"⟩
theorem d_M_hasNoResult_0 : decode b_M_hasNoResult 0 = .ok (.aload_n 0, 1) := by decide +kernel
theorem d_M_hasNoResult_1 : decode b_M_hasNoResult 1 = .ok (.getfield 62, 3) := by decide +kernel
theorem d_M_hasNoResult_4 : decode b_M_hasNoResult 4 = .ok (.iconst 4, 1) := by decide +kernel
theorem d_M_hasNoResult_5 : decode b_M_hasNoResult 5 = .ok (.iload_n 1, 1) := by decide +kernel
theorem d_M_hasNoResult_6 : decode b_M_hasNoResult 6 = .ok (.imul, 1) := by decide +kernel
theorem d_M_hasNoResult_7 : decode b_M_hasNoResult 7 = .ok (.iaload, 1) := by decide +kernel
theorem d_M_hasNoResult_8 : decode b_M_hasNoResult 8 = .ok (.ifCond .ge 46, 3) := by decide +kernel
theorem d_M_hasNoResult_11 : decode b_M_hasNoResult 11 = .ok (.aload_n 0, 1) := by decide +kernel
theorem d_M_hasNoResult_12 : decode b_M_hasNoResult 12 = .ok (.getfield 62, 3) := by decide +kernel
theorem d_M_hasNoResult_15 : decode b_M_hasNoResult 15 = .ok (.iconst 4, 1) := by decide +kernel
theorem d_M_hasNoResult_16 : decode b_M_hasNoResult 16 = .ok (.iload_n 1, 1) := by decide +kernel
theorem d_M_hasNoResult_17 : decode b_M_hasNoResult 17 = .ok (.imul, 1) := by decide +kernel
theorem d_M_hasNoResult_18 : decode b_M_hasNoResult 18 = .ok (.iconst 1, 1) := by decide +kernel
theorem d_M_hasNoResult_19 : decode b_M_hasNoResult 19 = .ok (.iadd, 1) := by decide +kernel
theorem d_M_hasNoResult_20 : decode b_M_hasNoResult 20 = .ok (.iaload, 1) := by decide +kernel
theorem d_M_hasNoResult_21 : decode b_M_hasNoResult 21 = .ok (.ifCond .ge 33, 3) := by decide +kernel
theorem d_M_hasNoResult_24 : decode b_M_hasNoResult 24 = .ok (.aload_n 0, 1) := by decide +kernel
theorem d_M_hasNoResult_25 : decode b_M_hasNoResult 25 = .ok (.getfield 62, 3) := by decide +kernel
theorem d_M_hasNoResult_28 : decode b_M_hasNoResult 28 = .ok (.iconst 4, 1) := by decide +kernel
theorem d_M_hasNoResult_29 : decode b_M_hasNoResult 29 = .ok (.iload_n 1, 1) := by decide +kernel
theorem d_M_hasNoResult_30 : decode b_M_hasNoResult 30 = .ok (.imul, 1) := by decide +kernel
theorem d_M_hasNoResult_31 : decode b_M_hasNoResult 31 = .ok (.iconst 2, 1) := by decide +kernel
theorem d_M_hasNoResult_32 : decode b_M_hasNoResult 32 = .ok (.iadd, 1) := by decide +kernel
theorem d_M_hasNoResult_33 : decode b_M_hasNoResult 33 = .ok (.iaload, 1) := by decide +kernel
theorem d_M_hasNoResult_34 : decode b_M_hasNoResult 34 = .ok (.ifCond .ge 20, 3) := by decide +kernel
theorem d_M_hasNoResult_37 : decode b_M_hasNoResult 37 = .ok (.aload_n 0, 1) := by decide +kernel
theorem d_M_hasNoResult_38 : decode b_M_hasNoResult 38 = .ok (.getfield 62, 3) := by decide +kernel
theorem d_M_hasNoResult_41 : decode b_M_hasNoResult 41 = .ok (.iconst 4, 1) := by decide +kernel
theorem d_M_hasNoResult_42 : decode b_M_hasNoResult 42 = .ok (.iload_n 1, 1) := by decide +kernel
theorem d_M_hasNoResult_43 : decode b_M_hasNoResult 43 = .ok (.imul, 1) := by decide +kernel
theorem d_M_hasNoResult_44 : decode b_M_hasNoResult 44 = .ok (.iconst 3, 1) := by decide +kernel
theorem d_M_hasNoResult_45 : decode b_M_hasNoResult 45 = .ok (.iadd, 1) := by decide +kernel
theorem d_M_hasNoResult_46 : decode b_M_hasNoResult 46 = .ok (.iaload, 1) := by decide +kernel
theorem d_M_hasNoResult_47 : decode b_M_hasNoResult 47 = .ok (.ifCond .ge 7, 3) := by decide +kernel
theorem d_M_hasNoResult_50 : decode b_M_hasNoResult 50 = .ok (.iconst 1, 1) := by decide +kernel
theorem d_M_hasNoResult_51 : decode b_M_hasNoResult 51 = .ok (.goto 4, 3) := by decide +kernel
theorem d_M_hasNoResult_54 : decode b_M_hasNoResult 54 = .ok (.iconst 0, 1) := by decide +kernel
theorem d_M_hasNoResult_55 : decode b_M_hasNoResult 55 = .ok (.ireturn, 1) := by decide +kernel
abbrev b_M_release : ByteArray := prog_5_method_29_code
def y_M_release : MethodName := ⟨R_M, "release", "(I)I"⟩
theorem d_M_release_0 : decode b_M_release 0 = .ok (.aload_n 0, 1) := by decide +kernel
theorem d_M_release_1 : decode b_M_release 1 = .ok (.iload_n 1, 1) := by decide +kernel
theorem d_M_release_2 : decode b_M_release 2 = .ok (.invokestatic 85, 3) := by decide +kernel
theorem d_M_release_5 : decode b_M_release 5 = .ok (.ifCond .eq 7, 3) := by decide +kernel
theorem d_M_release_8 : decode b_M_release 8 = .ok (.iconst 0, 1) := by decide +kernel
theorem d_M_release_9 : decode b_M_release 9 = .ok (.goto 4, 3) := by decide +kernel
theorem d_M_release_12 : decode b_M_release 12 = .ok (.iconst 1, 1) := by decide +kernel
theorem d_M_release_13 : decode b_M_release 13 = .ok (.putfield 74, 3) := by decide +kernel
theorem d_M_release_16 : decode b_M_release 16 = .ok (.aload_n 0, 1) := by decide +kernel
theorem d_M_release_17 : decode b_M_release 17 = .ok (.getfield 74, 3) := by decide +kernel
theorem d_M_release_20 : decode b_M_release 20 = .ok (.ifCond .le 5, 3) := by decide +kernel
theorem d_M_release_23 : decode b_M_release 23 = .ok (.iconst 0, 1) := by decide +kernel
theorem d_M_release_24 : decode b_M_release 24 = .ok (.ireturn, 1) := by decide +kernel
theorem d_M_release_25 : decode b_M_release 25 = .ok (.iconst 0, 1) := by decide +kernel
theorem d_M_release_26 : decode b_M_release 26 = .ok (.istore_n 2, 1) := by decide +kernel
theorem d_M_release_27 : decode b_M_release 27 = .ok (.iconst 0, 1) := by decide +kernel
theorem d_M_release_28 : decode b_M_release 28 = .ok (.istore_n 3, 1) := by decide +kernel
theorem d_M_release_29 : decode b_M_release 29 = .ok (.iload_n 3, 1) := by decide +kernel
theorem d_M_release_30 : decode b_M_release 30 = .ok (.aload_n 0, 1) := by decide +kernel
theorem d_M_release_31 : decode b_M_release 31 = .ok (.getfield 78, 3) := by decide +kernel
theorem d_M_release_34 : decode b_M_release 34 = .ok (.if_icmp .ge 49, 3) := by decide +kernel
theorem d_M_release_37 : decode b_M_release 37 = .ok (.iload_n 2, 1) := by decide +kernel
theorem d_M_release_38 : decode b_M_release 38 = .ok (.ifCond .ne 33, 3) := by decide +kernel
theorem d_M_release_41 : decode b_M_release 41 = .ok (.aload_n 0, 1) := by decide +kernel
theorem d_M_release_42 : decode b_M_release 42 = .ok (.getfield 13, 3) := by decide +kernel
theorem d_M_release_45 : decode b_M_release 45 = .ok (.iload_n 3, 1) := by decide +kernel
theorem d_M_release_46 : decode b_M_release 46 = .ok (.iaload, 1) := by decide +kernel
theorem d_M_release_47 : decode b_M_release 47 = .ok (.iload_n 1, 1) := by decide +kernel
theorem d_M_release_48 : decode b_M_release 48 = .ok (.if_icmp .ne 27, 3) := by decide +kernel
theorem d_M_release_51 : decode b_M_release 51 = .ok (.aload_n 0, 1) := by decide +kernel
theorem d_M_release_52 : decode b_M_release 52 = .ok (.getfield 23, 3) := by decide +kernel
theorem d_M_release_55 : decode b_M_release 55 = .ok (.iload_n 3, 1) := by decide +kernel
theorem d_M_release_56 : decode b_M_release 56 = .ok (.iaload, 1) := by decide +kernel
theorem d_M_release_57 : decode b_M_release 57 = .ok (.iconst 3, 1) := by decide +kernel
theorem d_M_release_58 : decode b_M_release 58 = .ok (.if_icmp .eq 17, 3) := by decide +kernel
theorem d_M_release_61 : decode b_M_release 61 = .ok (.aload_n 0, 1) := by decide +kernel
theorem d_M_release_62 : decode b_M_release 62 = .ok (.getfield 23, 3) := by decide +kernel
theorem d_M_release_65 : decode b_M_release 65 = .ok (.iload_n 3, 1) := by decide +kernel
theorem d_M_release_66 : decode b_M_release 66 = .ok (.iaload, 1) := by decide +kernel
theorem d_M_release_67 : decode b_M_release 67 = .ok (.iconst 5, 1) := by decide +kernel
theorem d_M_release_68 : decode b_M_release 68 = .ok (.if_icmp .eq 7, 3) := by decide +kernel
theorem d_M_release_71 : decode b_M_release 71 = .ok (.iconst 1, 1) := by decide +kernel
theorem d_M_release_72 : decode b_M_release 72 = .ok (.goto 4, 3) := by decide +kernel
theorem d_M_release_75 : decode b_M_release 75 = .ok (.iconst 0, 1) := by decide +kernel
theorem d_M_release_76 : decode b_M_release 76 = .ok (.istore_n 2, 1) := by decide +kernel
theorem d_M_release_77 : decode b_M_release 77 = .ok (.iinc 3 1, 3) := by decide +kernel
theorem d_M_release_80 : decode b_M_release 80 = .ok (.goto (-51), 3) := by decide +kernel
theorem d_M_release_83 : decode b_M_release 83 = .ok (.iconst 0, 1) := by decide +kernel
theorem d_M_release_84 : decode b_M_release 84 = .ok (.istore_n 3, 1) := by decide +kernel
theorem d_M_release_85 : decode b_M_release 85 = .ok (.iconst 0, 1) := by decide +kernel
theorem d_M_release_86 : decode b_M_release 86 = .ok (.istore 4, 2) := by decide +kernel
theorem d_M_release_88 : decode b_M_release 88 = .ok (.iload 4, 2) := by decide +kernel
theorem d_M_release_90 : decode b_M_release 90 = .ok (.aload_n 0, 1) := by decide +kernel
theorem d_M_release_91 : decode b_M_release 91 = .ok (.getfield 110, 3) := by decide +kernel
theorem d_M_release_94 : decode b_M_release 94 = .ok (.if_icmp .ge 38, 3) := by decide +kernel
theorem d_M_release_97 : decode b_M_release 97 = .ok (.iload_n 3, 1) := by decide +kernel
theorem d_M_release_98 : decode b_M_release 98 = .ok (.ifCond .ne 22, 3) := by decide +kernel
theorem d_M_release_101 : decode b_M_release 101 = .ok (.aload_n 0, 1) := by decide +kernel
theorem d_M_release_102 : decode b_M_release 102 = .ok (.iload 4, 2) := by decide +kernel
theorem d_M_release_104 : decode b_M_release 104 = .ok (.iload_n 1, 1) := by decide +kernel
theorem d_M_release_105 : decode b_M_release 105 = .ok (.invokevirtual 123, 3) := by decide +kernel
theorem d_M_release_108 : decode b_M_release 108 = .ok (.ifCond .eq 16, 3) := by decide +kernel
theorem d_M_release_111 : decode b_M_release 111 = .ok (.aload_n 0, 1) := by decide +kernel
theorem d_M_release_112 : decode b_M_release 112 = .ok (.iload 4, 2) := by decide +kernel
theorem d_M_release_114 : decode b_M_release 114 = .ok (.invokevirtual 130, 3) := by decide +kernel
theorem d_M_release_117 : decode b_M_release 117 = .ok (.ifCond .eq 7, 3) := by decide +kernel
theorem d_M_release_120 : decode b_M_release 120 = .ok (.iconst 1, 1) := by decide +kernel
theorem d_M_release_121 : decode b_M_release 121 = .ok (.goto 4, 3) := by decide +kernel
theorem d_M_release_124 : decode b_M_release 124 = .ok (.iconst 0, 1) := by decide +kernel
theorem d_M_release_125 : decode b_M_release 125 = .ok (.istore_n 3, 1) := by decide +kernel
theorem d_M_release_126 : decode b_M_release 126 = .ok (.iinc 4 1, 3) := by decide +kernel
theorem d_M_release_129 : decode b_M_release 129 = .ok (.goto (-41), 3) := by decide +kernel
theorem d_M_release_132 : decode b_M_release 132 = .ok (.iload_n 2, 1) := by decide +kernel
theorem d_M_release_133 : decode b_M_release 133 = .ok (.ifCond .eq 7, 3) := by decide +kernel
theorem d_M_release_136 : decode b_M_release 136 = .ok (.iconst 1, 1) := by decide +kernel
theorem d_M_release_137 : decode b_M_release 137 = .ok (.goto 51, 3) := by decide +kernel
theorem d_M_release_140 : decode b_M_release 140 = .ok (.aload_n 0, 1) := by decide +kernel
theorem d_M_release_141 : decode b_M_release 141 = .ok (.getfield 47, 3) := by decide +kernel
theorem d_M_release_144 : decode b_M_release 144 = .ok (.iload_n 1, 1) := by decide +kernel
theorem d_M_release_145 : decode b_M_release 145 = .ok (.baload, 1) := by decide +kernel
theorem d_M_release_146 : decode b_M_release 146 = .ok (.ifCond .eq 7, 3) := by decide +kernel
theorem d_M_release_149 : decode b_M_release 149 = .ok (.iconst 2, 1) := by decide +kernel
theorem d_M_release_150 : decode b_M_release 150 = .ok (.goto 38, 3) := by decide +kernel
theorem d_M_release_153 : decode b_M_release 153 = .ok (.aload_n 0, 1) := by decide +kernel
theorem d_M_release_154 : decode b_M_release 154 = .ok (.getfield 50, 3) := by decide +kernel
theorem d_M_release_157 : decode b_M_release 157 = .ok (.iload_n 1, 1) := by decide +kernel
theorem d_M_release_158 : decode b_M_release 158 = .ok (.iaload, 1) := by decide +kernel
theorem d_M_release_159 : decode b_M_release 159 = .ok (.ifCond .eq 7, 3) := by decide +kernel
theorem d_M_release_162 : decode b_M_release 162 = .ok (.iconst 3, 1) := by decide +kernel
theorem d_M_release_163 : decode b_M_release 163 = .ok (.goto 25, 3) := by decide +kernel
theorem d_M_release_166 : decode b_M_release 166 = .ok (.iload_n 3, 1) := by decide +kernel
theorem d_M_release_167 : decode b_M_release 167 = .ok (.ifCond .eq 7, 3) := by decide +kernel
theorem d_M_release_170 : decode b_M_release 170 = .ok (.iconst 4, 1) := by decide +kernel
theorem d_M_release_171 : decode b_M_release 171 = .ok (.goto 17, 3) := by decide +kernel
theorem d_M_release_174 : decode b_M_release 174 = .ok (.aload_n 0, 1) := by decide +kernel
theorem d_M_release_175 : decode b_M_release 175 = .ok (.iload_n 1, 1) := by decide +kernel
theorem d_M_release_176 : decode b_M_release 176 = .ok (.iconst 0, 1) := by decide +kernel
theorem d_M_release_177 : decode b_M_release 177 = .ok (.invokevirtual 126, 3) := by decide +kernel
theorem d_M_release_180 : decode b_M_release 180 = .ok (.ifCond .le 7, 3) := by decide +kernel
theorem d_M_release_183 : decode b_M_release 183 = .ok (.iconst 5, 1) := by decide +kernel
theorem d_M_release_184 : decode b_M_release 184 = .ok (.goto 4, 3) := by decide +kernel
theorem d_M_release_187 : decode b_M_release 187 = .ok (.iconst 0, 1) := by decide +kernel
theorem d_M_release_188 : decode b_M_release 188 = .ok (.ireturn, 1) := by decide +kernel
abbrev b_M_samplesOf : ByteArray := prog_5_method_30_code
def y_M_samplesOf : MethodName := ⟨R_M, "samplesOf", "(I)I"⟩
theorem d_M_samplesOf_0 : decode b_M_samplesOf 0 = .ok (.iconst 0, 1) := by decide +kernel
theorem d_M_samplesOf_1 : decode b_M_samplesOf 1 = .ok (.istore_n 2, 1) := by decide +kernel
theorem d_M_samplesOf_2 : decode b_M_samplesOf 2 = .ok (.iconst 0, 1) := by decide +kernel
theorem d_M_samplesOf_3 : decode b_M_samplesOf 3 = .ok (.istore_n 3, 1) := by decide +kernel
theorem d_M_samplesOf_4 : decode b_M_samplesOf 4 = .ok (.iload_n 3, 1) := by decide +kernel
theorem d_M_samplesOf_5 : decode b_M_samplesOf 5 = .ok (.aload_n 0, 1) := by decide +kernel
theorem d_M_samplesOf_6 : decode b_M_samplesOf 6 = .ok (.getfield 110, 3) := by decide +kernel
theorem d_M_samplesOf_9 : decode b_M_samplesOf 9 = .ok (.if_icmp .ge 27, 3) := by decide +kernel
theorem d_M_samplesOf_12 : decode b_M_samplesOf 12 = .ok (.iload_n 2, 1) := by decide +kernel
theorem d_M_samplesOf_13 : decode b_M_samplesOf 13 = .ok (.aload_n 0, 1) := by decide +kernel
theorem d_M_samplesOf_14 : decode b_M_samplesOf 14 = .ok (.getfield 56, 3) := by decide +kernel
theorem d_M_samplesOf_17 : decode b_M_samplesOf 17 = .ok (.iload_n 3, 1) := by decide +kernel
theorem d_M_samplesOf_18 : decode b_M_samplesOf 18 = .ok (.iaload, 1) := by decide +kernel
theorem d_M_samplesOf_19 : decode b_M_samplesOf 19 = .ok (.iload_n 1, 1) := by decide +kernel
theorem d_M_samplesOf_20 : decode b_M_samplesOf 20 = .ok (.if_icmp .ne 7, 3) := by decide +kernel
theorem d_M_samplesOf_23 : decode b_M_samplesOf 23 = .ok (.iconst 1, 1) := by decide +kernel
theorem d_M_samplesOf_24 : decode b_M_samplesOf 24 = .ok (.goto 4, 3) := by decide +kernel
theorem d_M_samplesOf_27 : decode b_M_samplesOf 27 = .ok (.iconst 0, 1) := by decide +kernel
theorem d_M_samplesOf_28 : decode b_M_samplesOf 28 = .ok (.iadd, 1) := by decide +kernel
theorem d_M_samplesOf_29 : decode b_M_samplesOf 29 = .ok (.istore_n 2, 1) := by decide +kernel
theorem d_M_samplesOf_30 : decode b_M_samplesOf 30 = .ok (.iinc 3 1, 3) := by decide +kernel
theorem d_M_samplesOf_33 : decode b_M_samplesOf 33 = .ok (.goto (-29), 3) := by decide +kernel
theorem d_M_samplesOf_36 : decode b_M_samplesOf 36 = .ok (.iload_n 2, 1) := by decide +kernel
theorem d_M_samplesOf_37 : decode b_M_samplesOf 37 = .ok (.ireturn, 1) := by decide +kernel
abbrev b_M_look : ByteArray := prog_5_method_31_code
def y_M_look : MethodName := ⟨R_M, "look", "(II)I"⟩
theorem d_M_look_0 : decode b_M_look 0 = .ok (.aload_n 0, 1) := by decide +kernel
theorem d_M_look_1 : decode b_M_look 1 = .ok (.aload_n 0, 1) := by decide +kernel
theorem d_M_look_2 : decode b_M_look 2 = .ok (.iload_n 1, 1) := by decide +kernel
theorem d_M_look_3 : decode b_M_look 3 = .ok (.invokevirtual 100, 3) := by decide +kernel
theorem d_M_look_6 : decode b_M_look 6 = .ok (.ifCond .eq 17, 3) := by decide +kernel
theorem d_M_look_9 : decode b_M_look 9 = .ok (.iload_n 2, 1) := by decide +kernel
theorem d_M_look_10 : decode b_M_look 10 = .ok (.iconst 0, 1) := by decide +kernel
theorem d_M_look_11 : decode b_M_look 11 = .ok (.bipush 8, 2) := by decide +kernel
theorem d_M_look_13 : decode b_M_look 13 = .ok (.invokestatic 89, 3) := by decide +kernel
theorem d_M_look_16 : decode b_M_look 16 = .ok (.ifCond .eq 7, 3) := by decide +kernel
theorem d_M_look_19 : decode b_M_look 19 = .ok (.iconst 0, 1) := by decide +kernel
theorem d_M_look_20 : decode b_M_look 20 = .ok (.goto 4, 3) := by decide +kernel
theorem d_M_look_23 : decode b_M_look 23 = .ok (.iconst 1, 1) := by decide +kernel
theorem d_M_look_24 : decode b_M_look 24 = .ok (.putfield 74, 3) := by decide +kernel
theorem d_M_look_27 : decode b_M_look 27 = .ok (.aload_n 0, 1) := by decide +kernel
theorem d_M_look_28 : decode b_M_look 28 = .ok (.getfield 74, 3) := by decide +kernel
theorem d_M_look_31 : decode b_M_look 31 = .ok (.ifCond .le 5, 3) := by decide +kernel
theorem d_M_look_34 : decode b_M_look 34 = .ok (.iconst 0, 1) := by decide +kernel
theorem d_M_look_35 : decode b_M_look 35 = .ok (.ireturn, 1) := by decide +kernel
theorem d_M_look_36 : decode b_M_look 36 = .ok (.iload_n 2, 1) := by decide +kernel
theorem d_M_look_37 : decode b_M_look 37 = .ok (.tableswitch 139 0 7 #[47, 54, 61, 68, 75, 94, 113, 132], 47) := by decide +kernel
theorem d_M_look_84 : decode b_M_look 84 = .ok (.aload_n 0, 1) := by decide +kernel
theorem d_M_look_85 : decode b_M_look 85 = .ok (.getfield 13, 3) := by decide +kernel
theorem d_M_look_88 : decode b_M_look 88 = .ok (.iload_n 1, 1) := by decide +kernel
theorem d_M_look_89 : decode b_M_look 89 = .ok (.iaload, 1) := by decide +kernel
theorem d_M_look_90 : decode b_M_look 90 = .ok (.ireturn, 1) := by decide +kernel
theorem d_M_look_91 : decode b_M_look 91 = .ok (.aload_n 0, 1) := by decide +kernel
theorem d_M_look_92 : decode b_M_look 92 = .ok (.getfield 17, 3) := by decide +kernel
theorem d_M_look_95 : decode b_M_look 95 = .ok (.iload_n 1, 1) := by decide +kernel
theorem d_M_look_96 : decode b_M_look 96 = .ok (.iaload, 1) := by decide +kernel
theorem d_M_look_97 : decode b_M_look 97 = .ok (.ireturn, 1) := by decide +kernel
theorem d_M_look_98 : decode b_M_look 98 = .ok (.aload_n 0, 1) := by decide +kernel
theorem d_M_look_99 : decode b_M_look 99 = .ok (.getfield 23, 3) := by decide +kernel
theorem d_M_look_102 : decode b_M_look 102 = .ok (.iload_n 1, 1) := by decide +kernel
theorem d_M_look_103 : decode b_M_look 103 = .ok (.iaload, 1) := by decide +kernel
theorem d_M_look_104 : decode b_M_look 104 = .ok (.ireturn, 1) := by decide +kernel
theorem d_M_look_105 : decode b_M_look 105 = .ok (.aload_n 0, 1) := by decide +kernel
theorem d_M_look_106 : decode b_M_look 106 = .ok (.getfield 26, 3) := by decide +kernel
theorem d_M_look_109 : decode b_M_look 109 = .ok (.iload_n 1, 1) := by decide +kernel
theorem d_M_look_110 : decode b_M_look 110 = .ok (.iaload, 1) := by decide +kernel
theorem d_M_look_111 : decode b_M_look 111 = .ok (.ireturn, 1) := by decide +kernel
theorem d_M_look_112 : decode b_M_look 112 = .ok (.aload_n 0, 1) := by decide +kernel
theorem d_M_look_113 : decode b_M_look 113 = .ok (.iload_n 1, 1) := by decide +kernel
theorem d_M_look_114 : decode b_M_look 114 = .ok (.invokevirtual 103, 3) := by decide +kernel
theorem d_M_look_117 : decode b_M_look 117 = .ok (.ifCond .eq 12, 3) := by decide +kernel
theorem d_M_look_120 : decode b_M_look 120 = .ok (.aload_n 0, 1) := by decide +kernel
theorem d_M_look_121 : decode b_M_look 121 = .ok (.getfield 29, 3) := by decide +kernel
theorem d_M_look_124 : decode b_M_look 124 = .ok (.iload_n 1, 1) := by decide +kernel
theorem d_M_look_125 : decode b_M_look 125 = .ok (.iaload, 1) := by decide +kernel
theorem d_M_look_126 : decode b_M_look 126 = .ok (.goto 4, 3) := by decide +kernel
theorem d_M_look_129 : decode b_M_look 129 = .ok (.iconst (-1), 1) := by decide +kernel
theorem d_M_look_130 : decode b_M_look 130 = .ok (.ireturn, 1) := by decide +kernel
theorem d_M_look_131 : decode b_M_look 131 = .ok (.aload_n 0, 1) := by decide +kernel
theorem d_M_look_132 : decode b_M_look 132 = .ok (.iload_n 1, 1) := by decide +kernel
theorem d_M_look_133 : decode b_M_look 133 = .ok (.invokevirtual 103, 3) := by decide +kernel
theorem d_M_look_136 : decode b_M_look 136 = .ok (.ifCond .eq 12, 3) := by decide +kernel
theorem d_M_look_139 : decode b_M_look 139 = .ok (.aload_n 0, 1) := by decide +kernel
theorem d_M_look_140 : decode b_M_look 140 = .ok (.getfield 32, 3) := by decide +kernel
theorem d_M_look_143 : decode b_M_look 143 = .ok (.iload_n 1, 1) := by decide +kernel
theorem d_M_look_144 : decode b_M_look 144 = .ok (.iaload, 1) := by decide +kernel
theorem d_M_look_145 : decode b_M_look 145 = .ok (.goto 4, 3) := by decide +kernel
theorem d_M_look_148 : decode b_M_look 148 = .ok (.iconst (-1), 1) := by decide +kernel
theorem d_M_look_149 : decode b_M_look 149 = .ok (.ireturn, 1) := by decide +kernel
theorem d_M_look_150 : decode b_M_look 150 = .ok (.aload_n 0, 1) := by decide +kernel
theorem d_M_look_151 : decode b_M_look 151 = .ok (.iload_n 1, 1) := by decide +kernel
theorem d_M_look_152 : decode b_M_look 152 = .ok (.invokevirtual 103, 3) := by decide +kernel
theorem d_M_look_155 : decode b_M_look 155 = .ok (.ifCond .eq 12, 3) := by decide +kernel
theorem d_M_look_158 : decode b_M_look 158 = .ok (.aload_n 0, 1) := by decide +kernel
theorem d_M_look_159 : decode b_M_look 159 = .ok (.getfield 35, 3) := by decide +kernel
theorem d_M_look_162 : decode b_M_look 162 = .ok (.iload_n 1, 1) := by decide +kernel
theorem d_M_look_163 : decode b_M_look 163 = .ok (.iaload, 1) := by decide +kernel
theorem d_M_look_164 : decode b_M_look 164 = .ok (.goto 4, 3) := by decide +kernel
theorem d_M_look_167 : decode b_M_look 167 = .ok (.iconst (-1), 1) := by decide +kernel
theorem d_M_look_168 : decode b_M_look 168 = .ok (.ireturn, 1) := by decide +kernel
theorem d_M_look_169 : decode b_M_look 169 = .ok (.aload_n 0, 1) := by decide +kernel
theorem d_M_look_170 : decode b_M_look 170 = .ok (.getfield 38, 3) := by decide +kernel
theorem d_M_look_173 : decode b_M_look 173 = .ok (.iload_n 1, 1) := by decide +kernel
theorem d_M_look_174 : decode b_M_look 174 = .ok (.iaload, 1) := by decide +kernel
theorem d_M_look_175 : decode b_M_look 175 = .ok (.ireturn, 1) := by decide +kernel
theorem d_M_look_176 : decode b_M_look 176 = .ok (.aload_n 0, 1) := by decide +kernel
theorem d_M_look_177 : decode b_M_look 177 = .ok (.iload_n 1, 1) := by decide +kernel
theorem d_M_look_178 : decode b_M_look 178 = .ok (.invokevirtual 133, 3) := by decide +kernel
theorem d_M_look_181 : decode b_M_look 181 = .ok (.ireturn, 1) := by decide +kernel
abbrev b_M_costsOf : ByteArray := prog_5_method_32_code
def y_M_costsOf : MethodName := ⟨R_M, "costsOf", "(I)I"⟩
theorem d_M_costsOf_0 : decode b_M_costsOf 0 = .ok (.iconst 0, 1) := by decide +kernel
theorem d_M_costsOf_1 : decode b_M_costsOf 1 = .ok (.istore_n 2, 1) := by decide +kernel
theorem d_M_costsOf_2 : decode b_M_costsOf 2 = .ok (.iconst 0, 1) := by decide +kernel
theorem d_M_costsOf_3 : decode b_M_costsOf 3 = .ok (.istore_n 3, 1) := by decide +kernel
theorem d_M_costsOf_4 : decode b_M_costsOf 4 = .ok (.iload_n 3, 1) := by decide +kernel
theorem d_M_costsOf_5 : decode b_M_costsOf 5 = .ok (.aload_n 0, 1) := by decide +kernel
theorem d_M_costsOf_6 : decode b_M_costsOf 6 = .ok (.getfield 78, 3) := by decide +kernel
theorem d_M_costsOf_9 : decode b_M_costsOf 9 = .ok (.if_icmp .ge 53, 3) := by decide +kernel
theorem d_M_costsOf_12 : decode b_M_costsOf 12 = .ok (.iload_n 2, 1) := by decide +kernel
theorem d_M_costsOf_13 : decode b_M_costsOf 13 = .ok (.aload_n 0, 1) := by decide +kernel
theorem d_M_costsOf_14 : decode b_M_costsOf 14 = .ok (.getfield 13, 3) := by decide +kernel
theorem d_M_costsOf_17 : decode b_M_costsOf 17 = .ok (.iload_n 3, 1) := by decide +kernel
theorem d_M_costsOf_18 : decode b_M_costsOf 18 = .ok (.iaload, 1) := by decide +kernel
theorem d_M_costsOf_19 : decode b_M_costsOf 19 = .ok (.iload_n 1, 1) := by decide +kernel
theorem d_M_costsOf_20 : decode b_M_costsOf 20 = .ok (.if_icmp .ne 33, 3) := by decide +kernel
theorem d_M_costsOf_23 : decode b_M_costsOf 23 = .ok (.bipush 100, 2) := by decide +kernel
theorem d_M_costsOf_25 : decode b_M_costsOf 25 = .ok (.aload_n 0, 1) := by decide +kernel
theorem d_M_costsOf_26 : decode b_M_costsOf 26 = .ok (.getfield 17, 3) := by decide +kernel
theorem d_M_costsOf_29 : decode b_M_costsOf 29 = .ok (.iload_n 3, 1) := by decide +kernel
theorem d_M_costsOf_30 : decode b_M_costsOf 30 = .ok (.iaload, 1) := by decide +kernel
theorem d_M_costsOf_31 : decode b_M_costsOf 31 = .ok (.iconst 1, 1) := by decide +kernel
theorem d_M_costsOf_32 : decode b_M_costsOf 32 = .ok (.iadd, 1) := by decide +kernel
theorem d_M_costsOf_33 : decode b_M_costsOf 33 = .ok (.imul, 1) := by decide +kernel
theorem d_M_costsOf_34 : decode b_M_costsOf 34 = .ok (.aload_n 0, 1) := by decide +kernel
theorem d_M_costsOf_35 : decode b_M_costsOf 35 = .ok (.getfield 41, 3) := by decide +kernel
theorem d_M_costsOf_38 : decode b_M_costsOf 38 = .ok (.iload_n 3, 1) := by decide +kernel
theorem d_M_costsOf_39 : decode b_M_costsOf 39 = .ok (.iaload, 1) := by decide +kernel
theorem d_M_costsOf_40 : decode b_M_costsOf 40 = .ok (.imul, 1) := by decide +kernel
theorem d_M_costsOf_41 : decode b_M_costsOf 41 = .ok (.bipush 50, 2) := by decide +kernel
theorem d_M_costsOf_43 : decode b_M_costsOf 43 = .ok (.aload_n 0, 1) := by decide +kernel
theorem d_M_costsOf_44 : decode b_M_costsOf 44 = .ok (.iload_n 3, 1) := by decide +kernel
theorem d_M_costsOf_45 : decode b_M_costsOf 45 = .ok (.invokevirtual 133, 3) := by decide +kernel
theorem d_M_costsOf_48 : decode b_M_costsOf 48 = .ok (.imul, 1) := by decide +kernel
theorem d_M_costsOf_49 : decode b_M_costsOf 49 = .ok (.iadd, 1) := by decide +kernel
theorem d_M_costsOf_50 : decode b_M_costsOf 50 = .ok (.goto 4, 3) := by decide +kernel
theorem d_M_costsOf_53 : decode b_M_costsOf 53 = .ok (.iconst 0, 1) := by decide +kernel
theorem d_M_costsOf_54 : decode b_M_costsOf 54 = .ok (.iadd, 1) := by decide +kernel
theorem d_M_costsOf_55 : decode b_M_costsOf 55 = .ok (.istore_n 2, 1) := by decide +kernel
theorem d_M_costsOf_56 : decode b_M_costsOf 56 = .ok (.iinc 3 1, 3) := by decide +kernel
theorem d_M_costsOf_59 : decode b_M_costsOf 59 = .ok (.goto (-55), 3) := by decide +kernel
theorem d_M_costsOf_62 : decode b_M_costsOf 62 = .ok (.iload_n 2, 1) := by decide +kernel
theorem d_M_costsOf_63 : decode b_M_costsOf 63 = .ok (.ireturn, 1) := by decide +kernel
abbrev b_M_count : ByteArray := prog_5_method_33_code
def y_M_count : MethodName := ⟨R_M, "count", "(I)I"⟩
theorem d_M_count_0 : decode b_M_count 0 = .ok (.aload_n 0, 1) := by decide +kernel
theorem d_M_count_1 : decode b_M_count 1 = .ok (.iconst 0, 1) := by decide +kernel
theorem d_M_count_2 : decode b_M_count 2 = .ok (.putfield 74, 3) := by decide +kernel
theorem d_M_count_5 : decode b_M_count 5 = .ok (.iload_n 1, 1) := by decide +kernel
theorem d_M_count_6 : decode b_M_count 6 = .ok (.bipush 10, 2) := by decide +kernel
theorem d_M_count_8 : decode b_M_count 8 = .ok (.if_icmp .lt 78, 3) := by decide +kernel
theorem d_M_count_11 : decode b_M_count 11 = .ok (.iload_n 1, 1) := by decide +kernel
theorem d_M_count_12 : decode b_M_count 12 = .ok (.bipush 50, 2) := by decide +kernel
theorem d_M_count_14 : decode b_M_count 14 = .ok (.if_icmp .ge 72, 3) := by decide +kernel
theorem d_M_count_17 : decode b_M_count 17 = .ok (.iload_n 1, 1) := by decide +kernel
theorem d_M_count_18 : decode b_M_count 18 = .ok (.bipush 10, 2) := by decide +kernel
theorem d_M_count_20 : decode b_M_count 20 = .ok (.irem, 1) := by decide +kernel
theorem d_M_count_21 : decode b_M_count 21 = .ok (.istore_n 2, 1) := by decide +kernel
theorem d_M_count_22 : decode b_M_count 22 = .ok (.iload_n 1, 1) := by decide +kernel
theorem d_M_count_23 : decode b_M_count 23 = .ok (.bipush 20, 2) := by decide +kernel
theorem d_M_count_25 : decode b_M_count 25 = .ok (.if_icmp .ge 25, 3) := by decide +kernel
theorem d_M_count_28 : decode b_M_count 28 = .ok (.aload_n 0, 1) := by decide +kernel
theorem d_M_count_29 : decode b_M_count 29 = .ok (.getfield 47, 3) := by decide +kernel
theorem d_M_count_32 : decode b_M_count 32 = .ok (.iload_n 2, 1) := by decide +kernel
theorem d_M_count_33 : decode b_M_count 33 = .ok (.baload, 1) := by decide +kernel
theorem d_M_count_34 : decode b_M_count 34 = .ok (.ifCond .eq 7, 3) := by decide +kernel
theorem d_M_count_37 : decode b_M_count 37 = .ok (.iconst (-1), 1) := by decide +kernel
theorem d_M_count_38 : decode b_M_count 38 = .ok (.goto 47, 3) := by decide +kernel
theorem d_M_count_41 : decode b_M_count 41 = .ok (.aload_n 0, 1) := by decide +kernel
theorem d_M_count_42 : decode b_M_count 42 = .ok (.getfield 44, 3) := by decide +kernel
theorem d_M_count_45 : decode b_M_count 45 = .ok (.iload_n 2, 1) := by decide +kernel
theorem d_M_count_46 : decode b_M_count 46 = .ok (.iaload, 1) := by decide +kernel
theorem d_M_count_47 : decode b_M_count 47 = .ok (.goto 38, 3) := by decide +kernel
theorem d_M_count_50 : decode b_M_count 50 = .ok (.iload_n 1, 1) := by decide +kernel
theorem d_M_count_51 : decode b_M_count 51 = .ok (.bipush 30, 2) := by decide +kernel
theorem d_M_count_53 : decode b_M_count 53 = .ok (.if_icmp .ge 12, 3) := by decide +kernel
theorem d_M_count_56 : decode b_M_count 56 = .ok (.aload_n 0, 1) := by decide +kernel
theorem d_M_count_57 : decode b_M_count 57 = .ok (.getfield 50, 3) := by decide +kernel
theorem d_M_count_60 : decode b_M_count 60 = .ok (.iload_n 2, 1) := by decide +kernel
theorem d_M_count_61 : decode b_M_count 61 = .ok (.iaload, 1) := by decide +kernel
theorem d_M_count_62 : decode b_M_count 62 = .ok (.goto 23, 3) := by decide +kernel
theorem d_M_count_65 : decode b_M_count 65 = .ok (.iload_n 1, 1) := by decide +kernel
theorem d_M_count_66 : decode b_M_count 66 = .ok (.bipush 40, 2) := by decide +kernel
theorem d_M_count_68 : decode b_M_count 68 = .ok (.if_icmp .ge 11, 3) := by decide +kernel
theorem d_M_count_71 : decode b_M_count 71 = .ok (.aload_n 0, 1) := by decide +kernel
theorem d_M_count_72 : decode b_M_count 72 = .ok (.iload_n 2, 1) := by decide +kernel
theorem d_M_count_73 : decode b_M_count 73 = .ok (.invokevirtual 136, 3) := by decide +kernel
theorem d_M_count_76 : decode b_M_count 76 = .ok (.goto 9, 3) := by decide +kernel
theorem d_M_count_79 : decode b_M_count 79 = .ok (.aload_n 0, 1) := by decide +kernel
theorem d_M_count_80 : decode b_M_count 80 = .ok (.iload_n 2, 1) := by decide +kernel
theorem d_M_count_81 : decode b_M_count 81 = .ok (.iconst 1, 1) := by decide +kernel
theorem d_M_count_82 : decode b_M_count 82 = .ok (.invokevirtual 126, 3) := by decide +kernel
theorem d_M_count_85 : decode b_M_count 85 = .ok (.ireturn, 1) := by decide +kernel
theorem d_M_count_86 : decode b_M_count 86 = .ok (.iload_n 1, 1) := by decide +kernel
theorem d_M_count_87 : decode b_M_count 87 = .ok (.ifCond .ne 10, 3) := by decide +kernel
theorem d_M_count_90 : decode b_M_count 90 = .ok (.aload_n 0, 1) := by decide +kernel
theorem d_M_count_91 : decode b_M_count 91 = .ok (.getfield 78, 3) := by decide +kernel
theorem d_M_count_94 : decode b_M_count 94 = .ok (.goto 28, 3) := by decide +kernel
theorem d_M_count_97 : decode b_M_count 97 = .ok (.iload_n 1, 1) := by decide +kernel
theorem d_M_count_98 : decode b_M_count 98 = .ok (.iconst 1, 1) := by decide +kernel
theorem d_M_count_99 : decode b_M_count 99 = .ok (.if_icmp .ne 10, 3) := by decide +kernel
theorem d_M_count_102 : decode b_M_count 102 = .ok (.aload_n 0, 1) := by decide +kernel
theorem d_M_count_103 : decode b_M_count 103 = .ok (.getfield 110, 3) := by decide +kernel
theorem d_M_count_106 : decode b_M_count 106 = .ok (.goto 16, 3) := by decide +kernel
theorem d_M_count_109 : decode b_M_count 109 = .ok (.iload_n 1, 1) := by decide +kernel
theorem d_M_count_110 : decode b_M_count 110 = .ok (.iconst 2, 1) := by decide +kernel
theorem d_M_count_111 : decode b_M_count 111 = .ok (.if_icmp .ne 10, 3) := by decide +kernel
theorem d_M_count_114 : decode b_M_count 114 = .ok (.aload_n 0, 1) := by decide +kernel
theorem d_M_count_115 : decode b_M_count 115 = .ok (.getfield 81, 3) := by decide +kernel
theorem d_M_count_118 : decode b_M_count 118 = .ok (.goto 4, 3) := by decide +kernel
theorem d_M_count_121 : decode b_M_count 121 = .ok (.iconst (-1), 1) := by decide +kernel
theorem d_M_count_122 : decode b_M_count 122 = .ok (.ireturn, 1) := by decide +kernel
