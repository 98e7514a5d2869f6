abbrev b_C_init : ByteArray := prog_1_method_1_code
def y_C_init : MethodName := ⟨R_C, "<init>", "()V"⟩
theorem d_C_init_0 : decode b_C_init 0 = .ok (.aload_n 0, 1) := by decide +kernel
theorem d_C_init_1 : decode b_C_init 1 = .ok (.invokespecial 1, 3) := by decide +kernel
theorem d_C_init_4 : decode b_C_init 4 = .ok (.aload_n 0, 1) := by decide +kernel
theorem d_C_init_5 : decode b_C_init 5 = .ok (.new 7, 3) := by decide +kernel
theorem d_C_init_8 : decode b_C_init 8 = .ok (.dup, 1) := by decide +kernel
theorem d_C_init_9 : decode b_C_init 9 = .ok (.invokespecial 9, 3) := by decide +kernel
theorem d_C_init_12 : decode b_C_init 12 = .ok (.putfield 10, 3) := by decide +kernel
theorem d_C_init_15 : decode b_C_init 15 = .ok (.aload_n 0, 1) := by decide +kernel
theorem d_C_init_16 : decode b_C_init 16 = .ok (.new 7, 3) := by decide +kernel
theorem d_C_init_19 : decode b_C_init 19 = .ok (.dup, 1) := by decide +kernel
theorem d_C_init_20 : decode b_C_init 20 = .ok (.invokespecial 9, 3) := by decide +kernel
theorem d_C_init_23 : decode b_C_init 23 = .ok (.putfield 16, 3) := by decide +kernel
theorem d_C_init_26 : decode b_C_init 26 = .ok (.aload_n 0, 1) := by decide +kernel
theorem d_C_init_27 : decode b_C_init 27 = .ok (.bipush 10, 2) := by decide +kernel
theorem d_C_init_29 : decode b_C_init 29 = .ok (.newarray .int, 2) := by decide +kernel
theorem d_C_init_31 : decode b_C_init 31 = .ok (.putfield 19, 3) := by decide +kernel
theorem d_C_init_34 : decode b_C_init 34 = .ok (.aload_n 0, 1) := by decide +kernel
theorem d_C_init_35 : decode b_C_init 35 = .ok (.bipush 10, 2) := by decide +kernel
theorem d_C_init_37 : decode b_C_init 37 = .ok (.newarray .int, 2) := by decide +kernel
theorem d_C_init_39 : decode b_C_init 39 = .ok (.putfield 23, 3) := by decide +kernel
theorem d_C_init_42 : decode b_C_init 42 = .ok (.aload_n 0, 1) := by decide +kernel
theorem d_C_init_43 : decode b_C_init 43 = .ok (.bipush 10, 2) := by decide +kernel
theorem d_C_init_45 : decode b_C_init 45 = .ok (.newarray .int, 2) := by decide +kernel
theorem d_C_init_47 : decode b_C_init 47 = .ok (.putfield 26, 3) := by decide +kernel
theorem d_C_init_50 : decode b_C_init 50 = .ok (.aload_n 0, 1) := by decide +kernel
theorem d_C_init_51 : decode b_C_init 51 = .ok (.bipush 10, 2) := by decide +kernel
theorem d_C_init_53 : decode b_C_init 53 = .ok (.newarray .int, 2) := by decide +kernel
theorem d_C_init_55 : decode b_C_init 55 = .ok (.putfield 29, 3) := by decide +kernel
theorem d_C_init_58 : decode b_C_init 58 = .ok (.aload_n 0, 1) := by decide +kernel
theorem d_C_init_59 : decode b_C_init 59 = .ok (.bipush 10, 2) := by decide +kernel
theorem d_C_init_61 : decode b_C_init 61 = .ok (.iconst 4, 1) := by decide +kernel
theorem d_C_init_62 : decode b_C_init 62 = .ok (.multianewarray 32 2, 4) := by decide +kernel
theorem d_C_init_66 : decode b_C_init 66 = .ok (.putfield 34, 3) := by decide +kernel
theorem d_C_init_69 : decode b_C_init 69 = .ok (.aload_n 0, 1) := by decide +kernel
theorem d_C_init_70 : decode b_C_init 70 = .ok (.iconst 4, 1) := by decide +kernel
theorem d_C_init_71 : decode b_C_init 71 = .ok (.newarray .int, 2) := by decide +kernel
theorem d_C_init_73 : decode b_C_init 73 = .ok (.putfield 37, 3) := by decide +kernel
theorem d_C_init_76 : decode b_C_init 76 = .ok (.aload_n 0, 1) := by decide +kernel
theorem d_C_init_77 : decode b_C_init 77 = .ok (.iconst 4, 1) := by decide +kernel
theorem d_C_init_78 : decode b_C_init 78 = .ok (.newarray .int, 2) := by decide +kernel
theorem d_C_init_80 : decode b_C_init 80 = .ok (.putfield 40, 3) := by decide +kernel
theorem d_C_init_83 : decode b_C_init 83 = .ok (.aload_n 0, 1) := by decide +kernel
theorem d_C_init_84 : decode b_C_init 84 = .ok (.iconst 0, 1) := by decide +kernel
theorem d_C_init_85 : decode b_C_init 85 = .ok (.putfield 43, 3) := by decide +kernel
theorem d_C_init_88 : decode b_C_init 88 = .ok (.iconst 0, 1) := by decide +kernel
theorem d_C_init_89 : decode b_C_init 89 = .ok (.istore_n 1, 1) := by decide +kernel
theorem d_C_init_90 : decode b_C_init 90 = .ok (.iload_n 1, 1) := by decide +kernel
theorem d_C_init_91 : decode b_C_init 91 = .ok (.bipush 10, 2) := by decide +kernel
theorem d_C_init_93 : decode b_C_init 93 = .ok (.if_icmp .ge 19, 3) := by decide +kernel
theorem d_C_init_96 : decode b_C_init 96 = .ok (.aload_n 0, 1) := by decide +kernel
theorem d_C_init_97 : decode b_C_init 97 = .ok (.getfield 34, 3) := by decide +kernel
theorem d_C_init_100 : decode b_C_init 100 = .ok (.iload_n 1, 1) := by decide +kernel
theorem d_C_init_101 : decode b_C_init 101 = .ok (.aaload, 1) := by decide +kernel
theorem d_C_init_102 : decode b_C_init 102 = .ok (.iconst (-1), 1) := by decide +kernel
theorem d_C_init_103 : decode b_C_init 103 = .ok (.invokestatic 47, 3) := by decide +kernel
theorem d_C_init_106 : decode b_C_init 106 = .ok (.iinc 1 1, 3) := by decide +kernel
theorem d_C_init_109 : decode b_C_init 109 = .ok (.goto (-19), 3) := by decide +kernel
theorem d_C_init_112 : decode b_C_init 112 = .ok (.return_, 1) := by decide +kernel
abbrev b_C_right : ByteArray := prog_1_method_2_code
def y_C_right : MethodName := ⟨R_C, "right", "(IIZ)Z"⟩
theorem d_C_right_0 : decode b_C_right 0 = .ok (.iload_n 1, 1) := by decide +kernel
theorem d_C_right_1 : decode b_C_right 1 = .ok (.invokestatic 53, 3) := by decide +kernel
theorem d_C_right_4 : decode b_C_right 4 = .ok (.ifCond .eq 22, 3) := by decide +kernel
theorem d_C_right_7 : decode b_C_right 7 = .ok (.iload_n 2, 1) := by decide +kernel
theorem d_C_right_8 : decode b_C_right 8 = .ok (.iconst 0, 1) := by decide +kernel
theorem d_C_right_9 : decode b_C_right 9 = .ok (.iconst 5, 1) := by decide +kernel
theorem d_C_right_10 : decode b_C_right 10 = .ok (.invokestatic 57, 3) := by decide +kernel
theorem d_C_right_13 : decode b_C_right 13 = .ok (.ifCond .eq 13, 3) := by decide +kernel
theorem d_C_right_16 : decode b_C_right 16 = .ok (.aload_n 0, 1) := by decide +kernel
theorem d_C_right_17 : decode b_C_right 17 = .ok (.iload_n 1, 1) := by decide +kernel
theorem d_C_right_18 : decode b_C_right 18 = .ok (.iload_n 2, 1) := by decide +kernel
theorem d_C_right_19 : decode b_C_right 19 = .ok (.invokevirtual 61, 3) := by decide +kernel
theorem d_C_right_22 : decode b_C_right 22 = .ok (.iload_n 3, 1) := by decide +kernel
theorem d_C_right_23 : decode b_C_right 23 = .ok (.if_icmp .ne 5, 3) := by decide +kernel
theorem d_C_right_26 : decode b_C_right 26 = .ok (.iconst 0, 1) := by decide +kernel
theorem d_C_right_27 : decode b_C_right 27 = .ok (.ireturn, 1) := by decide +kernel
theorem d_C_right_28 : decode b_C_right 28 = .ok (.aload_n 0, 1) := by decide +kernel
theorem d_C_right_29 : decode b_C_right 29 = .ok (.getfield 19, 3) := by decide +kernel
theorem d_C_right_32 : decode b_C_right 32 = .ok (.iload_n 1, 1) := by decide +kernel
theorem d_C_right_33 : decode b_C_right 33 = .ok (.dup2, 1) := by decide +kernel
theorem d_C_right_34 : decode b_C_right 34 = .ok (.iaload, 1) := by decide +kernel
theorem d_C_right_35 : decode b_C_right 35 = .ok (.iconst 1, 1) := by decide +kernel
theorem d_C_right_36 : decode b_C_right 36 = .ok (.iload_n 2, 1) := by decide +kernel
theorem d_C_right_37 : decode b_C_right 37 = .ok (.ishl, 1) := by decide +kernel
theorem d_C_right_38 : decode b_C_right 38 = .ok (.ixor, 1) := by decide +kernel
theorem d_C_right_39 : decode b_C_right 39 = .ok (.iastore, 1) := by decide +kernel
theorem d_C_right_40 : decode b_C_right 40 = .ok (.iconst 1, 1) := by decide +kernel
theorem d_C_right_41 : decode b_C_right 41 = .ok (.ireturn, 1) := by decide +kernel
abbrev b_C_inspection : ByteArray := prog_1_method_3_code
def y_C_inspection : MethodName := ⟨R_C, "inspection", "(III)I"⟩
theorem d_C_inspection_0 : decode b_C_inspection 0 = .ok (.iload_n 1, 1) := by decide +kernel
theorem d_C_inspection_1 : decode b_C_inspection 1 = .ok (.invokestatic 65, 3) := by decide +kernel
theorem d_C_inspection_4 : decode b_C_inspection 4 = .ok (.ifCond .eq 12, 3) := by decide +kernel
theorem d_C_inspection_7 : decode b_C_inspection 7 = .ok (.iload_n 2, 1) := by decide +kernel
theorem d_C_inspection_8 : decode b_C_inspection 8 = .ok (.iconst 0, 1) := by decide +kernel
theorem d_C_inspection_9 : decode b_C_inspection 9 = .ok (.iconst 4, 1) := by decide +kernel
theorem d_C_inspection_10 : decode b_C_inspection 10 = .ok (.invokestatic 57, 3) := by decide +kernel
theorem d_C_inspection_13 : decode b_C_inspection 13 = .ok (.ifCond .ne 13, 3) := by decide +kernel
theorem d_C_inspection_16 : decode b_C_inspection 16 = .ok (.new 68, 3) := by decide +kernel
theorem d_C_inspection_19 : decode b_C_inspection 19 = .ok (.dup, 1) := by decide +kernel
theorem d_C_inspection_20 : decode b_C_inspection 20 = .ok (.ldc 70, 2) := by decide +kernel
theorem d_C_inspection_22 : decode b_C_inspection 22 = .ok (.invokespecial 72, 3) := by decide +kernel
theorem d_C_inspection_25 : decode b_C_inspection 25 = .ok (.athrow, 1) := by decide +kernel
theorem d_C_inspection_26 : decode b_C_inspection 26 = .ok (.aload_n 0, 1) := by decide +kernel
theorem d_C_inspection_27 : decode b_C_inspection 27 = .ok (.iload_n 3, 1) := by decide +kernel
theorem d_C_inspection_28 : decode b_C_inspection 28 = .ok (.invokevirtual 75, 3) := by decide +kernel
theorem d_C_inspection_31 : decode b_C_inspection 31 = .ok (.ifCond .ne 13, 3) := by decide +kernel
theorem d_C_inspection_34 : decode b_C_inspection 34 = .ok (.new 68, 3) := by decide +kernel
theorem d_C_inspection_37 : decode b_C_inspection 37 = .ok (.dup, 1) := by decide +kernel
theorem d_C_inspection_38 : decode b_C_inspection 38 = .ok (.ldc 78, 2) := by decide +kernel
theorem d_C_inspection_40 : decode b_C_inspection 40 = .ok (.invokespecial 72, 3) := by decide +kernel
theorem d_C_inspection_43 : decode b_C_inspection 43 = .ok (.athrow, 1) := by decide +kernel
theorem d_C_inspection_44 : decode b_C_inspection 44 = .ok (.aload_n 0, 1) := by decide +kernel
theorem d_C_inspection_45 : decode b_C_inspection 45 = .ok (.getfield 10, 3) := by decide +kernel
theorem d_C_inspection_48 : decode b_C_inspection 48 = .ok (.invokevirtual 80, 3) := by decide +kernel
theorem d_C_inspection_51 : decode b_C_inspection 51 = .ok (.bipush 30, 2) := by decide +kernel
theorem d_C_inspection_53 : decode b_C_inspection 53 = .ok (.if_icmp .lt 13, 3) := by decide +kernel
theorem d_C_inspection_56 : decode b_C_inspection 56 = .ok (.new 84, 3) := by decide +kernel
theorem d_C_inspection_59 : decode b_C_inspection 59 = .ok (.dup, 1) := by decide +kernel
theorem d_C_inspection_60 : decode b_C_inspection 60 = .ok (.ldc 86, 2) := by decide +kernel
theorem d_C_inspection_62 : decode b_C_inspection 62 = .ok (.invokespecial 88, 3) := by decide +kernel
theorem d_C_inspection_65 : decode b_C_inspection 65 = .ok (.athrow, 1) := by decide +kernel
theorem d_C_inspection_66 : decode b_C_inspection 66 = .ok (.aload_n 0, 1) := by decide +kernel
theorem d_C_inspection_67 : decode b_C_inspection 67 = .ok (.getfield 10, 3) := by decide +kernel
theorem d_C_inspection_70 : decode b_C_inspection 70 = .ok (.new 89, 3) := by decide +kernel
theorem d_C_inspection_73 : decode b_C_inspection 73 = .ok (.dup, 1) := by decide +kernel
theorem d_C_inspection_74 : decode b_C_inspection 74 = .ok (.iload_n 1, 1) := by decide +kernel
theorem d_C_inspection_75 : decode b_C_inspection 75 = .ok (.iload_n 2, 1) := by decide +kernel
theorem d_C_inspection_76 : decode b_C_inspection 76 = .ok (.iload_n 3, 1) := by decide +kernel
theorem d_C_inspection_77 : decode b_C_inspection 77 = .ok (.invokespecial 91, 3) := by decide +kernel
theorem d_C_inspection_80 : decode b_C_inspection 80 = .ok (.invokevirtual 94, 3) := by decide +kernel
theorem d_C_inspection_83 : decode b_C_inspection 83 = .ok (.pop, 1) := by decide +kernel
theorem d_C_inspection_84 : decode b_C_inspection 84 = .ok (.aload_n 0, 1) := by decide +kernel
theorem d_C_inspection_85 : decode b_C_inspection 85 = .ok (.getfield 10, 3) := by decide +kernel
theorem d_C_inspection_88 : decode b_C_inspection 88 = .ok (.invokevirtual 80, 3) := by decide +kernel
theorem d_C_inspection_91 : decode b_C_inspection 91 = .ok (.iconst 1, 1) := by decide +kernel
theorem d_C_inspection_92 : decode b_C_inspection 92 = .ok (.isub, 1) := by decide +kernel
theorem d_C_inspection_93 : decode b_C_inspection 93 = .ok (.ireturn, 1) := by decide +kernel
abbrev b_C_plan : ByteArray := prog_1_method_4_code
def y_C_plan : MethodName := ⟨R_C, "plan", "(IIII)I"⟩
theorem d_C_plan_0 : decode b_C_plan 0 = .ok (.aload_n 0, 1) := by decide +kernel
theorem d_C_plan_1 : decode b_C_plan 1 = .ok (.iload_n 1, 1) := by decide +kernel
theorem d_C_plan_2 : decode b_C_plan 2 = .ok (.invokevirtual 98, 3) := by decide +kernel
theorem d_C_plan_5 : decode b_C_plan 5 = .ok (.ifCond .eq 12, 3) := by decide +kernel
theorem d_C_plan_8 : decode b_C_plan 8 = .ok (.iload_n 2, 1) := by decide +kernel
theorem d_C_plan_9 : decode b_C_plan 9 = .ok (.iconst 0, 1) := by decide +kernel
theorem d_C_plan_10 : decode b_C_plan 10 = .ok (.iconst 3, 1) := by decide +kernel
theorem d_C_plan_11 : decode b_C_plan 11 = .ok (.invokestatic 57, 3) := by decide +kernel
theorem d_C_plan_14 : decode b_C_plan 14 = .ok (.ifCond .ne 13, 3) := by decide +kernel
theorem d_C_plan_17 : decode b_C_plan 17 = .ok (.new 68, 3) := by decide +kernel
theorem d_C_plan_20 : decode b_C_plan 20 = .ok (.dup, 1) := by decide +kernel
theorem d_C_plan_21 : decode b_C_plan 21 = .ok (.ldc 101, 2) := by decide +kernel
theorem d_C_plan_23 : decode b_C_plan 23 = .ok (.invokespecial 72, 3) := by decide +kernel
theorem d_C_plan_26 : decode b_C_plan 26 = .ok (.athrow, 1) := by decide +kernel
theorem d_C_plan_27 : decode b_C_plan 27 = .ok (.aload_n 0, 1) := by decide +kernel
theorem d_C_plan_28 : decode b_C_plan 28 = .ok (.iload_n 3, 1) := by decide +kernel
theorem d_C_plan_29 : decode b_C_plan 29 = .ok (.invokevirtual 75, 3) := by decide +kernel
theorem d_C_plan_32 : decode b_C_plan 32 = .ok (.ifCond .eq 18, 3) := by decide +kernel
theorem d_C_plan_35 : decode b_C_plan 35 = .ok (.aload_n 0, 1) := by decide +kernel
theorem d_C_plan_36 : decode b_C_plan 36 = .ok (.iload 4, 2) := by decide +kernel
theorem d_C_plan_38 : decode b_C_plan 38 = .ok (.invokevirtual 75, 3) := by decide +kernel
theorem d_C_plan_41 : decode b_C_plan 41 = .ok (.ifCond .eq 9, 3) := by decide +kernel
theorem d_C_plan_44 : decode b_C_plan 44 = .ok (.iload_n 3, 1) := by decide +kernel
theorem d_C_plan_45 : decode b_C_plan 45 = .ok (.iload 4, 2) := by decide +kernel
theorem d_C_plan_47 : decode b_C_plan 47 = .ok (.if_icmp .lt 13, 3) := by decide +kernel
theorem d_C_plan_50 : decode b_C_plan 50 = .ok (.new 68, 3) := by decide +kernel
theorem d_C_plan_53 : decode b_C_plan 53 = .ok (.dup, 1) := by decide +kernel
theorem d_C_plan_54 : decode b_C_plan 54 = .ok (.ldc 103, 2) := by decide +kernel
theorem d_C_plan_56 : decode b_C_plan 56 = .ok (.invokespecial 72, 3) := by decide +kernel
theorem d_C_plan_59 : decode b_C_plan 59 = .ok (.athrow, 1) := by decide +kernel
theorem d_C_plan_60 : decode b_C_plan 60 = .ok (.aload_n 0, 1) := by decide +kernel
theorem d_C_plan_61 : decode b_C_plan 61 = .ok (.getfield 10, 3) := by decide +kernel
theorem d_C_plan_64 : decode b_C_plan 64 = .ok (.iload_n 1, 1) := by decide +kernel
theorem d_C_plan_65 : decode b_C_plan 65 = .ok (.invokevirtual 105, 3) := by decide +kernel
theorem d_C_plan_68 : decode b_C_plan 68 = .ok (.checkcast 89, 3) := by decide +kernel
theorem d_C_plan_71 : decode b_C_plan 71 = .ok (.astore 5, 2) := by decide +kernel
theorem d_C_plan_73 : decode b_C_plan 73 = .ok (.aload 5, 2) := by decide +kernel
theorem d_C_plan_75 : decode b_C_plan 75 = .ok (.invokevirtual 109, 3) := by decide +kernel
theorem d_C_plan_78 : decode b_C_plan 78 = .ok (.ifCond .eq 14, 3) := by decide +kernel
theorem d_C_plan_81 : decode b_C_plan 81 = .ok (.aload_n 0, 1) := by decide +kernel
theorem d_C_plan_82 : decode b_C_plan 82 = .ok (.iload_n 2, 1) := by decide +kernel
theorem d_C_plan_83 : decode b_C_plan 83 = .ok (.iload_n 3, 1) := by decide +kernel
theorem d_C_plan_84 : decode b_C_plan 84 = .ok (.iload 4, 2) := by decide +kernel
theorem d_C_plan_86 : decode b_C_plan 86 = .ok (.invokevirtual 113, 3) := by decide +kernel
theorem d_C_plan_89 : decode b_C_plan 89 = .ok (.ifCond .eq 5, 3) := by decide +kernel
theorem d_C_plan_92 : decode b_C_plan 92 = .ok (.iconst 0, 1) := by decide +kernel
theorem d_C_plan_93 : decode b_C_plan 93 = .ok (.ireturn, 1) := by decide +kernel
theorem d_C_plan_94 : decode b_C_plan 94 = .ok (.aload 5, 2) := by decide +kernel
theorem d_C_plan_96 : decode b_C_plan 96 = .ok (.iload_n 2, 1) := by decide +kernel
theorem d_C_plan_97 : decode b_C_plan 97 = .ok (.iload_n 3, 1) := by decide +kernel
theorem d_C_plan_98 : decode b_C_plan 98 = .ok (.iload 4, 2) := by decide +kernel
theorem d_C_plan_100 : decode b_C_plan 100 = .ok (.invokevirtual 116, 3) := by decide +kernel
theorem d_C_plan_103 : decode b_C_plan 103 = .ok (.iconst 1, 1) := by decide +kernel
theorem d_C_plan_104 : decode b_C_plan 104 = .ok (.ireturn, 1) := by decide +kernel
abbrev b_C_begin : ByteArray := prog_1_method_5_code
def y_C_begin : MethodName := ⟨R_C, "begin", "(II)I"⟩
theorem d_C_begin_0 : decode b_C_begin 0 = .ok (.aload_n 0, 1) := by decide +kernel
theorem d_C_begin_1 : decode b_C_begin 1 = .ok (.iload_n 1, 1) := by decide +kernel
theorem d_C_begin_2 : decode b_C_begin 2 = .ok (.invokevirtual 98, 3) := by decide +kernel
theorem d_C_begin_5 : decode b_C_begin 5 = .ok (.ifCond .eq 10, 3) := by decide +kernel
theorem d_C_begin_8 : decode b_C_begin 8 = .ok (.iload_n 2, 1) := by decide +kernel
theorem d_C_begin_9 : decode b_C_begin 9 = .ok (.invokestatic 53, 3) := by decide +kernel
theorem d_C_begin_12 : decode b_C_begin 12 = .ok (.ifCond .ne 13, 3) := by decide +kernel
theorem d_C_begin_15 : decode b_C_begin 15 = .ok (.new 68, 3) := by decide +kernel
theorem d_C_begin_18 : decode b_C_begin 18 = .ok (.dup, 1) := by decide +kernel
theorem d_C_begin_19 : decode b_C_begin 19 = .ok (.ldc 119, 2) := by decide +kernel
theorem d_C_begin_21 : decode b_C_begin 21 = .ok (.invokespecial 72, 3) := by decide +kernel
theorem d_C_begin_24 : decode b_C_begin 24 = .ok (.athrow, 1) := by decide +kernel
theorem d_C_begin_25 : decode b_C_begin 25 = .ok (.aload_n 0, 1) := by decide +kernel
theorem d_C_begin_26 : decode b_C_begin 26 = .ok (.getfield 10, 3) := by decide +kernel
theorem d_C_begin_29 : decode b_C_begin 29 = .ok (.iload_n 1, 1) := by decide +kernel
theorem d_C_begin_30 : decode b_C_begin 30 = .ok (.invokevirtual 105, 3) := by decide +kernel
theorem d_C_begin_33 : decode b_C_begin 33 = .ok (.checkcast 89, 3) := by decide +kernel
theorem d_C_begin_36 : decode b_C_begin 36 = .ok (.astore_n 3, 1) := by decide +kernel
theorem d_C_begin_37 : decode b_C_begin 37 = .ok (.aload_n 3, 1) := by decide +kernel
theorem d_C_begin_38 : decode b_C_begin 38 = .ok (.aload_n 0, 1) := by decide +kernel
theorem d_C_begin_39 : decode b_C_begin 39 = .ok (.getfield 43, 3) := by decide +kernel
theorem d_C_begin_42 : decode b_C_begin 42 = .ok (.invokevirtual 121, 3) := by decide +kernel
theorem d_C_begin_45 : decode b_C_begin 45 = .ok (.ifCond .eq 15, 3) := by decide +kernel
theorem d_C_begin_48 : decode b_C_begin 48 = .ok (.aload_n 0, 1) := by decide +kernel
theorem d_C_begin_49 : decode b_C_begin 49 = .ok (.iload_n 2, 1) := by decide +kernel
theorem d_C_begin_50 : decode b_C_begin 50 = .ok (.aload_n 3, 1) := by decide +kernel
theorem d_C_begin_51 : decode b_C_begin 51 = .ok (.getfield 124, 3) := by decide +kernel
theorem d_C_begin_54 : decode b_C_begin 54 = .ok (.invokevirtual 61, 3) := by decide +kernel
theorem d_C_begin_57 : decode b_C_begin 57 = .ok (.ifCond .ne 5, 3) := by decide +kernel
theorem d_C_begin_60 : decode b_C_begin 60 = .ok (.iconst 0, 1) := by decide +kernel
theorem d_C_begin_61 : decode b_C_begin 61 = .ok (.ireturn, 1) := by decide +kernel
theorem d_C_begin_62 : decode b_C_begin 62 = .ok (.aload_n 3, 1) := by decide +kernel
theorem d_C_begin_63 : decode b_C_begin 63 = .ok (.iconst 2, 1) := by decide +kernel
theorem d_C_begin_64 : decode b_C_begin 64 = .ok (.putfield 127, 3) := by decide +kernel
theorem d_C_begin_67 : decode b_C_begin 67 = .ok (.aload_n 3, 1) := by decide +kernel
theorem d_C_begin_68 : decode b_C_begin 68 = .ok (.iload_n 2, 1) := by decide +kernel
theorem d_C_begin_69 : decode b_C_begin 69 = .ok (.putfield 130, 3) := by decide +kernel
theorem d_C_begin_72 : decode b_C_begin 72 = .ok (.aload_n 0, 1) := by decide +kernel
theorem d_C_begin_73 : decode b_C_begin 73 = .ok (.getfield 29, 3) := by decide +kernel
theorem d_C_begin_76 : decode b_C_begin 76 = .ok (.aload_n 3, 1) := by decide +kernel
theorem d_C_begin_77 : decode b_C_begin 77 = .ok (.getfield 133, 3) := by decide +kernel
theorem d_C_begin_80 : decode b_C_begin 80 = .ok (.dup2, 1) := by decide +kernel
theorem d_C_begin_81 : decode b_C_begin 81 = .ok (.iaload, 1) := by decide +kernel
theorem d_C_begin_82 : decode b_C_begin 82 = .ok (.bipush 100, 2) := by decide +kernel
theorem d_C_begin_84 : decode b_C_begin 84 = .ok (.aload_n 3, 1) := by decide +kernel
theorem d_C_begin_85 : decode b_C_begin 85 = .ok (.getfield 124, 3) := by decide +kernel
theorem d_C_begin_88 : decode b_C_begin 88 = .ok (.iconst 1, 1) := by decide +kernel
theorem d_C_begin_89 : decode b_C_begin 89 = .ok (.iadd, 1) := by decide +kernel
theorem d_C_begin_90 : decode b_C_begin 90 = .ok (.imul, 1) := by decide +kernel
theorem d_C_begin_91 : decode b_C_begin 91 = .ok (.iadd, 1) := by decide +kernel
theorem d_C_begin_92 : decode b_C_begin 92 = .ok (.iastore, 1) := by decide +kernel
theorem d_C_begin_93 : decode b_C_begin 93 = .ok (.aload_n 3, 1) := by decide +kernel
theorem d_C_begin_94 : decode b_C_begin 94 = .ok (.invokevirtual 136, 3) := by decide +kernel
theorem d_C_begin_97 : decode b_C_begin 97 = .ok (.ifCond .eq 13, 3) := by decide +kernel
theorem d_C_begin_100 : decode b_C_begin 100 = .ok (.aload_n 0, 1) := by decide +kernel
theorem d_C_begin_101 : decode b_C_begin 101 = .ok (.getfield 23, 3) := by decide +kernel
theorem d_C_begin_104 : decode b_C_begin 104 = .ok (.aload_n 3, 1) := by decide +kernel
theorem d_C_begin_105 : decode b_C_begin 105 = .ok (.getfield 133, 3) := by decide +kernel
theorem d_C_begin_108 : decode b_C_begin 108 = .ok (.iconst (-1), 1) := by decide +kernel
theorem d_C_begin_109 : decode b_C_begin 109 = .ok (.iastore, 1) := by decide +kernel
theorem d_C_begin_110 : decode b_C_begin 110 = .ok (.iconst 1, 1) := by decide +kernel
theorem d_C_begin_111 : decode b_C_begin 111 = .ok (.ireturn, 1) := by decide +kernel
abbrev b_C_end : ByteArray := prog_1_method_6_code
def y_C_end : MethodName := ⟨R_C, "end", "(IIZ)I"⟩
theorem d_C_end_0 : decode b_C_end 0 = .ok (.aload_n 0, 1) := by decide +kernel
theorem d_C_end_1 : decode b_C_end 1 = .ok (.iload_n 1, 1) := by decide +kernel
theorem d_C_end_2 : decode b_C_end 2 = .ok (.invokevirtual 98, 3) := by decide +kernel
theorem d_C_end_5 : decode b_C_end 5 = .ok (.ifCond .eq 10, 3) := by decide +kernel
theorem d_C_end_8 : decode b_C_end 8 = .ok (.iload_n 2, 1) := by decide +kernel
theorem d_C_end_9 : decode b_C_end 9 = .ok (.invokestatic 53, 3) := by decide +kernel
theorem d_C_end_12 : decode b_C_end 12 = .ok (.ifCond .ne 13, 3) := by decide +kernel
theorem d_C_end_15 : decode b_C_end 15 = .ok (.new 68, 3) := by decide +kernel
theorem d_C_end_18 : decode b_C_end 18 = .ok (.dup, 1) := by decide +kernel
theorem d_C_end_19 : decode b_C_end 19 = .ok (.ldc 119, 2) := by decide +kernel
theorem d_C_end_21 : decode b_C_end 21 = .ok (.invokespecial 72, 3) := by decide +kernel
theorem d_C_end_24 : decode b_C_end 24 = .ok (.athrow, 1) := by decide +kernel
theorem d_C_end_25 : decode b_C_end 25 = .ok (.aload_n 0, 1) := by decide +kernel
theorem d_C_end_26 : decode b_C_end 26 = .ok (.getfield 10, 3) := by decide +kernel
theorem d_C_end_29 : decode b_C_end 29 = .ok (.iload_n 1, 1) := by decide +kernel
theorem d_C_end_30 : decode b_C_end 30 = .ok (.invokevirtual 105, 3) := by decide +kernel
theorem d_C_end_33 : decode b_C_end 33 = .ok (.checkcast 89, 3) := by decide +kernel
theorem d_C_end_36 : decode b_C_end 36 = .ok (.astore 4, 2) := by decide +kernel
theorem d_C_end_38 : decode b_C_end 38 = .ok (.aload 4, 2) := by decide +kernel
theorem d_C_end_40 : decode b_C_end 40 = .ok (.getfield 127, 3) := by decide +kernel
theorem d_C_end_43 : decode b_C_end 43 = .ok (.iconst 2, 1) := by decide +kernel
theorem d_C_end_44 : decode b_C_end 44 = .ok (.if_icmp .ne 12, 3) := by decide +kernel
theorem d_C_end_47 : decode b_C_end 47 = .ok (.aload 4, 2) := by decide +kernel
theorem d_C_end_49 : decode b_C_end 49 = .ok (.getfield 130, 3) := by decide +kernel
theorem d_C_end_52 : decode b_C_end 52 = .ok (.iload_n 2, 1) := by decide +kernel
theorem d_C_end_53 : decode b_C_end 53 = .ok (.if_icmp .eq 5, 3) := by decide +kernel
theorem d_C_end_56 : decode b_C_end 56 = .ok (.iconst 0, 1) := by decide +kernel
theorem d_C_end_57 : decode b_C_end 57 = .ok (.ireturn, 1) := by decide +kernel
theorem d_C_end_58 : decode b_C_end 58 = .ok (.aload 4, 2) := by decide +kernel
theorem d_C_end_60 : decode b_C_end 60 = .ok (.iload_n 3, 1) := by decide +kernel
theorem d_C_end_61 : decode b_C_end 61 = .ok (.ifCond .eq 7, 3) := by decide +kernel
theorem d_C_end_64 : decode b_C_end 64 = .ok (.iconst 3, 1) := by decide +kernel
theorem d_C_end_65 : decode b_C_end 65 = .ok (.goto 4, 3) := by decide +kernel
theorem d_C_end_68 : decode b_C_end 68 = .ok (.iconst 4, 1) := by decide +kernel
theorem d_C_end_69 : decode b_C_end 69 = .ok (.putfield 127, 3) := by decide +kernel
theorem d_C_end_72 : decode b_C_end 72 = .ok (.iconst 1, 1) := by decide +kernel
theorem d_C_end_73 : decode b_C_end 73 = .ok (.ireturn, 1) := by decide +kernel
abbrev b_C_giveUp : ByteArray := prog_1_method_7_code
def y_C_giveUp : MethodName := ⟨R_C, "giveUp", "(I)Z"⟩
theorem d_C_giveUp_0 : decode b_C_giveUp 0 = .ok (.aload_n 0, 1) := by decide +kernel
theorem d_C_giveUp_1 : decode b_C_giveUp 1 = .ok (.iload_n 1, 1) := by decide +kernel
theorem d_C_giveUp_2 : decode b_C_giveUp 2 = .ok (.invokevirtual 98, 3) := by decide +kernel
theorem d_C_giveUp_5 : decode b_C_giveUp 5 = .ok (.ifCond .ne 5, 3) := by decide +kernel
theorem d_C_giveUp_8 : decode b_C_giveUp 8 = .ok (.iconst 0, 1) := by decide +kernel
theorem d_C_giveUp_9 : decode b_C_giveUp 9 = .ok (.ireturn, 1) := by decide +kernel
theorem d_C_giveUp_10 : decode b_C_giveUp 10 = .ok (.aload_n 0, 1) := by decide +kernel
theorem d_C_giveUp_11 : decode b_C_giveUp 11 = .ok (.getfield 10, 3) := by decide +kernel
theorem d_C_giveUp_14 : decode b_C_giveUp 14 = .ok (.iload_n 1, 1) := by decide +kernel
theorem d_C_giveUp_15 : decode b_C_giveUp 15 = .ok (.invokevirtual 105, 3) := by decide +kernel
theorem d_C_giveUp_18 : decode b_C_giveUp 18 = .ok (.checkcast 89, 3) := by decide +kernel
theorem d_C_giveUp_21 : decode b_C_giveUp 21 = .ok (.astore_n 2, 1) := by decide +kernel
theorem d_C_giveUp_22 : decode b_C_giveUp 22 = .ok (.aload_n 2, 1) := by decide +kernel
theorem d_C_giveUp_23 : decode b_C_giveUp 23 = .ok (.invokevirtual 139, 3) := by decide +kernel
theorem d_C_giveUp_26 : decode b_C_giveUp 26 = .ok (.ifCond .ne 5, 3) := by decide +kernel
theorem d_C_giveUp_29 : decode b_C_giveUp 29 = .ok (.iconst 0, 1) := by decide +kernel
theorem d_C_giveUp_30 : decode b_C_giveUp 30 = .ok (.ireturn, 1) := by decide +kernel
theorem d_C_giveUp_31 : decode b_C_giveUp 31 = .ok (.aload_n 2, 1) := by decide +kernel
theorem d_C_giveUp_32 : decode b_C_giveUp 32 = .ok (.iconst 5, 1) := by decide +kernel
theorem d_C_giveUp_33 : decode b_C_giveUp 33 = .ok (.putfield 127, 3) := by decide +kernel
theorem d_C_giveUp_36 : decode b_C_giveUp 36 = .ok (.iconst 1, 1) := by decide +kernel
theorem d_C_giveUp_37 : decode b_C_giveUp 37 = .ok (.ireturn, 1) := by decide +kernel
abbrev b_C_seal : ByteArray := prog_1_method_8_code
def y_C_seal : MethodName := ⟨R_C, "seal", "(IIII)I"⟩
theorem d_C_seal_0 : decode b_C_seal 0 = .ok (.iload_n 1, 1) := by decide +kernel
theorem d_C_seal_1 : decode b_C_seal 1 = .ok (.invokestatic 65, 3) := by decide +kernel
theorem d_C_seal_4 : decode b_C_seal 4 = .ok (.ifCond .eq 18, 3) := by decide +kernel
theorem d_C_seal_7 : decode b_C_seal 7 = .ok (.iload_n 3, 1) := by decide +kernel
theorem d_C_seal_8 : decode b_C_seal 8 = .ok (.invokestatic 53, 3) := by decide +kernel
theorem d_C_seal_11 : decode b_C_seal 11 = .ok (.ifCond .eq 11, 3) := by decide +kernel
theorem d_C_seal_14 : decode b_C_seal 14 = .ok (.iload 4, 2) := by decide +kernel
theorem d_C_seal_16 : decode b_C_seal 16 = .ok (.invokestatic 53, 3) := by decide +kernel
theorem d_C_seal_19 : decode b_C_seal 19 = .ok (.ifCond .ne 13, 3) := by decide +kernel
theorem d_C_seal_22 : decode b_C_seal 22 = .ok (.new 68, 3) := by decide +kernel
theorem d_C_seal_25 : decode b_C_seal 25 = .ok (.dup, 1) := by decide +kernel
theorem d_C_seal_26 : decode b_C_seal 26 = .ok (.ldc 142, 2) := by decide +kernel
theorem d_C_seal_28 : decode b_C_seal 28 = .ok (.invokespecial 72, 3) := by decide +kernel
theorem d_C_seal_31 : decode b_C_seal 31 = .ok (.athrow, 1) := by decide +kernel
theorem d_C_seal_32 : decode b_C_seal 32 = .ok (.iload_n 2, 1) := by decide +kernel
theorem d_C_seal_33 : decode b_C_seal 33 = .ok (.invokestatic 144, 3) := by decide +kernel
theorem d_C_seal_36 : decode b_C_seal 36 = .ok (.ifCond .eq 9, 3) := by decide +kernel
theorem d_C_seal_39 : decode b_C_seal 39 = .ok (.iload_n 3, 1) := by decide +kernel
theorem d_C_seal_40 : decode b_C_seal 40 = .ok (.iload 4, 2) := by decide +kernel
theorem d_C_seal_42 : decode b_C_seal 42 = .ok (.if_icmp .ne 13, 3) := by decide +kernel
theorem d_C_seal_45 : decode b_C_seal 45 = .ok (.new 68, 3) := by decide +kernel
theorem d_C_seal_48 : decode b_C_seal 48 = .ok (.dup, 1) := by decide +kernel
theorem d_C_seal_49 : decode b_C_seal 49 = .ok (.ldc 147, 2) := by decide +kernel
theorem d_C_seal_51 : decode b_C_seal 51 = .ok (.invokespecial 72, 3) := by decide +kernel
theorem d_C_seal_54 : decode b_C_seal 54 = .ok (.athrow, 1) := by decide +kernel
theorem d_C_seal_55 : decode b_C_seal 55 = .ok (.aload_n 0, 1) := by decide +kernel
theorem d_C_seal_56 : decode b_C_seal 56 = .ok (.getfield 23, 3) := by decide +kernel
theorem d_C_seal_59 : decode b_C_seal 59 = .ok (.iload_n 1, 1) := by decide +kernel
theorem d_C_seal_60 : decode b_C_seal 60 = .ok (.iaload, 1) := by decide +kernel
theorem d_C_seal_61 : decode b_C_seal 61 = .ok (.iconst (-1), 1) := by decide +kernel
theorem d_C_seal_62 : decode b_C_seal 62 = .ok (.if_icmp .ne 30, 3) := by decide +kernel
theorem d_C_seal_65 : decode b_C_seal 65 = .ok (.aload_n 0, 1) := by decide +kernel
theorem d_C_seal_66 : decode b_C_seal 66 = .ok (.iload_n 1, 1) := by decide +kernel
theorem d_C_seal_67 : decode b_C_seal 67 = .ok (.invokevirtual 149, 3) := by decide +kernel
theorem d_C_seal_70 : decode b_C_seal 70 = .ok (.ifCond .ne 22, 3) := by decide +kernel
theorem d_C_seal_73 : decode b_C_seal 73 = .ok (.aload_n 0, 1) := by decide +kernel
theorem d_C_seal_74 : decode b_C_seal 74 = .ok (.iload_n 3, 1) := by decide +kernel
theorem d_C_seal_75 : decode b_C_seal 75 = .ok (.iconst 5, 1) := by decide +kernel
theorem d_C_seal_76 : decode b_C_seal 76 = .ok (.invokevirtual 61, 3) := by decide +kernel
theorem d_C_seal_79 : decode b_C_seal 79 = .ok (.ifCond .eq 13, 3) := by decide +kernel
theorem d_C_seal_82 : decode b_C_seal 82 = .ok (.aload_n 0, 1) := by decide +kernel
theorem d_C_seal_83 : decode b_C_seal 83 = .ok (.iload 4, 2) := by decide +kernel
theorem d_C_seal_85 : decode b_C_seal 85 = .ok (.iconst 5, 1) := by decide +kernel
theorem d_C_seal_86 : decode b_C_seal 86 = .ok (.invokevirtual 61, 3) := by decide +kernel
theorem d_C_seal_89 : decode b_C_seal 89 = .ok (.ifCond .ne 5, 3) := by decide +kernel
theorem d_C_seal_92 : decode b_C_seal 92 = .ok (.iconst 0, 1) := by decide +kernel
theorem d_C_seal_93 : decode b_C_seal 93 = .ok (.ireturn, 1) := by decide +kernel
theorem d_C_seal_94 : decode b_C_seal 94 = .ok (.aload_n 0, 1) := by decide +kernel
theorem d_C_seal_95 : decode b_C_seal 95 = .ok (.getfield 23, 3) := by decide +kernel
theorem d_C_seal_98 : decode b_C_seal 98 = .ok (.iload_n 1, 1) := by decide +kernel
theorem d_C_seal_99 : decode b_C_seal 99 = .ok (.iload_n 2, 1) := by decide +kernel
theorem d_C_seal_100 : decode b_C_seal 100 = .ok (.iastore, 1) := by decide +kernel
theorem d_C_seal_101 : decode b_C_seal 101 = .ok (.iconst 1, 1) := by decide +kernel
theorem d_C_seal_102 : decode b_C_seal 102 = .ok (.ireturn, 1) := by decide +kernel
abbrev b_C_sample : ByteArray := prog_1_method_9_code
def y_C_sample : MethodName := ⟨R_C, "sample", "(II)I"⟩
theorem d_C_sample_0 : decode b_C_sample 0 = .ok (.aload_n 0, 1) := by decide +kernel
theorem d_C_sample_1 : decode b_C_sample 1 = .ok (.iload_n 1, 1) := by decide +kernel
theorem d_C_sample_2 : decode b_C_sample 2 = .ok (.invokevirtual 98, 3) := by decide +kernel
theorem d_C_sample_5 : decode b_C_sample 5 = .ok (.ifCond .eq 10, 3) := by decide +kernel
theorem d_C_sample_8 : decode b_C_sample 8 = .ok (.iload_n 2, 1) := by decide +kernel
theorem d_C_sample_9 : decode b_C_sample 9 = .ok (.invokestatic 144, 3) := by decide +kernel
theorem d_C_sample_12 : decode b_C_sample 12 = .ok (.ifCond .ne 13, 3) := by decide +kernel
theorem d_C_sample_15 : decode b_C_sample 15 = .ok (.new 68, 3) := by decide +kernel
theorem d_C_sample_18 : decode b_C_sample 18 = .ok (.dup, 1) := by decide +kernel
theorem d_C_sample_19 : decode b_C_sample 19 = .ok (.ldc 152, 2) := by decide +kernel
theorem d_C_sample_21 : decode b_C_sample 21 = .ok (.invokespecial 72, 3) := by decide +kernel
theorem d_C_sample_24 : decode b_C_sample 24 = .ok (.athrow, 1) := by decide +kernel
theorem d_C_sample_25 : decode b_C_sample 25 = .ok (.aload_n 0, 1) := by decide +kernel
theorem d_C_sample_26 : decode b_C_sample 26 = .ok (.getfield 16, 3) := by decide +kernel
theorem d_C_sample_29 : decode b_C_sample 29 = .ok (.invokevirtual 80, 3) := by decide +kernel
theorem d_C_sample_32 : decode b_C_sample 32 = .ok (.bipush 40, 2) := by decide +kernel
theorem d_C_sample_34 : decode b_C_sample 34 = .ok (.if_icmp .lt 13, 3) := by decide +kernel
theorem d_C_sample_37 : decode b_C_sample 37 = .ok (.new 84, 3) := by decide +kernel
theorem d_C_sample_40 : decode b_C_sample 40 = .ok (.dup, 1) := by decide +kernel
theorem d_C_sample_41 : decode b_C_sample 41 = .ok (.ldc 154, 2) := by decide +kernel
theorem d_C_sample_43 : decode b_C_sample 43 = .ok (.invokespecial 88, 3) := by decide +kernel
theorem d_C_sample_46 : decode b_C_sample 46 = .ok (.athrow, 1) := by decide +kernel
theorem d_C_sample_47 : decode b_C_sample 47 = .ok (.aload_n 0, 1) := by decide +kernel
theorem d_C_sample_48 : decode b_C_sample 48 = .ok (.getfield 10, 3) := by decide +kernel
theorem d_C_sample_51 : decode b_C_sample 51 = .ok (.iload_n 1, 1) := by decide +kernel
theorem d_C_sample_52 : decode b_C_sample 52 = .ok (.invokevirtual 105, 3) := by decide +kernel
theorem d_C_sample_55 : decode b_C_sample 55 = .ok (.checkcast 89, 3) := by decide +kernel
theorem d_C_sample_58 : decode b_C_sample 58 = .ok (.astore_n 3, 1) := by decide +kernel
theorem d_C_sample_59 : decode b_C_sample 59 = .ok (.aload_n 3, 1) := by decide +kernel
theorem d_C_sample_60 : decode b_C_sample 60 = .ok (.invokevirtual 136, 3) := by decide +kernel
theorem d_C_sample_63 : decode b_C_sample 63 = .ok (.ifCond .eq 19, 3) := by decide +kernel
theorem d_C_sample_66 : decode b_C_sample 66 = .ok (.aload_n 3, 1) := by decide +kernel
theorem d_C_sample_67 : decode b_C_sample 67 = .ok (.getfield 127, 3) := by decide +kernel
theorem d_C_sample_70 : decode b_C_sample 70 = .ok (.iconst 2, 1) := by decide +kernel
theorem d_C_sample_71 : decode b_C_sample 71 = .ok (.if_icmp .ne 11, 3) := by decide +kernel
theorem d_C_sample_74 : decode b_C_sample 74 = .ok (.aload_n 0, 1) := by decide +kernel
theorem d_C_sample_75 : decode b_C_sample 75 = .ok (.iload_n 2, 1) := by decide +kernel
theorem d_C_sample_76 : decode b_C_sample 76 = .ok (.invokevirtual 156, 3) := by decide +kernel
theorem d_C_sample_79 : decode b_C_sample 79 = .ok (.ifCond .eq 5, 3) := by decide +kernel
theorem d_C_sample_82 : decode b_C_sample 82 = .ok (.iconst (-1), 1) := by decide +kernel
theorem d_C_sample_83 : decode b_C_sample 83 = .ok (.ireturn, 1) := by decide +kernel
theorem d_C_sample_84 : decode b_C_sample 84 = .ok (.aload_n 0, 1) := by decide +kernel
theorem d_C_sample_85 : decode b_C_sample 85 = .ok (.getfield 16, 3) := by decide +kernel
theorem d_C_sample_88 : decode b_C_sample 88 = .ok (.new 159, 3) := by decide +kernel
theorem d_C_sample_91 : decode b_C_sample 91 = .ok (.dup, 1) := by decide +kernel
theorem d_C_sample_92 : decode b_C_sample 92 = .ok (.aload_n 3, 1) := by decide +kernel
theorem d_C_sample_93 : decode b_C_sample 93 = .ok (.getfield 133, 3) := by decide +kernel
theorem d_C_sample_96 : decode b_C_sample 96 = .ok (.iload_n 2, 1) := by decide +kernel
theorem d_C_sample_97 : decode b_C_sample 97 = .ok (.invokespecial 161, 3) := by decide +kernel
theorem d_C_sample_100 : decode b_C_sample 100 = .ok (.invokevirtual 94, 3) := by decide +kernel
theorem d_C_sample_103 : decode b_C_sample 103 = .ok (.pop, 1) := by decide +kernel
theorem d_C_sample_104 : decode b_C_sample 104 = .ok (.aload_n 3, 1) := by decide +kernel
theorem d_C_sample_105 : decode b_C_sample 105 = .ok (.dup, 1) := by decide +kernel
theorem d_C_sample_106 : decode b_C_sample 106 = .ok (.getfield 164, 3) := by decide +kernel
theorem d_C_sample_109 : decode b_C_sample 109 = .ok (.iconst 1, 1) := by decide +kernel
theorem d_C_sample_110 : decode b_C_sample 110 = .ok (.iadd, 1) := by decide +kernel
theorem d_C_sample_111 : decode b_C_sample 111 = .ok (.putfield 164, 3) := by decide +kernel
theorem d_C_sample_114 : decode b_C_sample 114 = .ok (.aload_n 0, 1) := by decide +kernel
theorem d_C_sample_115 : decode b_C_sample 115 = .ok (.getfield 29, 3) := by decide +kernel
theorem d_C_sample_118 : decode b_C_sample 118 = .ok (.aload_n 3, 1) := by decide +kernel
theorem d_C_sample_119 : decode b_C_sample 119 = .ok (.getfield 133, 3) := by decide +kernel
theorem d_C_sample_122 : decode b_C_sample 122 = .ok (.dup2, 1) := by decide +kernel
theorem d_C_sample_123 : decode b_C_sample 123 = .ok (.iaload, 1) := by decide +kernel
theorem d_C_sample_124 : decode b_C_sample 124 = .ok (.bipush 50, 2) := by decide +kernel
theorem d_C_sample_126 : decode b_C_sample 126 = .ok (.iadd, 1) := by decide +kernel
theorem d_C_sample_127 : decode b_C_sample 127 = .ok (.iastore, 1) := by decide +kernel
theorem d_C_sample_128 : decode b_C_sample 128 = .ok (.aload_n 0, 1) := by decide +kernel
theorem d_C_sample_129 : decode b_C_sample 129 = .ok (.getfield 16, 3) := by decide +kernel
theorem d_C_sample_132 : decode b_C_sample 132 = .ok (.invokevirtual 80, 3) := by decide +kernel
theorem d_C_sample_135 : decode b_C_sample 135 = .ok (.iconst 1, 1) := by decide +kernel
theorem d_C_sample_136 : decode b_C_sample 136 = .ok (.isub, 1) := by decide +kernel
theorem d_C_sample_137 : decode b_C_sample 137 = .ok (.ireturn, 1) := by decide +kernel
abbrev b_C_result : ByteArray := prog_1_method_10_code
def y_C_result : MethodName := ⟨R_C, "result", "(IIII)I"⟩
theorem d_C_result_0 : decode b_C_result 0 = .ok (.iload_n 1, 1) := by decide +kernel
theorem d_C_result_1 : decode b_C_result 1 = .ok (.iconst 0, 1) := by decide +kernel
theorem d_C_result_2 : decode b_C_result 2 = .ok (.aload_n 0, 1) := by decide +kernel
theorem d_C_result_3 : decode b_C_result 3 = .ok (.getfield 16, 3) := by decide +kernel
theorem d_C_result_6 : decode b_C_result 6 = .ok (.invokevirtual 80, 3) := by decide +kernel
theorem d_C_result_9 : decode b_C_result 9 = .ok (.iconst 1, 1) := by decide +kernel
theorem d_C_result_10 : decode b_C_result 10 = .ok (.isub, 1) := by decide +kernel
theorem d_C_result_11 : decode b_C_result 11 = .ok (.invokestatic 57, 3) := by decide +kernel
theorem d_C_result_14 : decode b_C_result 14 = .ok (.ifCond .eq 10, 3) := by decide +kernel
theorem d_C_result_17 : decode b_C_result 17 = .ok (.iload_n 3, 1) := by decide +kernel
theorem d_C_result_18 : decode b_C_result 18 = .ok (.invokestatic 167, 3) := by decide +kernel
theorem d_C_result_21 : decode b_C_result 21 = .ok (.ifCond .ne 13, 3) := by decide +kernel
theorem d_C_result_24 : decode b_C_result 24 = .ok (.new 68, 3) := by decide +kernel
theorem d_C_result_27 : decode b_C_result 27 = .ok (.dup, 1) := by decide +kernel
theorem d_C_result_28 : decode b_C_result 28 = .ok (.ldc 170, 2) := by decide +kernel
theorem d_C_result_30 : decode b_C_result 30 = .ok (.invokespecial 72, 3) := by decide +kernel
theorem d_C_result_33 : decode b_C_result 33 = .ok (.athrow, 1) := by decide +kernel
theorem d_C_result_34 : decode b_C_result 34 = .ok (.iload_n 2, 1) := by decide +kernel
theorem d_C_result_35 : decode b_C_result 35 = .ok (.invokestatic 144, 3) := by decide +kernel
theorem d_C_result_38 : decode b_C_result 38 = .ok (.ifCond .eq 11, 3) := by decide +kernel
theorem d_C_result_41 : decode b_C_result 41 = .ok (.iload 4, 2) := by decide +kernel
theorem d_C_result_43 : decode b_C_result 43 = .ok (.invokestatic 172, 3) := by decide +kernel
theorem d_C_result_46 : decode b_C_result 46 = .ok (.ifCond .ne 13, 3) := by decide +kernel
theorem d_C_result_49 : decode b_C_result 49 = .ok (.new 68, 3) := by decide +kernel
theorem d_C_result_52 : decode b_C_result 52 = .ok (.dup, 1) := by decide +kernel
theorem d_C_result_53 : decode b_C_result 53 = .ok (.ldc 175, 2) := by decide +kernel
theorem d_C_result_55 : decode b_C_result 55 = .ok (.invokespecial 72, 3) := by decide +kernel
theorem d_C_result_58 : decode b_C_result 58 = .ok (.athrow, 1) := by decide +kernel
theorem d_C_result_59 : decode b_C_result 59 = .ok (.aload_n 0, 1) := by decide +kernel
theorem d_C_result_60 : decode b_C_result 60 = .ok (.getfield 16, 3) := by decide +kernel
theorem d_C_result_63 : decode b_C_result 63 = .ok (.iload_n 1, 1) := by decide +kernel
theorem d_C_result_64 : decode b_C_result 64 = .ok (.invokevirtual 105, 3) := by decide +kernel
theorem d_C_result_67 : decode b_C_result 67 = .ok (.checkcast 159, 3) := by decide +kernel
theorem d_C_result_70 : decode b_C_result 70 = .ok (.astore 5, 2) := by decide +kernel
theorem d_C_result_72 : decode b_C_result 72 = .ok (.aload 5, 2) := by decide +kernel
theorem d_C_result_74 : decode b_C_result 74 = .ok (.getfield 177, 3) := by decide +kernel
theorem d_C_result_77 : decode b_C_result 77 = .ok (.iload_n 3, 1) := by decide +kernel
theorem d_C_result_78 : decode b_C_result 78 = .ok (.iaload, 1) := by decide +kernel
theorem d_C_result_79 : decode b_C_result 79 = .ok (.iconst (-1), 1) := by decide +kernel
theorem d_C_result_80 : decode b_C_result 80 = .ok (.if_icmp .eq 5, 3) := by decide +kernel
theorem d_C_result_83 : decode b_C_result 83 = .ok (.iconst (-1), 1) := by decide +kernel
theorem d_C_result_84 : decode b_C_result 84 = .ok (.ireturn, 1) := by decide +kernel
theorem d_C_result_85 : decode b_C_result 85 = .ok (.aload 5, 2) := by decide +kernel
theorem d_C_result_87 : decode b_C_result 87 = .ok (.getfield 180, 3) := by decide +kernel
theorem d_C_result_90 : decode b_C_result 90 = .ok (.iload_n 2, 1) := by decide +kernel
theorem d_C_result_91 : decode b_C_result 91 = .ok (.if_icmp .eq 19, 3) := by decide +kernel
theorem d_C_result_94 : decode b_C_result 94 = .ok (.aload_n 0, 1) := by decide +kernel
theorem d_C_result_95 : decode b_C_result 95 = .ok (.iload_n 2, 1) := by decide +kernel
theorem d_C_result_96 : decode b_C_result 96 = .ok (.invokevirtual 156, 3) := by decide +kernel
theorem d_C_result_99 : decode b_C_result 99 = .ok (.ifCond .eq 8, 3) := by decide +kernel
theorem d_C_result_102 : decode b_C_result 102 = .ok (.bipush (-2), 2) := by decide +kernel
theorem d_C_result_104 : decode b_C_result 104 = .ok (.goto 5, 3) := by decide +kernel
theorem d_C_result_107 : decode b_C_result 107 = .ok (.bipush (-3), 2) := by decide +kernel
theorem d_C_result_109 : decode b_C_result 109 = .ok (.ireturn, 1) := by decide +kernel
theorem d_C_result_110 : decode b_C_result 110 = .ok (.aload 5, 2) := by decide +kernel
theorem d_C_result_112 : decode b_C_result 112 = .ok (.getfield 177, 3) := by decide +kernel
theorem d_C_result_115 : decode b_C_result 115 = .ok (.iload_n 3, 1) := by decide +kernel
theorem d_C_result_116 : decode b_C_result 116 = .ok (.iload 4, 2) := by decide +kernel
theorem d_C_result_118 : decode b_C_result 118 = .ok (.iastore, 1) := by decide +kernel
theorem d_C_result_119 : decode b_C_result 119 = .ok (.aload_n 0, 1) := by decide +kernel
theorem d_C_result_120 : decode b_C_result 120 = .ok (.aload 5, 2) := by decide +kernel
theorem d_C_result_122 : decode b_C_result 122 = .ok (.iload_n 3, 1) := by decide +kernel
theorem d_C_result_123 : decode b_C_result 123 = .ok (.invokevirtual 183, 3) := by decide +kernel
theorem d_C_result_126 : decode b_C_result 126 = .ok (.ireturn, 1) := by decide +kernel
abbrev b_C_declared : ByteArray := prog_1_method_11_code
def y_C_declared : MethodName := ⟨R_C, "declared", "(III)Z"⟩
theorem d_C_declared_0 : decode b_C_declared 0 = .ok (.iload_n 1, 1) := by decide +kernel
theorem d_C_declared_1 : decode b_C_declared 1 = .ok (.invokestatic 65, 3) := by decide +kernel
theorem d_C_declared_4 : decode b_C_declared 4 = .ok (.ifCond .eq 17, 3) := by decide +kernel
theorem d_C_declared_7 : decode b_C_declared 7 = .ok (.iload_n 2, 1) := by decide +kernel
theorem d_C_declared_8 : decode b_C_declared 8 = .ok (.invokestatic 167, 3) := by decide +kernel
theorem d_C_declared_11 : decode b_C_declared 11 = .ok (.ifCond .eq 10, 3) := by decide +kernel
theorem d_C_declared_14 : decode b_C_declared 14 = .ok (.iload_n 3, 1) := by decide +kernel
theorem d_C_declared_15 : decode b_C_declared 15 = .ok (.invokestatic 172, 3) := by decide +kernel
theorem d_C_declared_18 : decode b_C_declared 18 = .ok (.ifCond .ne 5, 3) := by decide +kernel
theorem d_C_declared_21 : decode b_C_declared 21 = .ok (.iconst 0, 1) := by decide +kernel
theorem d_C_declared_22 : decode b_C_declared 22 = .ok (.ireturn, 1) := by decide +kernel
theorem d_C_declared_23 : decode b_C_declared 23 = .ok (.aload_n 0, 1) := by decide +kernel
theorem d_C_declared_24 : decode b_C_declared 24 = .ok (.getfield 34, 3) := by decide +kernel
theorem d_C_declared_27 : decode b_C_declared 27 = .ok (.iload_n 1, 1) := by decide +kernel
theorem d_C_declared_28 : decode b_C_declared 28 = .ok (.aaload, 1) := by decide +kernel
theorem d_C_declared_29 : decode b_C_declared 29 = .ok (.iload_n 2, 1) := by decide +kernel
theorem d_C_declared_30 : decode b_C_declared 30 = .ok (.iload_n 3, 1) := by decide +kernel
theorem d_C_declared_31 : decode b_C_declared 31 = .ok (.iastore, 1) := by decide +kernel
theorem d_C_declared_32 : decode b_C_declared 32 = .ok (.iconst 1, 1) := by decide +kernel
theorem d_C_declared_33 : decode b_C_declared 33 = .ok (.ireturn, 1) := by decide +kernel
abbrev b_C_tolerance : ByteArray := prog_1_method_12_code
def y_C_tolerance : MethodName := ⟨R_C, "tolerance", "(III)Z"⟩
theorem d_C_tolerance_0 : decode b_C_tolerance 0 = .ok (.iload_n 1, 1) := by decide +kernel
theorem d_C_tolerance_1 : decode b_C_tolerance 1 = .ok (.invokestatic 167, 3) := by decide +kernel
theorem d_C_tolerance_4 : decode b_C_tolerance 4 = .ok (.ifCond .eq 25, 3) := by decide +kernel
theorem d_C_tolerance_7 : decode b_C_tolerance 7 = .ok (.iload_n 2, 1) := by decide +kernel
theorem d_C_tolerance_8 : decode b_C_tolerance 8 = .ok (.iconst 0, 1) := by decide +kernel
theorem d_C_tolerance_9 : decode b_C_tolerance 9 = .ok (.sipush 1000, 3) := by decide +kernel
theorem d_C_tolerance_12 : decode b_C_tolerance 12 = .ok (.invokestatic 57, 3) := by decide +kernel
theorem d_C_tolerance_15 : decode b_C_tolerance 15 = .ok (.ifCond .eq 14, 3) := by decide +kernel
theorem d_C_tolerance_18 : decode b_C_tolerance 18 = .ok (.iload_n 3, 1) := by decide +kernel
theorem d_C_tolerance_19 : decode b_C_tolerance 19 = .ok (.iconst 0, 1) := by decide +kernel
theorem d_C_tolerance_20 : decode b_C_tolerance 20 = .ok (.sipush 1000, 3) := by decide +kernel
theorem d_C_tolerance_23 : decode b_C_tolerance 23 = .ok (.invokestatic 57, 3) := by decide +kernel
theorem d_C_tolerance_26 : decode b_C_tolerance 26 = .ok (.ifCond .ne 5, 3) := by decide +kernel
theorem d_C_tolerance_29 : decode b_C_tolerance 29 = .ok (.iconst 0, 1) := by decide +kernel
theorem d_C_tolerance_30 : decode b_C_tolerance 30 = .ok (.ireturn, 1) := by decide +kernel
theorem d_C_tolerance_31 : decode b_C_tolerance 31 = .ok (.aload_n 0, 1) := by decide +kernel
theorem d_C_tolerance_32 : decode b_C_tolerance 32 = .ok (.getfield 37, 3) := by decide +kernel
theorem d_C_tolerance_35 : decode b_C_tolerance 35 = .ok (.iload_n 1, 1) := by decide +kernel
theorem d_C_tolerance_36 : decode b_C_tolerance 36 = .ok (.iload_n 2, 1) := by decide +kernel
theorem d_C_tolerance_37 : decode b_C_tolerance 37 = .ok (.iastore, 1) := by decide +kernel
theorem d_C_tolerance_38 : decode b_C_tolerance 38 = .ok (.aload_n 0, 1) := by decide +kernel
theorem d_C_tolerance_39 : decode b_C_tolerance 39 = .ok (.getfield 40, 3) := by decide +kernel
theorem d_C_tolerance_42 : decode b_C_tolerance 42 = .ok (.iload_n 1, 1) := by decide +kernel
theorem d_C_tolerance_43 : decode b_C_tolerance 43 = .ok (.iload_n 3, 1) := by decide +kernel
theorem d_C_tolerance_44 : decode b_C_tolerance 44 = .ok (.iastore, 1) := by decide +kernel
theorem d_C_tolerance_45 : decode b_C_tolerance 45 = .ok (.iconst 1, 1) := by decide +kernel
theorem d_C_tolerance_46 : decode b_C_tolerance 46 = .ok (.ireturn, 1) := by decide +kernel
abbrev b_C_hold : ByteArray := prog_1_method_13_code
def y_C_hold : MethodName := ⟨R_C, "hold", "(IIZ)Z"⟩
theorem d_C_hold_0 : decode b_C_hold 0 = .ok (.iload_n 1, 1) := by decide +kernel
theorem d_C_hold_1 : decode b_C_hold 1 = .ok (.invokestatic 65, 3) := by decide +kernel
theorem d_C_hold_4 : decode b_C_hold 4 = .ok (.ifCond .eq 27, 3) := by decide +kernel
theorem d_C_hold_7 : decode b_C_hold 7 = .ok (.iload_n 2, 1) := by decide +kernel
theorem d_C_hold_8 : decode b_C_hold 8 = .ok (.iconst 0, 1) := by decide +kernel
theorem d_C_hold_9 : decode b_C_hold 9 = .ok (.bipush 7, 2) := by decide +kernel
theorem d_C_hold_11 : decode b_C_hold 11 = .ok (.invokestatic 57, 3) := by decide +kernel
theorem d_C_hold_14 : decode b_C_hold 14 = .ok (.ifCond .eq 17, 3) := by decide +kernel
theorem d_C_hold_17 : decode b_C_hold 17 = .ok (.aload_n 0, 1) := by decide +kernel
theorem d_C_hold_18 : decode b_C_hold 18 = .ok (.getfield 26, 3) := by decide +kernel
theorem d_C_hold_21 : decode b_C_hold 21 = .ok (.iload_n 1, 1) := by decide +kernel
theorem d_C_hold_22 : decode b_C_hold 22 = .ok (.iaload, 1) := by decide +kernel
theorem d_C_hold_23 : decode b_C_hold 23 = .ok (.iload_n 2, 1) := by decide +kernel
theorem d_C_hold_24 : decode b_C_hold 24 = .ok (.invokestatic 187, 3) := by decide +kernel
theorem d_C_hold_27 : decode b_C_hold 27 = .ok (.iload_n 3, 1) := by decide +kernel
theorem d_C_hold_28 : decode b_C_hold 28 = .ok (.if_icmp .ne 5, 3) := by decide +kernel
theorem d_C_hold_31 : decode b_C_hold 31 = .ok (.iconst 0, 1) := by decide +kernel
theorem d_C_hold_32 : decode b_C_hold 32 = .ok (.ireturn, 1) := by decide +kernel
theorem d_C_hold_33 : decode b_C_hold 33 = .ok (.aload_n 0, 1) := by decide +kernel
theorem d_C_hold_34 : decode b_C_hold 34 = .ok (.getfield 26, 3) := by decide +kernel
theorem d_C_hold_37 : decode b_C_hold 37 = .ok (.iload_n 1, 1) := by decide +kernel
theorem d_C_hold_38 : decode b_C_hold 38 = .ok (.dup2, 1) := by decide +kernel
theorem d_C_hold_39 : decode b_C_hold 39 = .ok (.iaload, 1) := by decide +kernel
theorem d_C_hold_40 : decode b_C_hold 40 = .ok (.iconst 1, 1) := by decide +kernel
theorem d_C_hold_41 : decode b_C_hold 41 = .ok (.iload_n 2, 1) := by decide +kernel
theorem d_C_hold_42 : decode b_C_hold 42 = .ok (.ishl, 1) := by decide +kernel
theorem d_C_hold_43 : decode b_C_hold 43 = .ok (.ixor, 1) := by decide +kernel
theorem d_C_hold_44 : decode b_C_hold 44 = .ok (.iastore, 1) := by decide +kernel
theorem d_C_hold_45 : decode b_C_hold 45 = .ok (.iconst 1, 1) := by decide +kernel
theorem d_C_hold_46 : decode b_C_hold 46 = .ok (.ireturn, 1) := by decide +kernel
abbrev b_C_settle : ByteArray := prog_1_method_14_code
def y_C_settle : MethodName := ⟨R_C, "settle", "(I)I"⟩
theorem d_C_settle_0 : decode b_C_settle 0 = .ok (.iload_n 1, 1) := by decide +kernel
theorem d_C_settle_1 : decode b_C_settle 1 = .ok (.invokestatic 65, 3) := by decide +kernel
theorem d_C_settle_4 : decode b_C_settle 4 = .ok (.ifCond .ne 13, 3) := by decide +kernel
theorem d_C_settle_7 : decode b_C_settle 7 = .ok (.new 68, 3) := by decide +kernel
theorem d_C_settle_10 : decode b_C_settle 10 = .ok (.dup, 1) := by decide +kernel
theorem d_C_settle_11 : decode b_C_settle 11 = .ok (.ldc 190, 2) := by decide +kernel
theorem d_C_settle_13 : decode b_C_settle 13 = .ok (.invokespecial 72, 3) := by decide +kernel
theorem d_C_settle_16 : decode b_C_settle 16 = .ok (.athrow, 1) := by decide +kernel
theorem d_C_settle_17 : decode b_C_settle 17 = .ok (.aload_n 0, 1) := by decide +kernel
theorem d_C_settle_18 : decode b_C_settle 18 = .ok (.iload_n 1, 1) := by decide +kernel
theorem d_C_settle_19 : decode b_C_settle 19 = .ok (.iconst 0, 1) := by decide +kernel
theorem d_C_settle_20 : decode b_C_settle 20 = .ok (.invokevirtual 192, 3) := by decide +kernel
theorem d_C_settle_23 : decode b_C_settle 23 = .ok (.istore_n 2, 1) := by decide +kernel
theorem d_C_settle_24 : decode b_C_settle 24 = .ok (.iconst 0, 1) := by decide +kernel
theorem d_C_settle_25 : decode b_C_settle 25 = .ok (.istore_n 3, 1) := by decide +kernel
theorem d_C_settle_26 : decode b_C_settle 26 = .ok (.iload_n 3, 1) := by decide +kernel
theorem d_C_settle_27 : decode b_C_settle 27 = .ok (.aload_n 0, 1) := by decide +kernel
theorem d_C_settle_28 : decode b_C_settle 28 = .ok (.getfield 16, 3) := by decide +kernel
theorem d_C_settle_31 : decode b_C_settle 31 = .ok (.invokevirtual 80, 3) := by decide +kernel
theorem d_C_settle_34 : decode b_C_settle 34 = .ok (.if_icmp .ge 36, 3) := by decide +kernel
theorem d_C_settle_37 : decode b_C_settle 37 = .ok (.aload_n 0, 1) := by decide +kernel
theorem d_C_settle_38 : decode b_C_settle 38 = .ok (.getfield 16, 3) := by decide +kernel
theorem d_C_settle_41 : decode b_C_settle 41 = .ok (.iload_n 3, 1) := by decide +kernel
theorem d_C_settle_42 : decode b_C_settle 42 = .ok (.invokevirtual 105, 3) := by decide +kernel
theorem d_C_settle_45 : decode b_C_settle 45 = .ok (.checkcast 159, 3) := by decide +kernel
theorem d_C_settle_48 : decode b_C_settle 48 = .ok (.astore 4, 2) := by decide +kernel
theorem d_C_settle_50 : decode b_C_settle 50 = .ok (.aload 4, 2) := by decide +kernel
theorem d_C_settle_52 : decode b_C_settle 52 = .ok (.getfield 196, 3) := by decide +kernel
theorem d_C_settle_55 : decode b_C_settle 55 = .ok (.iload_n 1, 1) := by decide +kernel
theorem d_C_settle_56 : decode b_C_settle 56 = .ok (.if_icmp .ne 8, 3) := by decide +kernel
theorem d_C_settle_59 : decode b_C_settle 59 = .ok (.aload 4, 2) := by decide +kernel
theorem d_C_settle_61 : decode b_C_settle 61 = .ok (.invokevirtual 197, 3) := by decide +kernel
theorem d_C_settle_64 : decode b_C_settle 64 = .ok (.iinc 3 1, 3) := by decide +kernel
theorem d_C_settle_67 : decode b_C_settle 67 = .ok (.goto (-41), 3) := by decide +kernel
theorem d_C_settle_70 : decode b_C_settle 70 = .ok (.iload_n 2, 1) := by decide +kernel
theorem d_C_settle_71 : decode b_C_settle 71 = .ok (.ireturn, 1) := by decide +kernel
abbrev b_C_tick : ByteArray := prog_1_method_15_code
def y_C_tick : MethodName := ⟨R_C, "tick", "(I)I"⟩
theorem d_C_tick_0 : decode b_C_tick 0 = .ok (.aload_n 0, 1) := by decide +kernel
theorem d_C_tick_1 : decode b_C_tick 1 = .ok (.iload_n 1, 1) := by decide +kernel
theorem d_C_tick_2 : decode b_C_tick 2 = .ok (.invokevirtual 75, 3) := by decide +kernel
theorem d_C_tick_5 : decode b_C_tick 5 = .ok (.ifCond .ne 13, 3) := by decide +kernel
theorem d_C_tick_8 : decode b_C_tick 8 = .ok (.new 68, 3) := by decide +kernel
theorem d_C_tick_11 : decode b_C_tick 11 = .ok (.dup, 1) := by decide +kernel
theorem d_C_tick_12 : decode b_C_tick 12 = .ok (.ldc 200, 2) := by decide +kernel
theorem d_C_tick_14 : decode b_C_tick 14 = .ok (.invokespecial 72, 3) := by decide +kernel
theorem d_C_tick_17 : decode b_C_tick 17 = .ok (.athrow, 1) := by decide +kernel
theorem d_C_tick_18 : decode b_C_tick 18 = .ok (.iconst 0, 1) := by decide +kernel
theorem d_C_tick_19 : decode b_C_tick 19 = .ok (.istore_n 2, 1) := by decide +kernel
theorem d_C_tick_20 : decode b_C_tick 20 = .ok (.iconst 0, 1) := by decide +kernel
theorem d_C_tick_21 : decode b_C_tick 21 = .ok (.istore_n 3, 1) := by decide +kernel
theorem d_C_tick_22 : decode b_C_tick 22 = .ok (.iload_n 3, 1) := by decide +kernel
theorem d_C_tick_23 : decode b_C_tick 23 = .ok (.aload_n 0, 1) := by decide +kernel
theorem d_C_tick_24 : decode b_C_tick 24 = .ok (.getfield 10, 3) := by decide +kernel
theorem d_C_tick_27 : decode b_C_tick 27 = .ok (.invokevirtual 80, 3) := by decide +kernel
theorem d_C_tick_30 : decode b_C_tick 30 = .ok (.if_icmp .ge 31, 3) := by decide +kernel
theorem d_C_tick_33 : decode b_C_tick 33 = .ok (.iload_n 2, 1) := by decide +kernel
theorem d_C_tick_34 : decode b_C_tick 34 = .ok (.aload_n 0, 1) := by decide +kernel
theorem d_C_tick_35 : decode b_C_tick 35 = .ok (.getfield 10, 3) := by decide +kernel
theorem d_C_tick_38 : decode b_C_tick 38 = .ok (.iload_n 3, 1) := by decide +kernel
theorem d_C_tick_39 : decode b_C_tick 39 = .ok (.invokevirtual 105, 3) := by decide +kernel
theorem d_C_tick_42 : decode b_C_tick 42 = .ok (.checkcast 89, 3) := by decide +kernel
theorem d_C_tick_45 : decode b_C_tick 45 = .ok (.aload_n 0, 1) := by decide +kernel
theorem d_C_tick_46 : decode b_C_tick 46 = .ok (.getfield 43, 3) := by decide +kernel
theorem d_C_tick_49 : decode b_C_tick 49 = .ok (.iload_n 1, 1) := by decide +kernel
theorem d_C_tick_50 : decode b_C_tick 50 = .ok (.invokevirtual 202, 3) := by decide +kernel
theorem d_C_tick_53 : decode b_C_tick 53 = .ok (.iadd, 1) := by decide +kernel
theorem d_C_tick_54 : decode b_C_tick 54 = .ok (.istore_n 2, 1) := by decide +kernel
theorem d_C_tick_55 : decode b_C_tick 55 = .ok (.iinc 3 1, 3) := by decide +kernel
theorem d_C_tick_58 : decode b_C_tick 58 = .ok (.goto (-36), 3) := by decide +kernel
theorem d_C_tick_61 : decode b_C_tick 61 = .ok (.aload_n 0, 1) := by decide +kernel
theorem d_C_tick_62 : decode b_C_tick 62 = .ok (.iload_n 1, 1) := by decide +kernel
theorem d_C_tick_63 : decode b_C_tick 63 = .ok (.putfield 43, 3) := by decide +kernel
theorem d_C_tick_66 : decode b_C_tick 66 = .ok (.iload_n 2, 1) := by decide +kernel
theorem d_C_tick_67 : decode b_C_tick 67 = .ok (.ireturn, 1) := by decide +kernel
abbrev b_C_release : ByteArray := prog_1_method_16_code
def y_C_release : MethodName := ⟨R_C, "release", "(I)I"⟩
theorem d_C_release_0 : decode b_C_release 0 = .ok (.iload_n 1, 1) := by decide +kernel
theorem d_C_release_1 : decode b_C_release 1 = .ok (.invokestatic 65, 3) := by decide +kernel
theorem d_C_release_4 : decode b_C_release 4 = .ok (.ifCond .ne 13, 3) := by decide +kernel
theorem d_C_release_7 : decode b_C_release 7 = .ok (.new 68, 3) := by decide +kernel
theorem d_C_release_10 : decode b_C_release 10 = .ok (.dup, 1) := by decide +kernel
theorem d_C_release_11 : decode b_C_release 11 = .ok (.ldc 190, 2) := by decide +kernel
theorem d_C_release_13 : decode b_C_release 13 = .ok (.invokespecial 72, 3) := by decide +kernel
theorem d_C_release_16 : decode b_C_release 16 = .ok (.athrow, 1) := by decide +kernel
theorem d_C_release_17 : decode b_C_release 17 = .ok (.aload_n 0, 1) := by decide +kernel
theorem d_C_release_18 : decode b_C_release 18 = .ok (.iload_n 1, 1) := by decide +kernel
theorem d_C_release_19 : decode b_C_release 19 = .ok (.invokevirtual 206, 3) := by decide +kernel
theorem d_C_release_22 : decode b_C_release 22 = .ok (.ifCond .eq 5, 3) := by decide +kernel
theorem d_C_release_25 : decode b_C_release 25 = .ok (.iconst 1, 1) := by decide +kernel
theorem d_C_release_26 : decode b_C_release 26 = .ok (.ireturn, 1) := by decide +kernel
theorem d_C_release_27 : decode b_C_release 27 = .ok (.aload_n 0, 1) := by decide +kernel
theorem d_C_release_28 : decode b_C_release 28 = .ok (.getfield 23, 3) := by decide +kernel
theorem d_C_release_31 : decode b_C_release 31 = .ok (.iload_n 1, 1) := by decide +kernel
theorem d_C_release_32 : decode b_C_release 32 = .ok (.iaload, 1) := by decide +kernel
theorem d_C_release_33 : decode b_C_release 33 = .ok (.iconst (-1), 1) := by decide +kernel
theorem d_C_release_34 : decode b_C_release 34 = .ok (.if_icmp .ne 5, 3) := by decide +kernel
theorem d_C_release_37 : decode b_C_release 37 = .ok (.iconst 2, 1) := by decide +kernel
theorem d_C_release_38 : decode b_C_release 38 = .ok (.ireturn, 1) := by decide +kernel
theorem d_C_release_39 : decode b_C_release 39 = .ok (.aload_n 0, 1) := by decide +kernel
theorem d_C_release_40 : decode b_C_release 40 = .ok (.getfield 26, 3) := by decide +kernel
theorem d_C_release_43 : decode b_C_release 43 = .ok (.iload_n 1, 1) := by decide +kernel
theorem d_C_release_44 : decode b_C_release 44 = .ok (.iaload, 1) := by decide +kernel
theorem d_C_release_45 : decode b_C_release 45 = .ok (.ifCond .eq 5, 3) := by decide +kernel
theorem d_C_release_48 : decode b_C_release 48 = .ok (.iconst 3, 1) := by decide +kernel
theorem d_C_release_49 : decode b_C_release 49 = .ok (.ireturn, 1) := by decide +kernel
theorem d_C_release_50 : decode b_C_release 50 = .ok (.aload_n 0, 1) := by decide +kernel
theorem d_C_release_51 : decode b_C_release 51 = .ok (.iload_n 1, 1) := by decide +kernel
theorem d_C_release_52 : decode b_C_release 52 = .ok (.invokevirtual 209, 3) := by decide +kernel
theorem d_C_release_55 : decode b_C_release 55 = .ok (.ifCond .eq 5, 3) := by decide +kernel
theorem d_C_release_58 : decode b_C_release 58 = .ok (.iconst 4, 1) := by decide +kernel
theorem d_C_release_59 : decode b_C_release 59 = .ok (.ireturn, 1) := by decide +kernel
theorem d_C_release_60 : decode b_C_release 60 = .ok (.aload_n 0, 1) := by decide +kernel
theorem d_C_release_61 : decode b_C_release 61 = .ok (.iload_n 1, 1) := by decide +kernel
theorem d_C_release_62 : decode b_C_release 62 = .ok (.iconst 0, 1) := by decide +kernel
theorem d_C_release_63 : decode b_C_release 63 = .ok (.invokevirtual 192, 3) := by decide +kernel
theorem d_C_release_66 : decode b_C_release 66 = .ok (.ifCond .le 7, 3) := by decide +kernel
theorem d_C_release_69 : decode b_C_release 69 = .ok (.iconst 5, 1) := by decide +kernel
theorem d_C_release_70 : decode b_C_release 70 = .ok (.goto 4, 3) := by decide +kernel
theorem d_C_release_73 : decode b_C_release 73 = .ok (.iconst 0, 1) := by decide +kernel
theorem d_C_release_74 : decode b_C_release 74 = .ok (.ireturn, 1) := by decide +kernel
abbrev b_C_look : ByteArray := prog_1_method_17_code
def y_C_look : MethodName := ⟨R_C, "look", "(II)I"⟩
theorem d_C_look_0 : decode b_C_look 0 = .ok (.aload_n 0, 1) := by decide +kernel
theorem d_C_look_1 : decode b_C_look 1 = .ok (.iload_n 1, 1) := by decide +kernel
theorem d_C_look_2 : decode b_C_look 2 = .ok (.invokevirtual 98, 3) := by decide +kernel
theorem d_C_look_5 : decode b_C_look 5 = .ok (.ifCond .ne 13, 3) := by decide +kernel
theorem d_C_look_8 : decode b_C_look 8 = .ok (.new 212, 3) := by decide +kernel
theorem d_C_look_11 : decode b_C_look 11 = .ok (.dup, 1) := by decide +kernel
theorem d_C_look_12 : decode b_C_look 12 = .ok (.ldc 214, 2) := by decide +kernel
theorem d_C_look_14 : decode b_C_look 14 = .ok (.invokespecial 216, 3) := by decide +kernel
theorem d_C_look_17 : decode b_C_look 17 = .ok (.athrow, 1) := by decide +kernel
theorem d_C_look_18 : decode b_C_look 18 = .ok (.aload_n 0, 1) := by decide +kernel
theorem d_C_look_19 : decode b_C_look 19 = .ok (.getfield 10, 3) := by decide +kernel
theorem d_C_look_22 : decode b_C_look 22 = .ok (.iload_n 1, 1) := by decide +kernel
theorem d_C_look_23 : decode b_C_look 23 = .ok (.invokevirtual 105, 3) := by decide +kernel
theorem d_C_look_26 : decode b_C_look 26 = .ok (.checkcast 89, 3) := by decide +kernel
theorem d_C_look_29 : decode b_C_look 29 = .ok (.astore_n 3, 1) := by decide +kernel
theorem d_C_look_30 : decode b_C_look 30 = .ok (.iload_n 2, 1) := by decide +kernel
theorem d_C_look_31 : decode b_C_look 31 = .ok (.tableswitch 127 0 8 #[49, 54, 59, 64, 69, 85, 101, 117, 122], 49) := by decide +kernel
theorem d_C_look_80 : decode b_C_look 80 = .ok (.aload_n 3, 1) := by decide +kernel
theorem d_C_look_81 : decode b_C_look 81 = .ok (.getfield 133, 3) := by decide +kernel
theorem d_C_look_84 : decode b_C_look 84 = .ok (.ireturn, 1) := by decide +kernel
theorem d_C_look_85 : decode b_C_look 85 = .ok (.aload_n 3, 1) := by decide +kernel
theorem d_C_look_86 : decode b_C_look 86 = .ok (.getfield 124, 3) := by decide +kernel
theorem d_C_look_89 : decode b_C_look 89 = .ok (.ireturn, 1) := by decide +kernel
theorem d_C_look_90 : decode b_C_look 90 = .ok (.aload_n 3, 1) := by decide +kernel
theorem d_C_look_91 : decode b_C_look 91 = .ok (.getfield 127, 3) := by decide +kernel
theorem d_C_look_94 : decode b_C_look 94 = .ok (.ireturn, 1) := by decide +kernel
theorem d_C_look_95 : decode b_C_look 95 = .ok (.aload_n 3, 1) := by decide +kernel
theorem d_C_look_96 : decode b_C_look 96 = .ok (.getfield 217, 3) := by decide +kernel
theorem d_C_look_99 : decode b_C_look 99 = .ok (.ireturn, 1) := by decide +kernel
theorem d_C_look_100 : decode b_C_look 100 = .ok (.aload_n 3, 1) := by decide +kernel
theorem d_C_look_101 : decode b_C_look 101 = .ok (.invokevirtual 220, 3) := by decide +kernel
theorem d_C_look_104 : decode b_C_look 104 = .ok (.ifCond .eq 10, 3) := by decide +kernel
theorem d_C_look_107 : decode b_C_look 107 = .ok (.aload_n 3, 1) := by decide +kernel
theorem d_C_look_108 : decode b_C_look 108 = .ok (.getfield 223, 3) := by decide +kernel
theorem d_C_look_111 : decode b_C_look 111 = .ok (.goto 4, 3) := by decide +kernel
theorem d_C_look_114 : decode b_C_look 114 = .ok (.iconst (-1), 1) := by decide +kernel
theorem d_C_look_115 : decode b_C_look 115 = .ok (.ireturn, 1) := by decide +kernel
theorem d_C_look_116 : decode b_C_look 116 = .ok (.aload_n 3, 1) := by decide +kernel
theorem d_C_look_117 : decode b_C_look 117 = .ok (.invokevirtual 220, 3) := by decide +kernel
theorem d_C_look_120 : decode b_C_look 120 = .ok (.ifCond .eq 10, 3) := by decide +kernel
theorem d_C_look_123 : decode b_C_look 123 = .ok (.aload_n 3, 1) := by decide +kernel
theorem d_C_look_124 : decode b_C_look 124 = .ok (.getfield 226, 3) := by decide +kernel
theorem d_C_look_127 : decode b_C_look 127 = .ok (.goto 4, 3) := by decide +kernel
theorem d_C_look_130 : decode b_C_look 130 = .ok (.iconst (-1), 1) := by decide +kernel
theorem d_C_look_131 : decode b_C_look 131 = .ok (.ireturn, 1) := by decide +kernel
theorem d_C_look_132 : decode b_C_look 132 = .ok (.aload_n 3, 1) := by decide +kernel
theorem d_C_look_133 : decode b_C_look 133 = .ok (.invokevirtual 220, 3) := by decide +kernel
theorem d_C_look_136 : decode b_C_look 136 = .ok (.ifCond .eq 10, 3) := by decide +kernel
theorem d_C_look_139 : decode b_C_look 139 = .ok (.aload_n 3, 1) := by decide +kernel
theorem d_C_look_140 : decode b_C_look 140 = .ok (.getfield 229, 3) := by decide +kernel
theorem d_C_look_143 : decode b_C_look 143 = .ok (.goto 4, 3) := by decide +kernel
theorem d_C_look_146 : decode b_C_look 146 = .ok (.iconst (-1), 1) := by decide +kernel
theorem d_C_look_147 : decode b_C_look 147 = .ok (.ireturn, 1) := by decide +kernel
theorem d_C_look_148 : decode b_C_look 148 = .ok (.aload_n 3, 1) := by decide +kernel
theorem d_C_look_149 : decode b_C_look 149 = .ok (.getfield 130, 3) := by decide +kernel
theorem d_C_look_152 : decode b_C_look 152 = .ok (.ireturn, 1) := by decide +kernel
theorem d_C_look_153 : decode b_C_look 153 = .ok (.aload_n 3, 1) := by decide +kernel
theorem d_C_look_154 : decode b_C_look 154 = .ok (.getfield 164, 3) := by decide +kernel
theorem d_C_look_157 : decode b_C_look 157 = .ok (.ireturn, 1) := by decide +kernel
theorem d_C_look_158 : decode b_C_look 158 = .ok (.new 212, 3) := by decide +kernel
theorem d_C_look_161 : decode b_C_look 161 = .ok (.dup, 1) := by decide +kernel
theorem d_C_look_162 : decode b_C_look 162 = .ok (.ldc 232, 2) := by decide +kernel
theorem d_C_look_164 : decode b_C_look 164 = .ok (.invokespecial 216, 3) := by decide +kernel
theorem d_C_look_167 : decode b_C_look 167 = .ok (.athrow, 1) := by decide +kernel
abbrev b_C_count : ByteArray := prog_1_method_18_code
def y_C_count : MethodName := ⟨R_C, "count", "(I)I"⟩
theorem d_C_count_0 : decode b_C_count 0 = .ok (.iload_n 1, 1) := by decide +kernel
theorem d_C_count_1 : decode b_C_count 1 = .ok (.tableswitch 48 0 2 #[27, 35, 43], 27) := by decide +kernel
theorem d_C_count_28 : decode b_C_count 28 = .ok (.aload_n 0, 1) := by decide +kernel
theorem d_C_count_29 : decode b_C_count 29 = .ok (.getfield 10, 3) := by decide +kernel
theorem d_C_count_32 : decode b_C_count 32 = .ok (.invokevirtual 80, 3) := by decide +kernel
theorem d_C_count_35 : decode b_C_count 35 = .ok (.ireturn, 1) := by decide +kernel
theorem d_C_count_36 : decode b_C_count 36 = .ok (.aload_n 0, 1) := by decide +kernel
theorem d_C_count_37 : decode b_C_count 37 = .ok (.getfield 16, 3) := by decide +kernel
theorem d_C_count_40 : decode b_C_count 40 = .ok (.invokevirtual 80, 3) := by decide +kernel
theorem d_C_count_43 : decode b_C_count 43 = .ok (.ireturn, 1) := by decide +kernel
theorem d_C_count_44 : decode b_C_count 44 = .ok (.aload_n 0, 1) := by decide +kernel
theorem d_C_count_45 : decode b_C_count 45 = .ok (.getfield 43, 3) := by decide +kernel
theorem d_C_count_48 : decode b_C_count 48 = .ok (.ireturn, 1) := by decide +kernel
theorem d_C_count_49 : decode b_C_count 49 = .ok (.iload_n 1, 1) := by decide +kernel
theorem d_C_count_50 : decode b_C_count 50 = .ok (.bipush 10, 2) := by decide +kernel
theorem d_C_count_52 : decode b_C_count 52 = .ok (.if_icmp .ge 7, 3) := by decide +kernel
theorem d_C_count_55 : decode b_C_count 55 = .ok (.iconst (-1), 1) := by decide +kernel
theorem d_C_count_56 : decode b_C_count 56 = .ok (.goto 15, 3) := by decide +kernel
theorem d_C_count_59 : decode b_C_count 59 = .ok (.aload_n 0, 1) := by decide +kernel
theorem d_C_count_60 : decode b_C_count 60 = .ok (.iload_n 1, 1) := by decide +kernel
theorem d_C_count_61 : decode b_C_count 61 = .ok (.bipush 10, 2) := by decide +kernel
theorem d_C_count_63 : decode b_C_count 63 = .ok (.irem, 1) := by decide +kernel
theorem d_C_count_64 : decode b_C_count 64 = .ok (.iload_n 1, 1) := by decide +kernel
theorem d_C_count_65 : decode b_C_count 65 = .ok (.bipush 10, 2) := by decide +kernel
theorem d_C_count_67 : decode b_C_count 67 = .ok (.idiv, 1) := by decide +kernel
theorem d_C_count_68 : decode b_C_count 68 = .ok (.invokevirtual 234, 3) := by decide +kernel
theorem d_C_count_71 : decode b_C_count 71 = .ok (.ireturn, 1) := by decide +kernel
abbrev b_C_countOf : ByteArray := prog_1_method_19_code
def y_C_countOf : MethodName := ⟨R_C, "countOf", "(II)I"⟩
theorem d_C_countOf_0 : decode b_C_countOf 0 = .ok (.iload_n 1, 1) := by decide +kernel
theorem d_C_countOf_1 : decode b_C_countOf 1 = .ok (.invokestatic 65, 3) := by decide +kernel
theorem d_C_countOf_4 : decode b_C_countOf 4 = .ok (.ifCond .ne 5, 3) := by decide +kernel
theorem d_C_countOf_7 : decode b_C_countOf 7 = .ok (.iconst (-1), 1) := by decide +kernel
theorem d_C_countOf_8 : decode b_C_countOf 8 = .ok (.ireturn, 1) := by decide +kernel
theorem d_C_countOf_9 : decode b_C_countOf 9 = .ok (.iload_n 2, 1) := by decide +kernel
theorem d_C_countOf_10 : decode b_C_countOf 10 = .ok (.tableswitch 58 1 4 #[30, 37, 44, 51], 30) := by decide +kernel
theorem d_C_countOf_40 : decode b_C_countOf 40 = .ok (.aload_n 0, 1) := by decide +kernel
theorem d_C_countOf_41 : decode b_C_countOf 41 = .ok (.getfield 23, 3) := by decide +kernel
theorem d_C_countOf_44 : decode b_C_countOf 44 = .ok (.iload_n 1, 1) := by decide +kernel
theorem d_C_countOf_45 : decode b_C_countOf 45 = .ok (.iaload, 1) := by decide +kernel
theorem d_C_countOf_46 : decode b_C_countOf 46 = .ok (.ireturn, 1) := by decide +kernel
theorem d_C_countOf_47 : decode b_C_countOf 47 = .ok (.aload_n 0, 1) := by decide +kernel
theorem d_C_countOf_48 : decode b_C_countOf 48 = .ok (.getfield 26, 3) := by decide +kernel
theorem d_C_countOf_51 : decode b_C_countOf 51 = .ok (.iload_n 1, 1) := by decide +kernel
theorem d_C_countOf_52 : decode b_C_countOf 52 = .ok (.iaload, 1) := by decide +kernel
theorem d_C_countOf_53 : decode b_C_countOf 53 = .ok (.ireturn, 1) := by decide +kernel
theorem d_C_countOf_54 : decode b_C_countOf 54 = .ok (.aload_n 0, 1) := by decide +kernel
theorem d_C_countOf_55 : decode b_C_countOf 55 = .ok (.getfield 29, 3) := by decide +kernel
theorem d_C_countOf_58 : decode b_C_countOf 58 = .ok (.iload_n 1, 1) := by decide +kernel
theorem d_C_countOf_59 : decode b_C_countOf 59 = .ok (.iaload, 1) := by decide +kernel
theorem d_C_countOf_60 : decode b_C_countOf 60 = .ok (.ireturn, 1) := by decide +kernel
theorem d_C_countOf_61 : decode b_C_countOf 61 = .ok (.aload_n 0, 1) := by decide +kernel
theorem d_C_countOf_62 : decode b_C_countOf 62 = .ok (.iload_n 1, 1) := by decide +kernel
theorem d_C_countOf_63 : decode b_C_countOf 63 = .ok (.iconst 1, 1) := by decide +kernel
theorem d_C_countOf_64 : decode b_C_countOf 64 = .ok (.invokevirtual 192, 3) := by decide +kernel
theorem d_C_countOf_67 : decode b_C_countOf 67 = .ok (.ireturn, 1) := by decide +kernel
theorem d_C_countOf_68 : decode b_C_countOf 68 = .ok (.iconst (-1), 1) := by decide +kernel
theorem d_C_countOf_69 : decode b_C_countOf 69 = .ok (.ireturn, 1) := by decide +kernel
abbrev b_C_muchDifferent : ByteArray := prog_1_method_20_code
def y_C_muchDifferent : MethodName := ⟨R_C, "muchDifferent", "(IZ)I"⟩
theorem d_C_muchDifferent_0 : decode b_C_muchDifferent 0 = .ok (.iconst 0, 1) := by decide +kernel
theorem d_C_muchDifferent_1 : decode b_C_muchDifferent 1 = .ok (.istore_n 3, 1) := by decide +kernel
theorem d_C_muchDifferent_2 : decode b_C_muchDifferent 2 = .ok (.iconst 0, 1) := by decide +kernel
theorem d_C_muchDifferent_3 : decode b_C_muchDifferent 3 = .ok (.istore 4, 2) := by decide +kernel
theorem d_C_muchDifferent_5 : decode b_C_muchDifferent 5 = .ok (.iload 4, 2) := by decide +kernel
theorem d_C_muchDifferent_7 : decode b_C_muchDifferent 7 = .ok (.aload_n 0, 1) := by decide +kernel
theorem d_C_muchDifferent_8 : decode b_C_muchDifferent 8 = .ok (.getfield 16, 3) := by decide +kernel
theorem d_C_muchDifferent_11 : decode b_C_muchDifferent 11 = .ok (.invokevirtual 80, 3) := by decide +kernel
theorem d_C_muchDifferent_14 : decode b_C_muchDifferent 14 = .ok (.if_icmp .ge 80, 3) := by decide +kernel
theorem d_C_muchDifferent_17 : decode b_C_muchDifferent 17 = .ok (.aload_n 0, 1) := by decide +kernel
theorem d_C_muchDifferent_18 : decode b_C_muchDifferent 18 = .ok (.getfield 16, 3) := by decide +kernel
theorem d_C_muchDifferent_21 : decode b_C_muchDifferent 21 = .ok (.iload 4, 2) := by decide +kernel
theorem d_C_muchDifferent_23 : decode b_C_muchDifferent 23 = .ok (.invokevirtual 105, 3) := by decide +kernel
theorem d_C_muchDifferent_26 : decode b_C_muchDifferent 26 = .ok (.checkcast 159, 3) := by decide +kernel
theorem d_C_muchDifferent_29 : decode b_C_muchDifferent 29 = .ok (.astore 5, 2) := by decide +kernel
theorem d_C_muchDifferent_31 : decode b_C_muchDifferent 31 = .ok (.aload 5, 2) := by decide +kernel
theorem d_C_muchDifferent_33 : decode b_C_muchDifferent 33 = .ok (.getfield 196, 3) := by decide +kernel
theorem d_C_muchDifferent_36 : decode b_C_muchDifferent 36 = .ok (.iload_n 1, 1) := by decide +kernel
theorem d_C_muchDifferent_37 : decode b_C_muchDifferent 37 = .ok (.if_icmp .eq 6, 3) := by decide +kernel
theorem d_C_muchDifferent_40 : decode b_C_muchDifferent 40 = .ok (.goto 48, 3) := by decide +kernel
theorem d_C_muchDifferent_43 : decode b_C_muchDifferent 43 = .ok (.iconst 0, 1) := by decide +kernel
theorem d_C_muchDifferent_44 : decode b_C_muchDifferent 44 = .ok (.istore 6, 2) := by decide +kernel
theorem d_C_muchDifferent_46 : decode b_C_muchDifferent 46 = .ok (.iload 6, 2) := by decide +kernel
theorem d_C_muchDifferent_48 : decode b_C_muchDifferent 48 = .ok (.iconst 4, 1) := by decide +kernel
theorem d_C_muchDifferent_49 : decode b_C_muchDifferent 49 = .ok (.if_icmp .ge 39, 3) := by decide +kernel
theorem d_C_muchDifferent_52 : decode b_C_muchDifferent 52 = .ok (.iload_n 2, 1) := by decide +kernel
theorem d_C_muchDifferent_53 : decode b_C_muchDifferent 53 = .ok (.ifCond .ne 14, 3) := by decide +kernel
theorem d_C_muchDifferent_56 : decode b_C_muchDifferent 56 = .ok (.aload 5, 2) := by decide +kernel
theorem d_C_muchDifferent_58 : decode b_C_muchDifferent 58 = .ok (.getfield 237, 3) := by decide +kernel
theorem d_C_muchDifferent_61 : decode b_C_muchDifferent 61 = .ok (.iload 6, 2) := by decide +kernel
theorem d_C_muchDifferent_63 : decode b_C_muchDifferent 63 = .ok (.baload, 1) := by decide +kernel
theorem d_C_muchDifferent_64 : decode b_C_muchDifferent 64 = .ok (.ifCond .ne 18, 3) := by decide +kernel
theorem d_C_muchDifferent_67 : decode b_C_muchDifferent 67 = .ok (.aload_n 0, 1) := by decide +kernel
theorem d_C_muchDifferent_68 : decode b_C_muchDifferent 68 = .ok (.aload 5, 2) := by decide +kernel
theorem d_C_muchDifferent_70 : decode b_C_muchDifferent 70 = .ok (.iload 6, 2) := by decide +kernel
theorem d_C_muchDifferent_72 : decode b_C_muchDifferent 72 = .ok (.invokevirtual 183, 3) := by decide +kernel
theorem d_C_muchDifferent_75 : decode b_C_muchDifferent 75 = .ok (.iconst 2, 1) := by decide +kernel
theorem d_C_muchDifferent_76 : decode b_C_muchDifferent 76 = .ok (.if_icmp .ne 6, 3) := by decide +kernel
theorem d_C_muchDifferent_79 : decode b_C_muchDifferent 79 = .ok (.iinc 3 1, 3) := by decide +kernel
theorem d_C_muchDifferent_82 : decode b_C_muchDifferent 82 = .ok (.iinc 6 1, 3) := by decide +kernel
theorem d_C_muchDifferent_85 : decode b_C_muchDifferent 85 = .ok (.goto (-39), 3) := by decide +kernel
theorem d_C_muchDifferent_88 : decode b_C_muchDifferent 88 = .ok (.iinc 4 1, 3) := by decide +kernel
theorem d_C_muchDifferent_91 : decode b_C_muchDifferent 91 = .ok (.goto (-86), 3) := by decide +kernel
theorem d_C_muchDifferent_94 : decode b_C_muchDifferent 94 = .ok (.iload_n 3, 1) := by decide +kernel
theorem d_C_muchDifferent_95 : decode b_C_muchDifferent 95 = .ok (.ireturn, 1) := by decide +kernel
abbrev b_C_difference : ByteArray := prog_1_method_21_code
def y_C_difference : MethodName := ⟨R_C, "difference", "(LInspectSteps$Sample;I)I"⟩
theorem d_C_difference_0 : decode b_C_difference 0 = .ok (.aload_n 1, 1) := by decide +kernel
theorem d_C_difference_1 : decode b_C_difference 1 = .ok (.getfield 177, 3) := by decide +kernel
theorem d_C_difference_4 : decode b_C_difference 4 = .ok (.iload_n 2, 1) := by decide +kernel
theorem d_C_difference_5 : decode b_C_difference 5 = .ok (.iaload, 1) := by decide +kernel
theorem d_C_difference_6 : decode b_C_difference 6 = .ok (.istore_n 3, 1) := by decide +kernel
theorem d_C_difference_7 : decode b_C_difference 7 = .ok (.aload_n 0, 1) := by decide +kernel
theorem d_C_difference_8 : decode b_C_difference 8 = .ok (.getfield 34, 3) := by decide +kernel
theorem d_C_difference_11 : decode b_C_difference 11 = .ok (.aload_n 1, 1) := by decide +kernel
theorem d_C_difference_12 : decode b_C_difference 12 = .ok (.getfield 196, 3) := by decide +kernel
theorem d_C_difference_15 : decode b_C_difference 15 = .ok (.aaload, 1) := by decide +kernel
theorem d_C_difference_16 : decode b_C_difference 16 = .ok (.iload_n 2, 1) := by decide +kernel
theorem d_C_difference_17 : decode b_C_difference 17 = .ok (.iaload, 1) := by decide +kernel
theorem d_C_difference_18 : decode b_C_difference 18 = .ok (.istore 4, 2) := by decide +kernel
theorem d_C_difference_20 : decode b_C_difference 20 = .ok (.iload_n 3, 1) := by decide +kernel
theorem d_C_difference_21 : decode b_C_difference 21 = .ok (.iconst (-1), 1) := by decide +kernel
theorem d_C_difference_22 : decode b_C_difference 22 = .ok (.if_icmp .eq 9, 3) := by decide +kernel
theorem d_C_difference_25 : decode b_C_difference 25 = .ok (.iload 4, 2) := by decide +kernel
theorem d_C_difference_27 : decode b_C_difference 27 = .ok (.iconst (-1), 1) := by decide +kernel
theorem d_C_difference_28 : decode b_C_difference 28 = .ok (.if_icmp .ne 5, 3) := by decide +kernel
theorem d_C_difference_31 : decode b_C_difference 31 = .ok (.iconst 0, 1) := by decide +kernel
theorem d_C_difference_32 : decode b_C_difference 32 = .ok (.ireturn, 1) := by decide +kernel
theorem d_C_difference_33 : decode b_C_difference 33 = .ok (.iload_n 3, 1) := by decide +kernel
theorem d_C_difference_34 : decode b_C_difference 34 = .ok (.i2l, 1) := by decide +kernel
theorem d_C_difference_35 : decode b_C_difference 35 = .ok (.iload 4, 2) := by decide +kernel
theorem d_C_difference_37 : decode b_C_difference 37 = .ok (.i2l, 1) := by decide +kernel
theorem d_C_difference_38 : decode b_C_difference 38 = .ok (.lsub, 1) := by decide +kernel
theorem d_C_difference_39 : decode b_C_difference 39 = .ok (.invokestatic 241, 3) := by decide +kernel
theorem d_C_difference_42 : decode b_C_difference 42 = .ok (.ldc2_w 247, 3) := by decide +kernel
theorem d_C_difference_45 : decode b_C_difference 45 = .ok (.lmul, 1) := by decide +kernel
theorem d_C_difference_46 : decode b_C_difference 46 = .ok (.lstore 5, 2) := by decide +kernel
theorem d_C_difference_48 : decode b_C_difference 48 = .ok (.iload 4, 2) := by decide +kernel
theorem d_C_difference_50 : decode b_C_difference 50 = .ok (.i2l, 1) := by decide +kernel
theorem d_C_difference_51 : decode b_C_difference 51 = .ok (.iload_n 3, 1) := by decide +kernel
theorem d_C_difference_52 : decode b_C_difference 52 = .ok (.iload 4, 2) := by decide +kernel
theorem d_C_difference_54 : decode b_C_difference 54 = .ok (.if_icmp .le 12, 3) := by decide +kernel
theorem d_C_difference_57 : decode b_C_difference 57 = .ok (.aload_n 0, 1) := by decide +kernel
theorem d_C_difference_58 : decode b_C_difference 58 = .ok (.getfield 37, 3) := by decide +kernel
theorem d_C_difference_61 : decode b_C_difference 61 = .ok (.iload_n 2, 1) := by decide +kernel
theorem d_C_difference_62 : decode b_C_difference 62 = .ok (.iaload, 1) := by decide +kernel
theorem d_C_difference_63 : decode b_C_difference 63 = .ok (.goto 9, 3) := by decide +kernel
theorem d_C_difference_66 : decode b_C_difference 66 = .ok (.aload_n 0, 1) := by decide +kernel
theorem d_C_difference_67 : decode b_C_difference 67 = .ok (.getfield 40, 3) := by decide +kernel
theorem d_C_difference_70 : decode b_C_difference 70 = .ok (.iload_n 2, 1) := by decide +kernel
theorem d_C_difference_71 : decode b_C_difference 71 = .ok (.iaload, 1) := by decide +kernel
theorem d_C_difference_72 : decode b_C_difference 72 = .ok (.i2l, 1) := by decide +kernel
theorem d_C_difference_73 : decode b_C_difference 73 = .ok (.lmul, 1) := by decide +kernel
theorem d_C_difference_74 : decode b_C_difference 74 = .ok (.lstore 7, 2) := by decide +kernel
theorem d_C_difference_76 : decode b_C_difference 76 = .ok (.lload 5, 2) := by decide +kernel
theorem d_C_difference_78 : decode b_C_difference 78 = .ok (.lload 7, 2) := by decide +kernel
theorem d_C_difference_80 : decode b_C_difference 80 = .ok (.lcmp, 1) := by decide +kernel
theorem d_C_difference_81 : decode b_C_difference 81 = .ok (.ifCond .gt 5, 3) := by decide +kernel
theorem d_C_difference_84 : decode b_C_difference 84 = .ok (.iconst 0, 1) := by decide +kernel
theorem d_C_difference_85 : decode b_C_difference 85 = .ok (.ireturn, 1) := by decide +kernel
theorem d_C_difference_86 : decode b_C_difference 86 = .ok (.lload 5, 2) := by decide +kernel
theorem d_C_difference_88 : decode b_C_difference 88 = .ok (.ldc2_w 249, 3) := by decide +kernel
theorem d_C_difference_91 : decode b_C_difference 91 = .ok (.lload 7, 2) := by decide +kernel
theorem d_C_difference_93 : decode b_C_difference 93 = .ok (.lmul, 1) := by decide +kernel
theorem d_C_difference_94 : decode b_C_difference 94 = .ok (.lcmp, 1) := by decide +kernel
theorem d_C_difference_95 : decode b_C_difference 95 = .ok (.ifCond .le 7, 3) := by decide +kernel
theorem d_C_difference_98 : decode b_C_difference 98 = .ok (.iconst 2, 1) := by decide +kernel
theorem d_C_difference_99 : decode b_C_difference 99 = .ok (.goto 4, 3) := by decide +kernel
theorem d_C_difference_102 : decode b_C_difference 102 = .ok (.iconst 1, 1) := by decide +kernel
theorem d_C_difference_103 : decode b_C_difference 103 = .ok (.ireturn, 1) := by decide +kernel
abbrev b_C_isTaken : ByteArray := prog_1_method_22_code
def y_C_isTaken : MethodName := ⟨R_C, "isTaken", "(III)Z"⟩
theorem d_C_isTaken_0 : decode b_C_isTaken 0 = .ok (.iconst 0, 1) := by decide +kernel
theorem d_C_isTaken_1 : decode b_C_isTaken 1 = .ok (.istore 4, 2) := by decide +kernel
theorem d_C_isTaken_3 : decode b_C_isTaken 3 = .ok (.iload 4, 2) := by decide +kernel
theorem d_C_isTaken_5 : decode b_C_isTaken 5 = .ok (.aload_n 0, 1) := by decide +kernel
theorem d_C_isTaken_6 : decode b_C_isTaken 6 = .ok (.getfield 10, 3) := by decide +kernel
theorem d_C_isTaken_9 : decode b_C_isTaken 9 = .ok (.invokevirtual 80, 3) := by decide +kernel
theorem d_C_isTaken_12 : decode b_C_isTaken 12 = .ok (.if_icmp .ge 32, 3) := by decide +kernel
theorem d_C_isTaken_15 : decode b_C_isTaken 15 = .ok (.aload_n 0, 1) := by decide +kernel
theorem d_C_isTaken_16 : decode b_C_isTaken 16 = .ok (.getfield 10, 3) := by decide +kernel
theorem d_C_isTaken_19 : decode b_C_isTaken 19 = .ok (.iload 4, 2) := by decide +kernel
theorem d_C_isTaken_21 : decode b_C_isTaken 21 = .ok (.invokevirtual 105, 3) := by decide +kernel
theorem d_C_isTaken_24 : decode b_C_isTaken 24 = .ok (.checkcast 89, 3) := by decide +kernel
theorem d_C_isTaken_27 : decode b_C_isTaken 27 = .ok (.iload_n 1, 1) := by decide +kernel
theorem d_C_isTaken_28 : decode b_C_isTaken 28 = .ok (.iload_n 2, 1) := by decide +kernel
theorem d_C_isTaken_29 : decode b_C_isTaken 29 = .ok (.iload_n 3, 1) := by decide +kernel
theorem d_C_isTaken_30 : decode b_C_isTaken 30 = .ok (.invokevirtual 251, 3) := by decide +kernel
theorem d_C_isTaken_33 : decode b_C_isTaken 33 = .ok (.ifCond .eq 5, 3) := by decide +kernel
theorem d_C_isTaken_36 : decode b_C_isTaken 36 = .ok (.iconst 1, 1) := by decide +kernel
theorem d_C_isTaken_37 : decode b_C_isTaken 37 = .ok (.ireturn, 1) := by decide +kernel
theorem d_C_isTaken_38 : decode b_C_isTaken 38 = .ok (.iinc 4 1, 3) := by decide +kernel
theorem d_C_isTaken_41 : decode b_C_isTaken 41 = .ok (.goto (-38), 3) := by decide +kernel
theorem d_C_isTaken_44 : decode b_C_isTaken 44 = .ok (.iconst 0, 1) := by decide +kernel
theorem d_C_isTaken_45 : decode b_C_isTaken 45 = .ok (.ireturn, 1) := by decide +kernel
abbrev b_C_isBeingOpened : ByteArray := prog_1_method_23_code
def y_C_isBeingOpened : MethodName := ⟨R_C, "isBeingOpened", "(I)Z"⟩
theorem d_C_isBeingOpened_0 : decode b_C_isBeingOpened 0 = .ok (.iconst 0, 1) := by decide +kernel
theorem d_C_isBeingOpened_1 : decode b_C_isBeingOpened 1 = .ok (.istore_n 2, 1) := by decide +kernel
theorem d_C_isBeingOpened_2 : decode b_C_isBeingOpened 2 = .ok (.iload_n 2, 1) := by decide +kernel
theorem d_C_isBeingOpened_3 : decode b_C_isBeingOpened 3 = .ok (.aload_n 0, 1) := by decide +kernel
theorem d_C_isBeingOpened_4 : decode b_C_isBeingOpened 4 = .ok (.getfield 10, 3) := by decide +kernel
theorem d_C_isBeingOpened_7 : decode b_C_isBeingOpened 7 = .ok (.invokevirtual 80, 3) := by decide +kernel
theorem d_C_isBeingOpened_10 : decode b_C_isBeingOpened 10 = .ok (.if_icmp .ge 46, 3) := by decide +kernel
theorem d_C_isBeingOpened_13 : decode b_C_isBeingOpened 13 = .ok (.aload_n 0, 1) := by decide +kernel
theorem d_C_isBeingOpened_14 : decode b_C_isBeingOpened 14 = .ok (.getfield 10, 3) := by decide +kernel
theorem d_C_isBeingOpened_17 : decode b_C_isBeingOpened 17 = .ok (.iload_n 2, 1) := by decide +kernel
theorem d_C_isBeingOpened_18 : decode b_C_isBeingOpened 18 = .ok (.invokevirtual 105, 3) := by decide +kernel
theorem d_C_isBeingOpened_21 : decode b_C_isBeingOpened 21 = .ok (.checkcast 89, 3) := by decide +kernel
theorem d_C_isBeingOpened_24 : decode b_C_isBeingOpened 24 = .ok (.astore_n 3, 1) := by decide +kernel
theorem d_C_isBeingOpened_25 : decode b_C_isBeingOpened 25 = .ok (.aload_n 3, 1) := by decide +kernel
theorem d_C_isBeingOpened_26 : decode b_C_isBeingOpened 26 = .ok (.getfield 133, 3) := by decide +kernel
theorem d_C_isBeingOpened_29 : decode b_C_isBeingOpened 29 = .ok (.iload_n 1, 1) := by decide +kernel
theorem d_C_isBeingOpened_30 : decode b_C_isBeingOpened 30 = .ok (.if_icmp .ne 20, 3) := by decide +kernel
theorem d_C_isBeingOpened_33 : decode b_C_isBeingOpened 33 = .ok (.aload_n 3, 1) := by decide +kernel
theorem d_C_isBeingOpened_34 : decode b_C_isBeingOpened 34 = .ok (.invokevirtual 136, 3) := by decide +kernel
theorem d_C_isBeingOpened_37 : decode b_C_isBeingOpened 37 = .ok (.ifCond .eq 13, 3) := by decide +kernel
theorem d_C_isBeingOpened_40 : decode b_C_isBeingOpened 40 = .ok (.aload_n 3, 1) := by decide +kernel
theorem d_C_isBeingOpened_41 : decode b_C_isBeingOpened 41 = .ok (.getfield 127, 3) := by decide +kernel
theorem d_C_isBeingOpened_44 : decode b_C_isBeingOpened 44 = .ok (.iconst 2, 1) := by decide +kernel
theorem d_C_isBeingOpened_45 : decode b_C_isBeingOpened 45 = .ok (.if_icmp .ne 5, 3) := by decide +kernel
theorem d_C_isBeingOpened_48 : decode b_C_isBeingOpened 48 = .ok (.iconst 1, 1) := by decide +kernel
theorem d_C_isBeingOpened_49 : decode b_C_isBeingOpened 49 = .ok (.ireturn, 1) := by decide +kernel
theorem d_C_isBeingOpened_50 : decode b_C_isBeingOpened 50 = .ok (.iinc 2 1, 3) := by decide +kernel
theorem d_C_isBeingOpened_53 : decode b_C_isBeingOpened 53 = .ok (.goto (-51), 3) := by decide +kernel
theorem d_C_isBeingOpened_56 : decode b_C_isBeingOpened 56 = .ok (.iconst 0, 1) := by decide +kernel
theorem d_C_isBeingOpened_57 : decode b_C_isBeingOpened 57 = .ok (.ireturn, 1) := by decide +kernel
abbrev b_C_hasPendingInspection : ByteArray := prog_1_method_24_code
def y_C_hasPendingInspection : MethodName := ⟨R_C, "hasPendingInspection", "(I)Z"⟩
theorem d_C_hasPendingInspection_0 : decode b_C_hasPendingInspection 0 = .ok (.iconst 0, 1) := by decide +kernel
theorem d_C_hasPendingInspection_1 : decode b_C_hasPendingInspection 1 = .ok (.istore_n 2, 1) := by decide +kernel
theorem d_C_hasPendingInspection_2 : decode b_C_hasPendingInspection 2 = .ok (.iload_n 2, 1) := by decide +kernel
theorem d_C_hasPendingInspection_3 : decode b_C_hasPendingInspection 3 = .ok (.aload_n 0, 1) := by decide +kernel
theorem d_C_hasPendingInspection_4 : decode b_C_hasPendingInspection 4 = .ok (.getfield 10, 3) := by decide +kernel
theorem d_C_hasPendingInspection_7 : decode b_C_hasPendingInspection 7 = .ok (.invokevirtual 80, 3) := by decide +kernel
theorem d_C_hasPendingInspection_10 : decode b_C_hasPendingInspection 10 = .ok (.if_icmp .ge 38, 3) := by decide +kernel
theorem d_C_hasPendingInspection_13 : decode b_C_hasPendingInspection 13 = .ok (.aload_n 0, 1) := by decide +kernel
theorem d_C_hasPendingInspection_14 : decode b_C_hasPendingInspection 14 = .ok (.getfield 10, 3) := by decide +kernel
theorem d_C_hasPendingInspection_17 : decode b_C_hasPendingInspection 17 = .ok (.iload_n 2, 1) := by decide +kernel
theorem d_C_hasPendingInspection_18 : decode b_C_hasPendingInspection 18 = .ok (.invokevirtual 105, 3) := by decide +kernel
theorem d_C_hasPendingInspection_21 : decode b_C_hasPendingInspection 21 = .ok (.checkcast 89, 3) := by decide +kernel
theorem d_C_hasPendingInspection_24 : decode b_C_hasPendingInspection 24 = .ok (.astore_n 3, 1) := by decide +kernel
theorem d_C_hasPendingInspection_25 : decode b_C_hasPendingInspection 25 = .ok (.aload_n 3, 1) := by decide +kernel
theorem d_C_hasPendingInspection_26 : decode b_C_hasPendingInspection 26 = .ok (.getfield 133, 3) := by decide +kernel
theorem d_C_hasPendingInspection_29 : decode b_C_hasPendingInspection 29 = .ok (.iload_n 1, 1) := by decide +kernel
theorem d_C_hasPendingInspection_30 : decode b_C_hasPendingInspection 30 = .ok (.if_icmp .ne 12, 3) := by decide +kernel
theorem d_C_hasPendingInspection_33 : decode b_C_hasPendingInspection 33 = .ok (.aload_n 3, 1) := by decide +kernel
theorem d_C_hasPendingInspection_34 : decode b_C_hasPendingInspection 34 = .ok (.invokevirtual 254, 3) := by decide +kernel
theorem d_C_hasPendingInspection_37 : decode b_C_hasPendingInspection 37 = .ok (.ifCond .eq 5, 3) := by decide +kernel
theorem d_C_hasPendingInspection_40 : decode b_C_hasPendingInspection 40 = .ok (.iconst 1, 1) := by decide +kernel
theorem d_C_hasPendingInspection_41 : decode b_C_hasPendingInspection 41 = .ok (.ireturn, 1) := by decide +kernel
theorem d_C_hasPendingInspection_42 : decode b_C_hasPendingInspection 42 = .ok (.iinc 2 1, 3) := by decide +kernel
theorem d_C_hasPendingInspection_45 : decode b_C_hasPendingInspection 45 = .ok (.goto (-43), 3) := by decide +kernel
theorem d_C_hasPendingInspection_48 : decode b_C_hasPendingInspection 48 = .ok (.iconst 0, 1) := by decide +kernel
theorem d_C_hasPendingInspection_49 : decode b_C_hasPendingInspection 49 = .ok (.ireturn, 1) := by decide +kernel
abbrev b_C_hasSampleWithoutResult : ByteArray := prog_1_method_25_code
def y_C_hasSampleWithoutResult : MethodName := ⟨R_C, "hasSampleWithoutResult", "(I)Z"⟩
theorem d_C_hasSampleWithoutResult_0 : decode b_C_hasSampleWithoutResult 0 = .ok (.iconst 0, 1) := by decide +kernel
theorem d_C_hasSampleWithoutResult_1 : decode b_C_hasSampleWithoutResult 1 = .ok (.istore_n 2, 1) := by decide +kernel
theorem d_C_hasSampleWithoutResult_2 : decode b_C_hasSampleWithoutResult 2 = .ok (.iload_n 2, 1) := by decide +kernel
theorem d_C_hasSampleWithoutResult_3 : decode b_C_hasSampleWithoutResult 3 = .ok (.aload_n 0, 1) := by decide +kernel
theorem d_C_hasSampleWithoutResult_4 : decode b_C_hasSampleWithoutResult 4 = .ok (.getfield 16, 3) := by decide +kernel
theorem d_C_hasSampleWithoutResult_7 : decode b_C_hasSampleWithoutResult 7 = .ok (.invokevirtual 80, 3) := by decide +kernel
theorem d_C_hasSampleWithoutResult_10 : decode b_C_hasSampleWithoutResult 10 = .ok (.if_icmp .ge 38, 3) := by decide +kernel
theorem d_C_hasSampleWithoutResult_13 : decode b_C_hasSampleWithoutResult 13 = .ok (.aload_n 0, 1) := by decide +kernel
theorem d_C_hasSampleWithoutResult_14 : decode b_C_hasSampleWithoutResult 14 = .ok (.getfield 16, 3) := by decide +kernel
theorem d_C_hasSampleWithoutResult_17 : decode b_C_hasSampleWithoutResult 17 = .ok (.iload_n 2, 1) := by decide +kernel
theorem d_C_hasSampleWithoutResult_18 : decode b_C_hasSampleWithoutResult 18 = .ok (.invokevirtual 105, 3) := by decide +kernel
theorem d_C_hasSampleWithoutResult_21 : decode b_C_hasSampleWithoutResult 21 = .ok (.checkcast 159, 3) := by decide +kernel
theorem d_C_hasSampleWithoutResult_24 : decode b_C_hasSampleWithoutResult 24 = .ok (.astore_n 3, 1) := by decide +kernel
theorem d_C_hasSampleWithoutResult_25 : decode b_C_hasSampleWithoutResult 25 = .ok (.aload_n 3, 1) := by decide +kernel
theorem d_C_hasSampleWithoutResult_26 : decode b_C_hasSampleWithoutResult 26 = .ok (.getfield 196, 3) := by decide +kernel
theorem d_C_hasSampleWithoutResult_29 : decode b_C_hasSampleWithoutResult 29 = .ok (.iload_n 1, 1) := by decide +kernel
theorem d_C_hasSampleWithoutResult_30 : decode b_C_hasSampleWithoutResult 30 = .ok (.if_icmp .ne 12, 3) := by decide +kernel
theorem d_C_hasSampleWithoutResult_33 : decode b_C_hasSampleWithoutResult 33 = .ok (.aload_n 3, 1) := by decide +kernel
theorem d_C_hasSampleWithoutResult_34 : decode b_C_hasSampleWithoutResult 34 = .ok (.invokevirtual 257, 3) := by decide +kernel
theorem d_C_hasSampleWithoutResult_37 : decode b_C_hasSampleWithoutResult 37 = .ok (.ifCond .ne 5, 3) := by decide +kernel
theorem d_C_hasSampleWithoutResult_40 : decode b_C_hasSampleWithoutResult 40 = .ok (.iconst 1, 1) := by decide +kernel
theorem d_C_hasSampleWithoutResult_41 : decode b_C_hasSampleWithoutResult 41 = .ok (.ireturn, 1) := by decide +kernel
theorem d_C_hasSampleWithoutResult_42 : decode b_C_hasSampleWithoutResult 42 = .ok (.iinc 2 1, 3) := by decide +kernel
theorem d_C_hasSampleWithoutResult_45 : decode b_C_hasSampleWithoutResult 45 = .ok (.goto (-43), 3) := by decide +kernel
theorem d_C_hasSampleWithoutResult_48 : decode b_C_hasSampleWithoutResult 48 = .ok (.iconst 0, 1) := by decide +kernel
theorem d_C_hasSampleWithoutResult_49 : decode b_C_hasSampleWithoutResult 49 = .ok (.ireturn, 1) := by decide +kernel
abbrev b_C_isSealOfSample : ByteArray := prog_1_method_26_code
def y_C_isSealOfSample : MethodName := ⟨R_C, "isSealOfSample", "(I)Z"⟩
theorem d_C_isSealOfSample_0 : decode b_C_isSealOfSample 0 = .ok (.iconst 0, 1) := by decide +kernel
theorem d_C_isSealOfSample_1 : decode b_C_isSealOfSample 1 = .ok (.istore_n 2, 1) := by decide +kernel
theorem d_C_isSealOfSample_2 : decode b_C_isSealOfSample 2 = .ok (.iload_n 2, 1) := by decide +kernel
theorem d_C_isSealOfSample_3 : decode b_C_isSealOfSample 3 = .ok (.aload_n 0, 1) := by decide +kernel
theorem d_C_isSealOfSample_4 : decode b_C_isSealOfSample 4 = .ok (.getfield 16, 3) := by decide +kernel
theorem d_C_isSealOfSample_7 : decode b_C_isSealOfSample 7 = .ok (.invokevirtual 80, 3) := by decide +kernel
theorem d_C_isSealOfSample_10 : decode b_C_isSealOfSample 10 = .ok (.if_icmp .ge 29, 3) := by decide +kernel
theorem d_C_isSealOfSample_13 : decode b_C_isSealOfSample 13 = .ok (.aload_n 0, 1) := by decide +kernel
theorem d_C_isSealOfSample_14 : decode b_C_isSealOfSample 14 = .ok (.getfield 16, 3) := by decide +kernel
theorem d_C_isSealOfSample_17 : decode b_C_isSealOfSample 17 = .ok (.iload_n 2, 1) := by decide +kernel
theorem d_C_isSealOfSample_18 : decode b_C_isSealOfSample 18 = .ok (.invokevirtual 105, 3) := by decide +kernel
theorem d_C_isSealOfSample_21 : decode b_C_isSealOfSample 21 = .ok (.checkcast 159, 3) := by decide +kernel
theorem d_C_isSealOfSample_24 : decode b_C_isSealOfSample 24 = .ok (.getfield 180, 3) := by decide +kernel
theorem d_C_isSealOfSample_27 : decode b_C_isSealOfSample 27 = .ok (.iload_n 1, 1) := by decide +kernel
theorem d_C_isSealOfSample_28 : decode b_C_isSealOfSample 28 = .ok (.if_icmp .ne 5, 3) := by decide +kernel
theorem d_C_isSealOfSample_31 : decode b_C_isSealOfSample 31 = .ok (.iconst 1, 1) := by decide +kernel
theorem d_C_isSealOfSample_32 : decode b_C_isSealOfSample 32 = .ok (.ireturn, 1) := by decide +kernel
theorem d_C_isSealOfSample_33 : decode b_C_isSealOfSample 33 = .ok (.iinc 2 1, 3) := by decide +kernel
theorem d_C_isSealOfSample_36 : decode b_C_isSealOfSample 36 = .ok (.goto (-34), 3) := by decide +kernel
theorem d_C_isSealOfSample_39 : decode b_C_isSealOfSample 39 = .ok (.iconst 0, 1) := by decide +kernel
theorem d_C_isSealOfSample_40 : decode b_C_isSealOfSample 40 = .ok (.ireturn, 1) := by decide +kernel
abbrev b_C_isInspection : ByteArray := prog_1_method_27_code
def y_C_isInspection : MethodName := ⟨R_C, "isInspection", "(I)Z"⟩
theorem d_C_isInspection_0 : decode b_C_isInspection 0 = .ok (.iload_n 1, 1) := by decide +kernel
theorem d_C_isInspection_1 : decode b_C_isInspection 1 = .ok (.iconst 0, 1) := by decide +kernel
theorem d_C_isInspection_2 : decode b_C_isInspection 2 = .ok (.aload_n 0, 1) := by decide +kernel
theorem d_C_isInspection_3 : decode b_C_isInspection 3 = .ok (.getfield 10, 3) := by decide +kernel
theorem d_C_isInspection_6 : decode b_C_isInspection 6 = .ok (.invokevirtual 80, 3) := by decide +kernel
theorem d_C_isInspection_9 : decode b_C_isInspection 9 = .ok (.iconst 1, 1) := by decide +kernel
theorem d_C_isInspection_10 : decode b_C_isInspection 10 = .ok (.isub, 1) := by decide +kernel
theorem d_C_isInspection_11 : decode b_C_isInspection 11 = .ok (.invokestatic 57, 3) := by decide +kernel
theorem d_C_isInspection_14 : decode b_C_isInspection 14 = .ok (.ireturn, 1) := by decide +kernel
abbrev b_C_isTimeToCome : ByteArray := prog_1_method_28_code
def y_C_isTimeToCome : MethodName := ⟨R_C, "isTimeToCome", "(I)Z"⟩
theorem d_C_isTimeToCome_0 : decode b_C_isTimeToCome 0 = .ok (.iload_n 1, 1) := by decide +kernel
theorem d_C_isTimeToCome_1 : decode b_C_isTimeToCome 1 = .ok (.aload_n 0, 1) := by decide +kernel
theorem d_C_isTimeToCome_2 : decode b_C_isTimeToCome 2 = .ok (.getfield 43, 3) := by decide +kernel
theorem d_C_isTimeToCome_5 : decode b_C_isTimeToCome 5 = .ok (.ldc_w 260, 3) := by decide +kernel
theorem d_C_isTimeToCome_8 : decode b_C_isTimeToCome 8 = .ok (.invokestatic 57, 3) := by decide +kernel
theorem d_C_isTimeToCome_11 : decode b_C_isTimeToCome 11 = .ok (.ireturn, 1) := by decide +kernel
abbrev b_C_mayDo : ByteArray := prog_1_method_29_code
def y_C_mayDo : MethodName := ⟨R_C, "mayDo", "(II)Z"⟩
theorem d_C_mayDo_0 : decode b_C_mayDo 0 = .ok (.iload_n 1, 1) := by decide +kernel
theorem d_C_mayDo_1 : decode b_C_mayDo 1 = .ok (.invokestatic 53, 3) := by decide +kernel
theorem d_C_mayDo_4 : decode b_C_mayDo 4 = .ok (.ifCond .eq 20, 3) := by decide +kernel
theorem d_C_mayDo_7 : decode b_C_mayDo 7 = .ok (.aload_n 0, 1) := by decide +kernel
theorem d_C_mayDo_8 : decode b_C_mayDo 8 = .ok (.getfield 19, 3) := by decide +kernel
theorem d_C_mayDo_11 : decode b_C_mayDo 11 = .ok (.iload_n 1, 1) := by decide +kernel
theorem d_C_mayDo_12 : decode b_C_mayDo 12 = .ok (.iaload, 1) := by decide +kernel
theorem d_C_mayDo_13 : decode b_C_mayDo 13 = .ok (.iload_n 2, 1) := by decide +kernel
theorem d_C_mayDo_14 : decode b_C_mayDo 14 = .ok (.invokestatic 187, 3) := by decide +kernel
theorem d_C_mayDo_17 : decode b_C_mayDo 17 = .ok (.ifCond .eq 7, 3) := by decide +kernel
theorem d_C_mayDo_20 : decode b_C_mayDo 20 = .ok (.iconst 1, 1) := by decide +kernel
theorem d_C_mayDo_21 : decode b_C_mayDo 21 = .ok (.goto 4, 3) := by decide +kernel
theorem d_C_mayDo_24 : decode b_C_mayDo 24 = .ok (.iconst 0, 1) := by decide +kernel
theorem d_C_mayDo_25 : decode b_C_mayDo 25 = .ok (.ireturn, 1) := by decide +kernel
abbrev b_C_isDeclaration : ByteArray := prog_1_method_30_code
def y_C_isDeclaration : MethodName := ⟨R_C, "isDeclaration", "(I)Z"⟩
theorem d_C_isDeclaration_0 : decode b_C_isDeclaration 0 = .ok (.iload_n 0, 1) := by decide +kernel
theorem d_C_isDeclaration_1 : decode b_C_isDeclaration 1 = .ok (.iconst 0, 1) := by decide +kernel
theorem d_C_isDeclaration_2 : decode b_C_isDeclaration 2 = .ok (.bipush 9, 2) := by decide +kernel
theorem d_C_isDeclaration_4 : decode b_C_isDeclaration 4 = .ok (.invokestatic 57, 3) := by decide +kernel
theorem d_C_isDeclaration_7 : decode b_C_isDeclaration 7 = .ok (.ireturn, 1) := by decide +kernel
abbrev b_C_isPerson : ByteArray := prog_1_method_31_code
def y_C_isPerson : MethodName := ⟨R_C, "isPerson", "(I)Z"⟩
theorem d_C_isPerson_0 : decode b_C_isPerson 0 = .ok (.iload_n 0, 1) := by decide +kernel
theorem d_C_isPerson_1 : decode b_C_isPerson 1 = .ok (.iconst 0, 1) := by decide +kernel
theorem d_C_isPerson_2 : decode b_C_isPerson 2 = .ok (.bipush 9, 2) := by decide +kernel
theorem d_C_isPerson_4 : decode b_C_isPerson 4 = .ok (.invokestatic 57, 3) := by decide +kernel
theorem d_C_isPerson_7 : decode b_C_isPerson 7 = .ok (.ireturn, 1) := by decide +kernel
abbrev b_C_isMeasure : ByteArray := prog_1_method_32_code
def y_C_isMeasure : MethodName := ⟨R_C, "isMeasure", "(I)Z"⟩
theorem d_C_isMeasure_0 : decode b_C_isMeasure 0 = .ok (.iload_n 0, 1) := by decide +kernel
theorem d_C_isMeasure_1 : decode b_C_isMeasure 1 = .ok (.iconst 0, 1) := by decide +kernel
theorem d_C_isMeasure_2 : decode b_C_isMeasure 2 = .ok (.iconst 3, 1) := by decide +kernel
theorem d_C_isMeasure_3 : decode b_C_isMeasure 3 = .ok (.invokestatic 57, 3) := by decide +kernel
theorem d_C_isMeasure_6 : decode b_C_isMeasure 6 = .ok (.ireturn, 1) := by decide +kernel
abbrev b_C_isSeal : ByteArray := prog_1_method_33_code
def y_C_isSeal : MethodName := ⟨R_C, "isSeal", "(I)Z"⟩
theorem d_C_isSeal_0 : decode b_C_isSeal 0 = .ok (.iload_n 0, 1) := by decide +kernel
theorem d_C_isSeal_1 : decode b_C_isSeal 1 = .ok (.iconst 1, 1) := by decide +kernel
theorem d_C_isSeal_2 : decode b_C_isSeal 2 = .ok (.ldc_w 261, 3) := by decide +kernel
theorem d_C_isSeal_5 : decode b_C_isSeal 5 = .ok (.invokestatic 57, 3) := by decide +kernel
theorem d_C_isSeal_8 : decode b_C_isSeal 8 = .ok (.ireturn, 1) := by decide +kernel
abbrev b_C_isValue : ByteArray := prog_1_method_34_code
def y_C_isValue : MethodName := ⟨R_C, "isValue", "(I)Z"⟩
theorem d_C_isValue_0 : decode b_C_isValue 0 = .ok (.iload_n 0, 1) := by decide +kernel
theorem d_C_isValue_1 : decode b_C_isValue 1 = .ok (.iconst 0, 1) := by decide +kernel
theorem d_C_isValue_2 : decode b_C_isValue 2 = .ok (.ldc_w 261, 3) := by decide +kernel
theorem d_C_isValue_5 : decode b_C_isValue 5 = .ok (.invokestatic 57, 3) := by decide +kernel
theorem d_C_isValue_8 : decode b_C_isValue 8 = .ok (.ireturn, 1) := by decide +kernel
abbrev b_C_isWithin : ByteArray := prog_1_method_35_code
def y_C_isWithin : MethodName := ⟨R_C, "isWithin", "(III)Z"⟩
theorem d_C_isWithin_0 : decode b_C_isWithin 0 = .ok (.iload_n 1, 1) := by decide +kernel
theorem d_C_isWithin_1 : decode b_C_isWithin 1 = .ok (.iload_n 0, 1) := by decide +kernel
theorem d_C_isWithin_2 : decode b_C_isWithin 2 = .ok (.if_icmp .gt 12, 3) := by decide +kernel
theorem d_C_isWithin_5 : decode b_C_isWithin 5 = .ok (.iload_n 0, 1) := by decide +kernel
theorem d_C_isWithin_6 : decode b_C_isWithin 6 = .ok (.iload_n 2, 1) := by decide +kernel
theorem d_C_isWithin_7 : decode b_C_isWithin 7 = .ok (.if_icmp .gt 7, 3) := by decide +kernel
theorem d_C_isWithin_10 : decode b_C_isWithin 10 = .ok (.iconst 1, 1) := by decide +kernel
theorem d_C_isWithin_11 : decode b_C_isWithin 11 = .ok (.goto 4, 3) := by decide +kernel
theorem d_C_isWithin_14 : decode b_C_isWithin 14 = .ok (.iconst 0, 1) := by decide +kernel
theorem d_C_isWithin_15 : decode b_C_isWithin 15 = .ok (.ireturn, 1) := by decide +kernel
abbrev b_C_hasBit : ByteArray := prog_1_method_36_code
def y_C_hasBit : MethodName := ⟨R_C, "hasBit", "(II)Z"⟩
theorem d_C_hasBit_0 : decode b_C_hasBit 0 = .ok (.iload_n 0, 1) := by decide +kernel
theorem d_C_hasBit_1 : decode b_C_hasBit 1 = .ok (.iload_n 1, 1) := by decide +kernel
theorem d_C_hasBit_2 : decode b_C_hasBit 2 = .ok (.ishr, 1) := by decide +kernel
theorem d_C_hasBit_3 : decode b_C_hasBit 3 = .ok (.iconst 1, 1) := by decide +kernel
theorem d_C_hasBit_4 : decode b_C_hasBit 4 = .ok (.iand, 1) := by decide +kernel
theorem d_C_hasBit_5 : decode b_C_hasBit 5 = .ok (.iconst 1, 1) := by decide +kernel
theorem d_C_hasBit_6 : decode b_C_hasBit 6 = .ok (.if_icmp .ne 7, 3) := by decide +kernel
theorem d_C_hasBit_9 : decode b_C_hasBit 9 = .ok (.iconst 1, 1) := by decide +kernel
theorem d_C_hasBit_10 : decode b_C_hasBit 10 = .ok (.goto 4, 3) := by decide +kernel
theorem d_C_hasBit_13 : decode b_C_hasBit 13 = .ok (.iconst 0, 1) := by decide +kernel
theorem d_C_hasBit_14 : decode b_C_hasBit 14 = .ok (.ireturn, 1) := by decide +kernel
