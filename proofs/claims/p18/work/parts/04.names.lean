def R_I : String := "InspectSteps$Inspection"
def F_I : u_T := fun k => match k with
  | 0 => ("InspectSteps$Inspection", "declaration", "I", true)
  | 1 => ("InspectSteps$Inspection", "kind", "I", true)
  | 2 => ("InspectSteps$Inspection", "due", "I", true)
  | 3 => ("InspectSteps$Inspection", "state", "I", false)
  | 4 => ("InspectSteps$Inspection", "level", "I", false)
  | 5 => ("InspectSteps$Inspection", "place", "I", false)
  | 6 => ("InspectSteps$Inspection", "from", "I", false)
  | 7 => ("InspectSteps$Inspection", "to", "I", false)
  | 8 => ("InspectSteps$Inspection", "person", "I", false)
  | _ => ("InspectSteps$Inspection", "sampleCount", "I", false)
def T_I : Nat → FieldType := fun k => match k with
  | 0 => .int
  | 1 => .int
  | 2 => .int
  | 3 => .int
  | 4 => .int
  | 5 => .int
  | 6 => .int
  | 7 => .int
  | 8 => .int
  | _ => .int
theorem n_I : ∀ a, a < 10 → ∀ b, b < 10 → a ≠ b → (F_I a).2.1 ≠ (F_I b).2.1 := by decide +kernel
theorem T_I_ok : ∀ k, k < 10 → parseFieldDescriptor (F_I k).2.2.1 = some (T_I k) := by decide +kernel
def R_S : String := "InspectSteps$Sample"
def F_S : u_T := fun k => match k with
  | 0 => ("InspectSteps$Sample", "declaration", "I", true)
  | 1 => ("InspectSteps$Sample", "seal", "I", true)
  | 2 => ("InspectSteps$Sample", "found", "[I", true)
  | _ => ("InspectSteps$Sample", "settled", "[Z", true)
def T_S : Nat → FieldType := fun k => match k with
  | 0 => .int
  | 1 => .int
  | 2 => .array .int
  | _ => .array .boolean
theorem n_S : ∀ a, a < 4 → ∀ b, b < 4 → a ≠ b → (F_S a).2.1 ≠ (F_S b).2.1 := by decide +kernel
theorem T_S_ok : ∀ k, k < 4 → parseFieldDescriptor (F_S k).2.2.1 = some (T_S k) := by decide +kernel
def R_C : String := "InspectSteps"
def F_C : u_T := fun k => match k with
  | 0 => ("InspectSteps", "inspections", "Ljava/util/ArrayList;", true)
  | 1 => ("InspectSteps", "samples", "Ljava/util/ArrayList;", true)
  | 2 => ("InspectSteps", "rights", "[I", true)
  | 3 => ("InspectSteps", "sealNumbers", "[I", true)
  | 4 => ("InspectSteps", "holders", "[I", true)
  | 5 => ("InspectSteps", "costs", "[I", true)
  | 6 => ("InspectSteps", "declaredValues", "[[I", true)
  | 7 => ("InspectSteps", "thousandthsUp", "[I", true)
  | 8 => ("InspectSteps", "thousandthsDown", "[I", true)
  | _ => ("InspectSteps", "now", "I", false)
def T_C : Nat → FieldType := fun k => match k with
  | 0 => .object "java/util/ArrayList"
  | 1 => .object "java/util/ArrayList"
  | 2 => .array .int
  | 3 => .array .int
  | 4 => .array .int
  | 5 => .array .int
  | 6 => .array (.array .int)
  | 7 => .array .int
  | 8 => .array .int
  | _ => .int
theorem n_C : ∀ a, a < 10 → ∀ b, b < 10 → a ≠ b → (F_C a).2.1 ≠ (F_C b).2.1 := by decide +kernel
theorem T_C_ok : ∀ k, k < 10 → parseFieldDescriptor (F_C k).2.2.1 = some (T_C k) := by decide +kernel
def R_M : String := "InspectStepsModel"
def F_M : u_T := fun k => match k with
  | 0 => ("InspectStepsModel", "thrown", "I", false)
  | 1 => ("InspectStepsModel", "size", "I", false)
  | 2 => ("InspectStepsModel", "samples", "I", false)
  | 3 => ("InspectStepsModel", "now", "I", false)
  | 4 => ("InspectStepsModel", "rights", "[Z", true)
  | 5 => ("InspectStepsModel", "ofDeclaration", "[I", true)
  | 6 => ("InspectStepsModel", "kindOf", "[I", true)
  | 7 => ("InspectStepsModel", "dueOf", "[I", true)
  | 8 => ("InspectStepsModel", "stateOf", "[I", true)
  | 9 => ("InspectStepsModel", "levelOf", "[I", true)
  | 10 => ("InspectStepsModel", "placeOf", "[I", true)
  | 11 => ("InspectStepsModel", "fromOf", "[I", true)
  | 12 => ("InspectStepsModel", "toOf", "[I", true)
  | 13 => ("InspectStepsModel", "byOf", "[I", true)
  | 14 => ("InspectStepsModel", "begunOf", "[I", true)
  | 15 => ("InspectStepsModel", "sealOf", "[I", true)
  | 16 => ("InspectStepsModel", "isBroken", "[Z", true)
  | 17 => ("InspectStepsModel", "holdsOf", "[I", true)
  | 18 => ("InspectStepsModel", "declaredOf", "[I", true)
  | 19 => ("InspectStepsModel", "sampleOf", "[I", true)
  | 20 => ("InspectStepsModel", "sampleSeal", "[I", true)
  | 21 => ("InspectStepsModel", "foundOf", "[I", true)
  | 22 => ("InspectStepsModel", "isSettled", "[Z", true)
  | 23 => ("InspectStepsModel", "upOf", "[I", true)
  | _ => ("InspectStepsModel", "downOf", "[I", true)
def T_M : Nat → FieldType := fun k => match k with
  | 0 => .int
  | 1 => .int
  | 2 => .int
  | 3 => .int
  | 4 => .array .boolean
  | 5 => .array .int
  | 6 => .array .int
  | 7 => .array .int
  | 8 => .array .int
  | 9 => .array .int
  | 10 => .array .int
  | 11 => .array .int
  | 12 => .array .int
  | 13 => .array .int
  | 14 => .array .int
  | 15 => .array .int
  | 16 => .array .boolean
  | 17 => .array .int
  | 18 => .array .int
  | 19 => .array .int
  | 20 => .array .int
  | 21 => .array .int
  | 22 => .array .boolean
  | 23 => .array .int
  | _ => .array .int
theorem n_M : ∀ a, a < 25 → ∀ b, b < 25 → a ≠ b → (F_M a).2.1 ≠ (F_M b).2.1 := by decide +kernel
theorem T_M_ok : ∀ k, k < 25 → parseFieldDescriptor (F_M k).2.2.1 = some (T_M k) := by decide +kernel
def R_L : String := "InspectStepsLaw"
def R_Al : String := "java/util/ArrayList"
def F_Al : u_T := fun k => match k with
  | 0 => ("java/util/ArrayList", "elementData", "[Ljava/lang/Object;", false)
  | 1 => ("java/util/ArrayList", "size", "I", false)
  | _ => ("java/util/AbstractList", "modCount", "I", false)
def T_Al : Nat → FieldType := fun k => match k with
  | 0 => .array (.object "java/lang/Object")
  | 1 => .int
  | _ => .int
theorem n_Al : ∀ a, a < 3 → ∀ b, b < 3 → a ≠ b → (F_Al a).2.1 ≠ (F_Al b).2.1 := by decide +kernel
theorem T_Al_ok : ∀ k, k < 3 → parseFieldDescriptor (F_Al k).2.2.1 = some (T_Al k) := by decide +kernel
def R_Ab : String := "java/util/AbstractList"
def R_Ac : String := "java/util/AbstractCollection"
def R_Ar : String := "java/util/Arrays"
def R_Ob : String := "java/util/Objects"
def R_Pr : String := "jdk/internal/util/Preconditions"
def R_As : String := "jdk/internal/util/ArraysSupport"
def R_Ma : String := "java/lang/Math"
abbrev b_I_init : ByteArray := prog_2_method_1_code
def y_I_init : MethodName := ⟨R_I, "<init>", "(III)V"⟩
theorem d_I_init_0 : decode b_I_init 0 = .ok (.aload_n 0, 1) := by decide +kernel
theorem d_I_init_1 : decode b_I_init 1 = .ok (.invokespecial 3, 3) := by decide +kernel
theorem d_I_init_4 : decode b_I_init 4 = .ok (.aload_n 0, 1) := by decide +kernel
theorem d_I_init_5 : decode b_I_init 5 = .ok (.iconst 0, 1) := by decide +kernel
theorem d_I_init_6 : decode b_I_init 6 = .ok (.putfield 9, 3) := by decide +kernel
theorem d_I_init_9 : decode b_I_init 9 = .ok (.aload_n 0, 1) := by decide +kernel
theorem d_I_init_10 : decode b_I_init 10 = .ok (.iconst 0, 1) := by decide +kernel
theorem d_I_init_11 : decode b_I_init 11 = .ok (.putfield 15, 3) := by decide +kernel
theorem d_I_init_14 : decode b_I_init 14 = .ok (.aload_n 0, 1) := by decide +kernel
theorem d_I_init_15 : decode b_I_init 15 = .ok (.iconst (-1), 1) := by decide +kernel
theorem d_I_init_16 : decode b_I_init 16 = .ok (.putfield 18, 3) := by decide +kernel
theorem d_I_init_19 : decode b_I_init 19 = .ok (.aload_n 0, 1) := by decide +kernel
theorem d_I_init_20 : decode b_I_init 20 = .ok (.iconst (-1), 1) := by decide +kernel
theorem d_I_init_21 : decode b_I_init 21 = .ok (.putfield 21, 3) := by decide +kernel
theorem d_I_init_24 : decode b_I_init 24 = .ok (.aload_n 0, 1) := by decide +kernel
theorem d_I_init_25 : decode b_I_init 25 = .ok (.iconst (-1), 1) := by decide +kernel
theorem d_I_init_26 : decode b_I_init 26 = .ok (.putfield 24, 3) := by decide +kernel
theorem d_I_init_29 : decode b_I_init 29 = .ok (.aload_n 0, 1) := by decide +kernel
theorem d_I_init_30 : decode b_I_init 30 = .ok (.iconst (-1), 1) := by decide +kernel
theorem d_I_init_31 : decode b_I_init 31 = .ok (.putfield 27, 3) := by decide +kernel
theorem d_I_init_34 : decode b_I_init 34 = .ok (.aload_n 0, 1) := by decide +kernel
theorem d_I_init_35 : decode b_I_init 35 = .ok (.iconst 0, 1) := by decide +kernel
theorem d_I_init_36 : decode b_I_init 36 = .ok (.putfield 30, 3) := by decide +kernel
theorem d_I_init_39 : decode b_I_init 39 = .ok (.aload_n 0, 1) := by decide +kernel
theorem d_I_init_40 : decode b_I_init 40 = .ok (.iload_n 1, 1) := by decide +kernel
theorem d_I_init_41 : decode b_I_init 41 = .ok (.putfield 33, 3) := by decide +kernel
theorem d_I_init_44 : decode b_I_init 44 = .ok (.aload_n 0, 1) := by decide +kernel
theorem d_I_init_45 : decode b_I_init 45 = .ok (.iload_n 2, 1) := by decide +kernel
theorem d_I_init_46 : decode b_I_init 46 = .ok (.putfield 36, 3) := by decide +kernel
theorem d_I_init_49 : decode b_I_init 49 = .ok (.aload_n 0, 1) := by decide +kernel
theorem d_I_init_50 : decode b_I_init 50 = .ok (.iload_n 3, 1) := by decide +kernel
theorem d_I_init_51 : decode b_I_init 51 = .ok (.putfield 39, 3) := by decide +kernel
theorem d_I_init_54 : decode b_I_init 54 = .ok (.return_, 1) := by decide +kernel
abbrev b_I_isOpening : ByteArray := prog_2_method_2_code
def y_I_isOpening : MethodName := ⟨R_I, "isOpening", "()Z"⟩
theorem d_I_isOpening_0 : decode b_I_isOpening 0 = .ok (.aload_n 0, 1) := by decide +kernel
theorem d_I_isOpening_1 : decode b_I_isOpening 1 = .ok (.getfield 36, 3) := by decide +kernel
theorem d_I_isOpening_4 : decode b_I_isOpening 4 = .ok (.iconst 3, 1) := by decide +kernel
theorem d_I_isOpening_5 : decode b_I_isOpening 5 = .ok (.if_icmp .lt 7, 3) := by decide +kernel
theorem d_I_isOpening_8 : decode b_I_isOpening 8 = .ok (.iconst 1, 1) := by decide +kernel
theorem d_I_isOpening_9 : decode b_I_isOpening 9 = .ok (.goto 4, 3) := by decide +kernel
theorem d_I_isOpening_12 : decode b_I_isOpening 12 = .ok (.iconst 0, 1) := by decide +kernel
theorem d_I_isOpening_13 : decode b_I_isOpening 13 = .ok (.ireturn, 1) := by decide +kernel
abbrev b_I_isPending : ByteArray := prog_2_method_3_code
def y_I_isPending : MethodName := ⟨R_I, "isPending", "()Z"⟩
theorem d_I_isPending_0 : decode b_I_isPending 0 = .ok (.aload_n 0, 1) := by decide +kernel
theorem d_I_isPending_1 : decode b_I_isPending 1 = .ok (.getfield 9, 3) := by decide +kernel
theorem d_I_isPending_4 : decode b_I_isPending 4 = .ok (.iconst 3, 1) := by decide +kernel
theorem d_I_isPending_5 : decode b_I_isPending 5 = .ok (.if_icmp .eq 15, 3) := by decide +kernel
theorem d_I_isPending_8 : decode b_I_isPending 8 = .ok (.aload_n 0, 1) := by decide +kernel
theorem d_I_isPending_9 : decode b_I_isPending 9 = .ok (.getfield 9, 3) := by decide +kernel
theorem d_I_isPending_12 : decode b_I_isPending 12 = .ok (.iconst 5, 1) := by decide +kernel
theorem d_I_isPending_13 : decode b_I_isPending 13 = .ok (.if_icmp .eq 7, 3) := by decide +kernel
theorem d_I_isPending_16 : decode b_I_isPending 16 = .ok (.iconst 1, 1) := by decide +kernel
theorem d_I_isPending_17 : decode b_I_isPending 17 = .ok (.goto 4, 3) := by decide +kernel
theorem d_I_isPending_20 : decode b_I_isPending 20 = .ok (.iconst 0, 1) := by decide +kernel
theorem d_I_isPending_21 : decode b_I_isPending 21 = .ok (.ireturn, 1) := by decide +kernel
abbrev b_I_canBePlanned : ByteArray := prog_2_method_4_code
def y_I_canBePlanned : MethodName := ⟨R_I, "canBePlanned", "()Z"⟩
theorem d_I_canBePlanned_0 : decode b_I_canBePlanned 0 = .ok (.aload_n 0, 1) := by decide +kernel
theorem d_I_canBePlanned_1 : decode b_I_canBePlanned 1 = .ok (.getfield 9, 3) := by decide +kernel
theorem d_I_canBePlanned_4 : decode b_I_canBePlanned 4 = .ok (.ifCond .eq 11, 3) := by decide +kernel
theorem d_I_canBePlanned_7 : decode b_I_canBePlanned 7 = .ok (.aload_n 0, 1) := by decide +kernel
theorem d_I_canBePlanned_8 : decode b_I_canBePlanned 8 = .ok (.getfield 9, 3) := by decide +kernel
theorem d_I_canBePlanned_11 : decode b_I_canBePlanned 11 = .ok (.iconst 4, 1) := by decide +kernel
theorem d_I_canBePlanned_12 : decode b_I_canBePlanned 12 = .ok (.if_icmp .ne 7, 3) := by decide +kernel
theorem d_I_canBePlanned_15 : decode b_I_canBePlanned 15 = .ok (.iconst 1, 1) := by decide +kernel
theorem d_I_canBePlanned_16 : decode b_I_canBePlanned 16 = .ok (.goto 4, 3) := by decide +kernel
theorem d_I_canBePlanned_19 : decode b_I_canBePlanned 19 = .ok (.iconst 0, 1) := by decide +kernel
theorem d_I_canBePlanned_20 : decode b_I_canBePlanned 20 = .ok (.ireturn, 1) := by decide +kernel
abbrev b_I_canBeBegunAt : ByteArray := prog_2_method_5_code
def y_I_canBeBegunAt : MethodName := ⟨R_I, "canBeBegunAt", "(I)Z"⟩
theorem d_I_canBeBegunAt_0 : decode b_I_canBeBegunAt 0 = .ok (.aload_n 0, 1) := by decide +kernel
theorem d_I_canBeBegunAt_1 : decode b_I_canBeBegunAt 1 = .ok (.getfield 9, 3) := by decide +kernel
theorem d_I_canBeBegunAt_4 : decode b_I_canBeBegunAt 4 = .ok (.iconst 1, 1) := by decide +kernel
theorem d_I_canBeBegunAt_5 : decode b_I_canBeBegunAt 5 = .ok (.if_icmp .ne 23, 3) := by decide +kernel
theorem d_I_canBeBegunAt_8 : decode b_I_canBeBegunAt 8 = .ok (.aload_n 0, 1) := by decide +kernel
theorem d_I_canBeBegunAt_9 : decode b_I_canBeBegunAt 9 = .ok (.getfield 21, 3) := by decide +kernel
theorem d_I_canBeBegunAt_12 : decode b_I_canBeBegunAt 12 = .ok (.iload_n 1, 1) := by decide +kernel
theorem d_I_canBeBegunAt_13 : decode b_I_canBeBegunAt 13 = .ok (.if_icmp .gt 15, 3) := by decide +kernel
theorem d_I_canBeBegunAt_16 : decode b_I_canBeBegunAt 16 = .ok (.iload_n 1, 1) := by decide +kernel
theorem d_I_canBeBegunAt_17 : decode b_I_canBeBegunAt 17 = .ok (.aload_n 0, 1) := by decide +kernel
theorem d_I_canBeBegunAt_18 : decode b_I_canBeBegunAt 18 = .ok (.getfield 24, 3) := by decide +kernel
theorem d_I_canBeBegunAt_21 : decode b_I_canBeBegunAt 21 = .ok (.if_icmp .gt 7, 3) := by decide +kernel
theorem d_I_canBeBegunAt_24 : decode b_I_canBeBegunAt 24 = .ok (.iconst 1, 1) := by decide +kernel
theorem d_I_canBeBegunAt_25 : decode b_I_canBeBegunAt 25 = .ok (.goto 4, 3) := by decide +kernel
theorem d_I_canBeBegunAt_28 : decode b_I_canBeBegunAt 28 = .ok (.iconst 0, 1) := by decide +kernel
theorem d_I_canBeBegunAt_29 : decode b_I_canBeBegunAt 29 = .ok (.ireturn, 1) := by decide +kernel
abbrev b_I_canBeGivenUp : ByteArray := prog_2_method_6_code
def y_I_canBeGivenUp : MethodName := ⟨R_I, "canBeGivenUp", "()Z"⟩
theorem d_I_canBeGivenUp_0 : decode b_I_canBeGivenUp 0 = .ok (.aload_n 0, 1) := by decide +kernel
theorem d_I_canBeGivenUp_1 : decode b_I_canBeGivenUp 1 = .ok (.getfield 9, 3) := by decide +kernel
theorem d_I_canBeGivenUp_4 : decode b_I_canBeGivenUp 4 = .ok (.ifCond .eq 19, 3) := by decide +kernel
theorem d_I_canBeGivenUp_7 : decode b_I_canBeGivenUp 7 = .ok (.aload_n 0, 1) := by decide +kernel
theorem d_I_canBeGivenUp_8 : decode b_I_canBeGivenUp 8 = .ok (.getfield 9, 3) := by decide +kernel
theorem d_I_canBeGivenUp_11 : decode b_I_canBeGivenUp 11 = .ok (.iconst 1, 1) := by decide +kernel
theorem d_I_canBeGivenUp_12 : decode b_I_canBeGivenUp 12 = .ok (.if_icmp .eq 11, 3) := by decide +kernel
theorem d_I_canBeGivenUp_15 : decode b_I_canBeGivenUp 15 = .ok (.aload_n 0, 1) := by decide +kernel
theorem d_I_canBeGivenUp_16 : decode b_I_canBeGivenUp 16 = .ok (.getfield 9, 3) := by decide +kernel
theorem d_I_canBeGivenUp_19 : decode b_I_canBeGivenUp 19 = .ok (.iconst 4, 1) := by decide +kernel
theorem d_I_canBeGivenUp_20 : decode b_I_canBeGivenUp 20 = .ok (.if_icmp .ne 7, 3) := by decide +kernel
theorem d_I_canBeGivenUp_23 : decode b_I_canBeGivenUp 23 = .ok (.iconst 1, 1) := by decide +kernel
theorem d_I_canBeGivenUp_24 : decode b_I_canBeGivenUp 24 = .ok (.goto 4, 3) := by decide +kernel
theorem d_I_canBeGivenUp_27 : decode b_I_canBeGivenUp 27 = .ok (.iconst 0, 1) := by decide +kernel
theorem d_I_canBeGivenUp_28 : decode b_I_canBeGivenUp 28 = .ok (.ireturn, 1) := by decide +kernel
abbrev b_I_hasAppointment : ByteArray := prog_2_method_7_code
def y_I_hasAppointment : MethodName := ⟨R_I, "hasAppointment", "()Z"⟩
theorem d_I_hasAppointment_0 : decode b_I_hasAppointment 0 = .ok (.aload_n 0, 1) := by decide +kernel
theorem d_I_hasAppointment_1 : decode b_I_hasAppointment 1 = .ok (.getfield 9, 3) := by decide +kernel
theorem d_I_hasAppointment_4 : decode b_I_hasAppointment 4 = .ok (.iconst 1, 1) := by decide +kernel
theorem d_I_hasAppointment_5 : decode b_I_hasAppointment 5 = .ok (.if_icmp .eq 11, 3) := by decide +kernel
theorem d_I_hasAppointment_8 : decode b_I_hasAppointment 8 = .ok (.aload_n 0, 1) := by decide +kernel
theorem d_I_hasAppointment_9 : decode b_I_hasAppointment 9 = .ok (.getfield 9, 3) := by decide +kernel
theorem d_I_hasAppointment_12 : decode b_I_hasAppointment 12 = .ok (.iconst 2, 1) := by decide +kernel
theorem d_I_hasAppointment_13 : decode b_I_hasAppointment 13 = .ok (.if_icmp .ne 7, 3) := by decide +kernel
theorem d_I_hasAppointment_16 : decode b_I_hasAppointment 16 = .ok (.iconst 1, 1) := by decide +kernel
theorem d_I_hasAppointment_17 : decode b_I_hasAppointment 17 = .ok (.goto 4, 3) := by decide +kernel
theorem d_I_hasAppointment_20 : decode b_I_hasAppointment 20 = .ok (.iconst 0, 1) := by decide +kernel
theorem d_I_hasAppointment_21 : decode b_I_hasAppointment 21 = .ok (.ireturn, 1) := by decide +kernel
abbrev b_I_takes : ByteArray := prog_2_method_8_code
def y_I_takes : MethodName := ⟨R_I, "takes", "(III)Z"⟩
theorem d_I_takes_0 : decode b_I_takes 0 = .ok (.aload_n 0, 1) := by decide +kernel
theorem d_I_takes_1 : decode b_I_takes 1 = .ok (.invokevirtual 42, 3) := by decide +kernel
theorem d_I_takes_4 : decode b_I_takes 4 = .ok (.ifCond .eq 31, 3) := by decide +kernel
theorem d_I_takes_7 : decode b_I_takes 7 = .ok (.aload_n 0, 1) := by decide +kernel
theorem d_I_takes_8 : decode b_I_takes 8 = .ok (.getfield 18, 3) := by decide +kernel
theorem d_I_takes_11 : decode b_I_takes 11 = .ok (.iload_n 1, 1) := by decide +kernel
theorem d_I_takes_12 : decode b_I_takes 12 = .ok (.if_icmp .ne 23, 3) := by decide +kernel
theorem d_I_takes_15 : decode b_I_takes 15 = .ok (.aload_n 0, 1) := by decide +kernel
theorem d_I_takes_16 : decode b_I_takes 16 = .ok (.getfield 21, 3) := by decide +kernel
theorem d_I_takes_19 : decode b_I_takes 19 = .ok (.iload_n 3, 1) := by decide +kernel
theorem d_I_takes_20 : decode b_I_takes 20 = .ok (.if_icmp .ge 15, 3) := by decide +kernel
theorem d_I_takes_23 : decode b_I_takes 23 = .ok (.iload_n 2, 1) := by decide +kernel
theorem d_I_takes_24 : decode b_I_takes 24 = .ok (.aload_n 0, 1) := by decide +kernel
theorem d_I_takes_25 : decode b_I_takes 25 = .ok (.getfield 24, 3) := by decide +kernel
theorem d_I_takes_28 : decode b_I_takes 28 = .ok (.if_icmp .ge 7, 3) := by decide +kernel
theorem d_I_takes_31 : decode b_I_takes 31 = .ok (.iconst 1, 1) := by decide +kernel
theorem d_I_takes_32 : decode b_I_takes 32 = .ok (.goto 4, 3) := by decide +kernel
theorem d_I_takes_35 : decode b_I_takes 35 = .ok (.iconst 0, 1) := by decide +kernel
theorem d_I_takes_36 : decode b_I_takes 36 = .ok (.ireturn, 1) := by decide +kernel
abbrev b_I_appoint : ByteArray := prog_2_method_9_code
def y_I_appoint : MethodName := ⟨R_I, "appoint", "(III)V"⟩
theorem d_I_appoint_0 : decode b_I_appoint 0 = .ok (.aload_n 0, 1) := by decide +kernel
theorem d_I_appoint_1 : decode b_I_appoint 1 = .ok (.iconst 1, 1) := by decide +kernel
theorem d_I_appoint_2 : decode b_I_appoint 2 = .ok (.putfield 9, 3) := by decide +kernel
theorem d_I_appoint_5 : decode b_I_appoint 5 = .ok (.aload_n 0, 1) := by decide +kernel
theorem d_I_appoint_6 : decode b_I_appoint 6 = .ok (.iload_n 1, 1) := by decide +kernel
theorem d_I_appoint_7 : decode b_I_appoint 7 = .ok (.putfield 18, 3) := by decide +kernel
theorem d_I_appoint_10 : decode b_I_appoint 10 = .ok (.aload_n 0, 1) := by decide +kernel
theorem d_I_appoint_11 : decode b_I_appoint 11 = .ok (.iload_n 2, 1) := by decide +kernel
theorem d_I_appoint_12 : decode b_I_appoint 12 = .ok (.putfield 21, 3) := by decide +kernel
theorem d_I_appoint_15 : decode b_I_appoint 15 = .ok (.aload_n 0, 1) := by decide +kernel
theorem d_I_appoint_16 : decode b_I_appoint 16 = .ok (.iload_n 3, 1) := by decide +kernel
theorem d_I_appoint_17 : decode b_I_appoint 17 = .ok (.putfield 24, 3) := by decide +kernel
theorem d_I_appoint_20 : decode b_I_appoint 20 = .ok (.return_, 1) := by decide +kernel
abbrev b_I_passUp : ByteArray := prog_2_method_10_code
def y_I_passUp : MethodName := ⟨R_I, "passUp", "(II)I"⟩
theorem d_I_passUp_0 : decode b_I_passUp 0 = .ok (.aload_n 0, 1) := by decide +kernel
theorem d_I_passUp_1 : decode b_I_passUp 1 = .ok (.invokevirtual 46, 3) := by decide +kernel
theorem d_I_passUp_4 : decode b_I_passUp 4 = .ok (.ifCond .ne 5, 3) := by decide +kernel
theorem d_I_passUp_7 : decode b_I_passUp 7 = .ok (.iconst 0, 1) := by decide +kernel
theorem d_I_passUp_8 : decode b_I_passUp 8 = .ok (.ireturn, 1) := by decide +kernel
theorem d_I_passUp_9 : decode b_I_passUp 9 = .ok (.aload_n 0, 1) := by decide +kernel
theorem d_I_passUp_10 : decode b_I_passUp 10 = .ok (.iload_n 2, 1) := by decide +kernel
theorem d_I_passUp_11 : decode b_I_passUp 11 = .ok (.invokevirtual 49, 3) := by decide +kernel
theorem d_I_passUp_14 : decode b_I_passUp 14 = .ok (.aload_n 0, 1) := by decide +kernel
theorem d_I_passUp_15 : decode b_I_passUp 15 = .ok (.iload_n 1, 1) := by decide +kernel
theorem d_I_passUp_16 : decode b_I_passUp 16 = .ok (.invokevirtual 49, 3) := by decide +kernel
theorem d_I_passUp_19 : decode b_I_passUp 19 = .ok (.isub, 1) := by decide +kernel
theorem d_I_passUp_20 : decode b_I_passUp 20 = .ok (.iconst 3, 1) := by decide +kernel
theorem d_I_passUp_21 : decode b_I_passUp 21 = .ok (.aload_n 0, 1) := by decide +kernel
theorem d_I_passUp_22 : decode b_I_passUp 22 = .ok (.getfield 15, 3) := by decide +kernel
theorem d_I_passUp_25 : decode b_I_passUp 25 = .ok (.isub, 1) := by decide +kernel
theorem d_I_passUp_26 : decode b_I_passUp 26 = .ok (.invokestatic 53, 3) := by decide +kernel
theorem d_I_passUp_29 : decode b_I_passUp 29 = .ok (.istore_n 3, 1) := by decide +kernel
theorem d_I_passUp_30 : decode b_I_passUp 30 = .ok (.aload_n 0, 1) := by decide +kernel
theorem d_I_passUp_31 : decode b_I_passUp 31 = .ok (.dup, 1) := by decide +kernel
theorem d_I_passUp_32 : decode b_I_passUp 32 = .ok (.getfield 15, 3) := by decide +kernel
theorem d_I_passUp_35 : decode b_I_passUp 35 = .ok (.iload_n 3, 1) := by decide +kernel
theorem d_I_passUp_36 : decode b_I_passUp 36 = .ok (.iadd, 1) := by decide +kernel
theorem d_I_passUp_37 : decode b_I_passUp 37 = .ok (.putfield 15, 3) := by decide +kernel
theorem d_I_passUp_40 : decode b_I_passUp 40 = .ok (.iload_n 3, 1) := by decide +kernel
theorem d_I_passUp_41 : decode b_I_passUp 41 = .ok (.ireturn, 1) := by decide +kernel
abbrev b_I_lateTimes : ByteArray := prog_2_method_11_code
def y_I_lateTimes : MethodName := ⟨R_I, "lateTimes", "(I)I"⟩
theorem d_I_lateTimes_0 : decode b_I_lateTimes 0 = .ok (.iload_n 1, 1) := by decide +kernel
theorem d_I_lateTimes_1 : decode b_I_lateTimes 1 = .ok (.aload_n 0, 1) := by decide +kernel
theorem d_I_lateTimes_2 : decode b_I_lateTimes 2 = .ok (.getfield 39, 3) := by decide +kernel
theorem d_I_lateTimes_5 : decode b_I_lateTimes 5 = .ok (.if_icmp .gt 7, 3) := by decide +kernel
theorem d_I_lateTimes_8 : decode b_I_lateTimes 8 = .ok (.iconst 0, 1) := by decide +kernel
theorem d_I_lateTimes_9 : decode b_I_lateTimes 9 = .ok (.goto 16, 3) := by decide +kernel
theorem d_I_lateTimes_12 : decode b_I_lateTimes 12 = .ok (.iload_n 1, 1) := by decide +kernel
theorem d_I_lateTimes_13 : decode b_I_lateTimes 13 = .ok (.aload_n 0, 1) := by decide +kernel
theorem d_I_lateTimes_14 : decode b_I_lateTimes 14 = .ok (.getfield 39, 3) := by decide +kernel
theorem d_I_lateTimes_17 : decode b_I_lateTimes 17 = .ok (.isub, 1) := by decide +kernel
theorem d_I_lateTimes_18 : decode b_I_lateTimes 18 = .ok (.iconst 1, 1) := by decide +kernel
theorem d_I_lateTimes_19 : decode b_I_lateTimes 19 = .ok (.isub, 1) := by decide +kernel
theorem d_I_lateTimes_20 : decode b_I_lateTimes 20 = .ok (.bipush 100, 2) := by decide +kernel
theorem d_I_lateTimes_22 : decode b_I_lateTimes 22 = .ok (.idiv, 1) := by decide +kernel
theorem d_I_lateTimes_23 : decode b_I_lateTimes 23 = .ok (.iconst 1, 1) := by decide +kernel
theorem d_I_lateTimes_24 : decode b_I_lateTimes 24 = .ok (.iadd, 1) := by decide +kernel
theorem d_I_lateTimes_25 : decode b_I_lateTimes 25 = .ok (.ireturn, 1) := by decide +kernel
abbrev b_S_init : ByteArray := prog_3_method_1_code
def y_S_init : MethodName := ⟨R_S, "<init>", "(II)V"⟩
theorem d_S_init_0 : decode b_S_init 0 = .ok (.aload_n 0, 1) := by decide +kernel
theorem d_S_init_1 : decode b_S_init 1 = .ok (.invokespecial 3, 3) := by decide +kernel
theorem d_S_init_4 : decode b_S_init 4 = .ok (.aload_n 0, 1) := by decide +kernel
theorem d_S_init_5 : decode b_S_init 5 = .ok (.iconst 4, 1) := by decide +kernel
theorem d_S_init_6 : decode b_S_init 6 = .ok (.newarray .int, 2) := by decide +kernel
theorem d_S_init_8 : decode b_S_init 8 = .ok (.putfield 9, 3) := by decide +kernel
theorem d_S_init_11 : decode b_S_init 11 = .ok (.aload_n 0, 1) := by decide +kernel
theorem d_S_init_12 : decode b_S_init 12 = .ok (.iconst 4, 1) := by decide +kernel
theorem d_S_init_13 : decode b_S_init 13 = .ok (.newarray .boolean, 2) := by decide +kernel
theorem d_S_init_15 : decode b_S_init 15 = .ok (.putfield 15, 3) := by decide +kernel
theorem d_S_init_18 : decode b_S_init 18 = .ok (.aload_n 0, 1) := by decide +kernel
theorem d_S_init_19 : decode b_S_init 19 = .ok (.iload_n 1, 1) := by decide +kernel
theorem d_S_init_20 : decode b_S_init 20 = .ok (.putfield 19, 3) := by decide +kernel
theorem d_S_init_23 : decode b_S_init 23 = .ok (.aload_n 0, 1) := by decide +kernel
theorem d_S_init_24 : decode b_S_init 24 = .ok (.iload_n 2, 1) := by decide +kernel
theorem d_S_init_25 : decode b_S_init 25 = .ok (.putfield 23, 3) := by decide +kernel
theorem d_S_init_28 : decode b_S_init 28 = .ok (.aload_n 0, 1) := by decide +kernel
theorem d_S_init_29 : decode b_S_init 29 = .ok (.getfield 9, 3) := by decide +kernel
theorem d_S_init_32 : decode b_S_init 32 = .ok (.iconst (-1), 1) := by decide +kernel
theorem d_S_init_33 : decode b_S_init 33 = .ok (.invokestatic 26, 3) := by decide +kernel
theorem d_S_init_36 : decode b_S_init 36 = .ok (.return_, 1) := by decide +kernel
abbrev b_S_hasResult : ByteArray := prog_3_method_2_code
def y_S_hasResult : MethodName := ⟨R_S, "hasResult", "()Z"⟩
theorem d_S_hasResult_0 : decode b_S_hasResult 0 = .ok (.iconst 0, 1) := by decide +kernel
theorem d_S_hasResult_1 : decode b_S_hasResult 1 = .ok (.istore_n 1, 1) := by decide +kernel
theorem d_S_hasResult_2 : decode b_S_hasResult 2 = .ok (.iload_n 1, 1) := by decide +kernel
theorem d_S_hasResult_3 : decode b_S_hasResult 3 = .ok (.iconst 4, 1) := by decide +kernel
theorem d_S_hasResult_4 : decode b_S_hasResult 4 = .ok (.if_icmp .ge 21, 3) := by decide +kernel
theorem d_S_hasResult_7 : decode b_S_hasResult 7 = .ok (.aload_n 0, 1) := by decide +kernel
theorem d_S_hasResult_8 : decode b_S_hasResult 8 = .ok (.getfield 9, 3) := by decide +kernel
theorem d_S_hasResult_11 : decode b_S_hasResult 11 = .ok (.iload_n 1, 1) := by decide +kernel
theorem d_S_hasResult_12 : decode b_S_hasResult 12 = .ok (.iaload, 1) := by decide +kernel
theorem d_S_hasResult_13 : decode b_S_hasResult 13 = .ok (.iconst (-1), 1) := by decide +kernel
theorem d_S_hasResult_14 : decode b_S_hasResult 14 = .ok (.if_icmp .eq 5, 3) := by decide +kernel
theorem d_S_hasResult_17 : decode b_S_hasResult 17 = .ok (.iconst 1, 1) := by decide +kernel
theorem d_S_hasResult_18 : decode b_S_hasResult 18 = .ok (.ireturn, 1) := by decide +kernel
theorem d_S_hasResult_19 : decode b_S_hasResult 19 = .ok (.iinc 1 1, 3) := by decide +kernel
theorem d_S_hasResult_22 : decode b_S_hasResult 22 = .ok (.goto (-20), 3) := by decide +kernel
theorem d_S_hasResult_25 : decode b_S_hasResult 25 = .ok (.iconst 0, 1) := by decide +kernel
theorem d_S_hasResult_26 : decode b_S_hasResult 26 = .ok (.ireturn, 1) := by decide +kernel
abbrev b_S_settleTold : ByteArray := prog_3_method_3_code
def y_S_settleTold : MethodName := ⟨R_S, "settleTold", "()V"⟩
theorem d_S_settleTold_0 : decode b_S_settleTold 0 = .ok (.iconst 0, 1) := by decide +kernel
theorem d_S_settleTold_1 : decode b_S_settleTold 1 = .ok (.istore_n 1, 1) := by decide +kernel
theorem d_S_settleTold_2 : decode b_S_settleTold 2 = .ok (.iload_n 1, 1) := by decide +kernel
theorem d_S_settleTold_3 : decode b_S_settleTold 3 = .ok (.iconst 4, 1) := by decide +kernel
theorem d_S_settleTold_4 : decode b_S_settleTold 4 = .ok (.if_icmp .ge 26, 3) := by decide +kernel
theorem d_S_settleTold_7 : decode b_S_settleTold 7 = .ok (.aload_n 0, 1) := by decide +kernel
theorem d_S_settleTold_8 : decode b_S_settleTold 8 = .ok (.getfield 9, 3) := by decide +kernel
theorem d_S_settleTold_11 : decode b_S_settleTold 11 = .ok (.iload_n 1, 1) := by decide +kernel
theorem d_S_settleTold_12 : decode b_S_settleTold 12 = .ok (.iaload, 1) := by decide +kernel
theorem d_S_settleTold_13 : decode b_S_settleTold 13 = .ok (.iconst (-1), 1) := by decide +kernel
theorem d_S_settleTold_14 : decode b_S_settleTold 14 = .ok (.if_icmp .eq 10, 3) := by decide +kernel
theorem d_S_settleTold_17 : decode b_S_settleTold 17 = .ok (.aload_n 0, 1) := by decide +kernel
theorem d_S_settleTold_18 : decode b_S_settleTold 18 = .ok (.getfield 15, 3) := by decide +kernel
theorem d_S_settleTold_21 : decode b_S_settleTold 21 = .ok (.iload_n 1, 1) := by decide +kernel
theorem d_S_settleTold_22 : decode b_S_settleTold 22 = .ok (.iconst 1, 1) := by decide +kernel
theorem d_S_settleTold_23 : decode b_S_settleTold 23 = .ok (.bastore, 1) := by decide +kernel
theorem d_S_settleTold_24 : decode b_S_settleTold 24 = .ok (.iinc 1 1, 3) := by decide +kernel
theorem d_S_settleTold_27 : decode b_S_settleTold 27 = .ok (.goto (-25), 3) := by decide +kernel
theorem d_S_settleTold_30 : decode b_S_settleTold 30 = .ok (.return_, 1) := by decide +kernel
abbrev b_L_inspection : ByteArray := method_3_code
def y_L_inspection : MethodName := ⟨R_L, "inspection", "(LInspectSteps;III[J)I"⟩
theorem d_L_inspection_0 : decode b_L_inspection 0 = .ok (.aload 4, 2) := by decide +kernel
theorem d_L_inspection_2 : decode b_L_inspection 2 = .ok (.iconst 0, 1) := by decide +kernel
theorem d_L_inspection_3 : decode b_L_inspection 3 = .ok (.aload_n 0, 1) := by decide +kernel
theorem d_L_inspection_4 : decode b_L_inspection 4 = .ok (.iload_n 1, 1) := by decide +kernel
theorem d_L_inspection_5 : decode b_L_inspection 5 = .ok (.iload_n 2, 1) := by decide +kernel
theorem d_L_inspection_6 : decode b_L_inspection 6 = .ok (.iload_n 3, 1) := by decide +kernel
theorem d_L_inspection_7 : decode b_L_inspection 7 = .ok (.invokevirtual 7, 3) := by decide +kernel
theorem d_L_inspection_10 : decode b_L_inspection 10 = .ok (.i2l, 1) := by decide +kernel
theorem d_L_inspection_11 : decode b_L_inspection 11 = .ok (.lastore, 1) := by decide +kernel
theorem d_L_inspection_12 : decode b_L_inspection 12 = .ok (.goto 11, 3) := by decide +kernel
theorem d_L_inspection_15 : decode b_L_inspection 15 = .ok (.astore 5, 2) := by decide +kernel
theorem d_L_inspection_17 : decode b_L_inspection 17 = .ok (.iconst 1, 1) := by decide +kernel
theorem d_L_inspection_18 : decode b_L_inspection 18 = .ok (.ireturn, 1) := by decide +kernel
theorem d_L_inspection_19 : decode b_L_inspection 19 = .ok (.astore 5, 2) := by decide +kernel
theorem d_L_inspection_21 : decode b_L_inspection 21 = .ok (.iconst 2, 1) := by decide +kernel
theorem d_L_inspection_22 : decode b_L_inspection 22 = .ok (.ireturn, 1) := by decide +kernel
theorem d_L_inspection_23 : decode b_L_inspection 23 = .ok (.iconst 0, 1) := by decide +kernel
theorem d_L_inspection_24 : decode b_L_inspection 24 = .ok (.ireturn, 1) := by decide +kernel
abbrev b_L_plan : ByteArray := method_4_code
def y_L_plan : MethodName := ⟨R_L, "plan", "(LInspectSteps;IIII[J)I"⟩
theorem d_L_plan_0 : decode b_L_plan 0 = .ok (.aload 5, 2) := by decide +kernel
theorem d_L_plan_2 : decode b_L_plan 2 = .ok (.iconst 0, 1) := by decide +kernel
theorem d_L_plan_3 : decode b_L_plan 3 = .ok (.aload_n 0, 1) := by decide +kernel
theorem d_L_plan_4 : decode b_L_plan 4 = .ok (.iload_n 1, 1) := by decide +kernel
theorem d_L_plan_5 : decode b_L_plan 5 = .ok (.iload_n 2, 1) := by decide +kernel
theorem d_L_plan_6 : decode b_L_plan 6 = .ok (.iload_n 3, 1) := by decide +kernel
theorem d_L_plan_7 : decode b_L_plan 7 = .ok (.iload 4, 2) := by decide +kernel
theorem d_L_plan_9 : decode b_L_plan 9 = .ok (.invokevirtual 17, 3) := by decide +kernel
theorem d_L_plan_12 : decode b_L_plan 12 = .ok (.i2l, 1) := by decide +kernel
theorem d_L_plan_13 : decode b_L_plan 13 = .ok (.lastore, 1) := by decide +kernel
theorem d_L_plan_14 : decode b_L_plan 14 = .ok (.goto 7, 3) := by decide +kernel
theorem d_L_plan_17 : decode b_L_plan 17 = .ok (.astore 6, 2) := by decide +kernel
theorem d_L_plan_19 : decode b_L_plan 19 = .ok (.iconst 1, 1) := by decide +kernel
theorem d_L_plan_20 : decode b_L_plan 20 = .ok (.ireturn, 1) := by decide +kernel
theorem d_L_plan_21 : decode b_L_plan 21 = .ok (.iconst 0, 1) := by decide +kernel
theorem d_L_plan_22 : decode b_L_plan 22 = .ok (.ireturn, 1) := by decide +kernel
abbrev b_L_begin : ByteArray := method_5_code
def y_L_begin : MethodName := ⟨R_L, "begin", "(LInspectSteps;II[J)I"⟩
theorem d_L_begin_0 : decode b_L_begin 0 = .ok (.aload_n 3, 1) := by decide +kernel
theorem d_L_begin_1 : decode b_L_begin 1 = .ok (.iconst 0, 1) := by decide +kernel
theorem d_L_begin_2 : decode b_L_begin 2 = .ok (.aload_n 0, 1) := by decide +kernel
theorem d_L_begin_3 : decode b_L_begin 3 = .ok (.iload_n 1, 1) := by decide +kernel
theorem d_L_begin_4 : decode b_L_begin 4 = .ok (.iload_n 2, 1) := by decide +kernel
theorem d_L_begin_5 : decode b_L_begin 5 = .ok (.invokevirtual 21, 3) := by decide +kernel
theorem d_L_begin_8 : decode b_L_begin 8 = .ok (.i2l, 1) := by decide +kernel
theorem d_L_begin_9 : decode b_L_begin 9 = .ok (.lastore, 1) := by decide +kernel
theorem d_L_begin_10 : decode b_L_begin 10 = .ok (.goto 7, 3) := by decide +kernel
theorem d_L_begin_13 : decode b_L_begin 13 = .ok (.astore 4, 2) := by decide +kernel
theorem d_L_begin_15 : decode b_L_begin 15 = .ok (.iconst 1, 1) := by decide +kernel
theorem d_L_begin_16 : decode b_L_begin 16 = .ok (.ireturn, 1) := by decide +kernel
theorem d_L_begin_17 : decode b_L_begin 17 = .ok (.iconst 0, 1) := by decide +kernel
theorem d_L_begin_18 : decode b_L_begin 18 = .ok (.ireturn, 1) := by decide +kernel
abbrev b_L_end : ByteArray := method_6_code
def y_L_end : MethodName := ⟨R_L, "end", "(LInspectSteps;IIZ[J)I"⟩
theorem d_L_end_0 : decode b_L_end 0 = .ok (.aload 4, 2) := by decide +kernel
theorem d_L_end_2 : decode b_L_end 2 = .ok (.iconst 0, 1) := by decide +kernel
theorem d_L_end_3 : decode b_L_end 3 = .ok (.aload_n 0, 1) := by decide +kernel
theorem d_L_end_4 : decode b_L_end 4 = .ok (.iload_n 1, 1) := by decide +kernel
theorem d_L_end_5 : decode b_L_end 5 = .ok (.iload_n 2, 1) := by decide +kernel
theorem d_L_end_6 : decode b_L_end 6 = .ok (.iload_n 3, 1) := by decide +kernel
theorem d_L_end_7 : decode b_L_end 7 = .ok (.invokevirtual 25, 3) := by decide +kernel
theorem d_L_end_10 : decode b_L_end 10 = .ok (.i2l, 1) := by decide +kernel
theorem d_L_end_11 : decode b_L_end 11 = .ok (.lastore, 1) := by decide +kernel
theorem d_L_end_12 : decode b_L_end 12 = .ok (.goto 7, 3) := by decide +kernel
theorem d_L_end_15 : decode b_L_end 15 = .ok (.astore 5, 2) := by decide +kernel
theorem d_L_end_17 : decode b_L_end 17 = .ok (.iconst 1, 1) := by decide +kernel
theorem d_L_end_18 : decode b_L_end 18 = .ok (.ireturn, 1) := by decide +kernel
theorem d_L_end_19 : decode b_L_end 19 = .ok (.iconst 0, 1) := by decide +kernel
theorem d_L_end_20 : decode b_L_end 20 = .ok (.ireturn, 1) := by decide +kernel
abbrev b_L_seal : ByteArray := method_7_code
def y_L_seal : MethodName := ⟨R_L, "seal", "(LInspectSteps;IIII[J)I"⟩
theorem d_L_seal_0 : decode b_L_seal 0 = .ok (.aload 5, 2) := by decide +kernel
theorem d_L_seal_2 : decode b_L_seal 2 = .ok (.iconst 0, 1) := by decide +kernel
theorem d_L_seal_3 : decode b_L_seal 3 = .ok (.aload_n 0, 1) := by decide +kernel
theorem d_L_seal_4 : decode b_L_seal 4 = .ok (.iload_n 1, 1) := by decide +kernel
theorem d_L_seal_5 : decode b_L_seal 5 = .ok (.iload_n 2, 1) := by decide +kernel
theorem d_L_seal_6 : decode b_L_seal 6 = .ok (.iload_n 3, 1) := by decide +kernel
theorem d_L_seal_7 : decode b_L_seal 7 = .ok (.iload 4, 2) := by decide +kernel
theorem d_L_seal_9 : decode b_L_seal 9 = .ok (.invokevirtual 29, 3) := by decide +kernel
theorem d_L_seal_12 : decode b_L_seal 12 = .ok (.i2l, 1) := by decide +kernel
theorem d_L_seal_13 : decode b_L_seal 13 = .ok (.lastore, 1) := by decide +kernel
theorem d_L_seal_14 : decode b_L_seal 14 = .ok (.goto 7, 3) := by decide +kernel
theorem d_L_seal_17 : decode b_L_seal 17 = .ok (.astore 6, 2) := by decide +kernel
theorem d_L_seal_19 : decode b_L_seal 19 = .ok (.iconst 1, 1) := by decide +kernel
theorem d_L_seal_20 : decode b_L_seal 20 = .ok (.ireturn, 1) := by decide +kernel
theorem d_L_seal_21 : decode b_L_seal 21 = .ok (.iconst 0, 1) := by decide +kernel
theorem d_L_seal_22 : decode b_L_seal 22 = .ok (.ireturn, 1) := by decide +kernel
abbrev b_L_sample : ByteArray := method_8_code
def y_L_sample : MethodName := ⟨R_L, "sample", "(LInspectSteps;II[J)I"⟩
theorem d_L_sample_0 : decode b_L_sample 0 = .ok (.aload_n 3, 1) := by decide +kernel
theorem d_L_sample_1 : decode b_L_sample 1 = .ok (.iconst 0, 1) := by decide +kernel
theorem d_L_sample_2 : decode b_L_sample 2 = .ok (.aload_n 0, 1) := by decide +kernel
theorem d_L_sample_3 : decode b_L_sample 3 = .ok (.iload_n 1, 1) := by decide +kernel
theorem d_L_sample_4 : decode b_L_sample 4 = .ok (.iload_n 2, 1) := by decide +kernel
theorem d_L_sample_5 : decode b_L_sample 5 = .ok (.invokevirtual 32, 3) := by decide +kernel
theorem d_L_sample_8 : decode b_L_sample 8 = .ok (.i2l, 1) := by decide +kernel
theorem d_L_sample_9 : decode b_L_sample 9 = .ok (.lastore, 1) := by decide +kernel
theorem d_L_sample_10 : decode b_L_sample 10 = .ok (.goto 11, 3) := by decide +kernel
theorem d_L_sample_13 : decode b_L_sample 13 = .ok (.astore 4, 2) := by decide +kernel
theorem d_L_sample_15 : decode b_L_sample 15 = .ok (.iconst 1, 1) := by decide +kernel
theorem d_L_sample_16 : decode b_L_sample 16 = .ok (.ireturn, 1) := by decide +kernel
theorem d_L_sample_17 : decode b_L_sample 17 = .ok (.astore 4, 2) := by decide +kernel
theorem d_L_sample_19 : decode b_L_sample 19 = .ok (.iconst 2, 1) := by decide +kernel
theorem d_L_sample_20 : decode b_L_sample 20 = .ok (.ireturn, 1) := by decide +kernel
theorem d_L_sample_21 : decode b_L_sample 21 = .ok (.iconst 0, 1) := by decide +kernel
theorem d_L_sample_22 : decode b_L_sample 22 = .ok (.ireturn, 1) := by decide +kernel
abbrev b_L_result : ByteArray := method_9_code
def y_L_result : MethodName := ⟨R_L, "result", "(LInspectSteps;IIII[J)I"⟩
theorem d_L_result_0 : decode b_L_result 0 = .ok (.aload 5, 2) := by decide +kernel
theorem d_L_result_2 : decode b_L_result 2 = .ok (.iconst 0, 1) := by decide +kernel
theorem d_L_result_3 : decode b_L_result 3 = .ok (.aload_n 0, 1) := by decide +kernel
theorem d_L_result_4 : decode b_L_result 4 = .ok (.iload_n 1, 1) := by decide +kernel
theorem d_L_result_5 : decode b_L_result 5 = .ok (.iload_n 2, 1) := by decide +kernel
theorem d_L_result_6 : decode b_L_result 6 = .ok (.iload_n 3, 1) := by decide +kernel
theorem d_L_result_7 : decode b_L_result 7 = .ok (.iload 4, 2) := by decide +kernel
theorem d_L_result_9 : decode b_L_result 9 = .ok (.invokevirtual 35, 3) := by decide +kernel
theorem d_L_result_12 : decode b_L_result 12 = .ok (.i2l, 1) := by decide +kernel
theorem d_L_result_13 : decode b_L_result 13 = .ok (.lastore, 1) := by decide +kernel
theorem d_L_result_14 : decode b_L_result 14 = .ok (.goto 7, 3) := by decide +kernel
theorem d_L_result_17 : decode b_L_result 17 = .ok (.astore 6, 2) := by decide +kernel
theorem d_L_result_19 : decode b_L_result 19 = .ok (.iconst 1, 1) := by decide +kernel
theorem d_L_result_20 : decode b_L_result 20 = .ok (.ireturn, 1) := by decide +kernel
theorem d_L_result_21 : decode b_L_result 21 = .ok (.iconst 0, 1) := by decide +kernel
theorem d_L_result_22 : decode b_L_result 22 = .ok (.ireturn, 1) := by decide +kernel
abbrev b_L_settle : ByteArray := method_10_code
def y_L_settle : MethodName := ⟨R_L, "settle", "(LInspectSteps;I[J)I"⟩
theorem d_L_settle_0 : decode b_L_settle 0 = .ok (.aload_n 2, 1) := by decide +kernel
theorem d_L_settle_1 : decode b_L_settle 1 = .ok (.iconst 0, 1) := by decide +kernel
theorem d_L_settle_2 : decode b_L_settle 2 = .ok (.aload_n 0, 1) := by decide +kernel
theorem d_L_settle_3 : decode b_L_settle 3 = .ok (.iload_n 1, 1) := by decide +kernel
theorem d_L_settle_4 : decode b_L_settle 4 = .ok (.invokevirtual 38, 3) := by decide +kernel
theorem d_L_settle_7 : decode b_L_settle 7 = .ok (.i2l, 1) := by decide +kernel
theorem d_L_settle_8 : decode b_L_settle 8 = .ok (.lastore, 1) := by decide +kernel
theorem d_L_settle_9 : decode b_L_settle 9 = .ok (.goto 6, 3) := by decide +kernel
theorem d_L_settle_12 : decode b_L_settle 12 = .ok (.astore_n 3, 1) := by decide +kernel
theorem d_L_settle_13 : decode b_L_settle 13 = .ok (.iconst 1, 1) := by decide +kernel
theorem d_L_settle_14 : decode b_L_settle 14 = .ok (.ireturn, 1) := by decide +kernel
theorem d_L_settle_15 : decode b_L_settle 15 = .ok (.iconst 0, 1) := by decide +kernel
theorem d_L_settle_16 : decode b_L_settle 16 = .ok (.ireturn, 1) := by decide +kernel
abbrev b_L_tick : ByteArray := method_11_code
def y_L_tick : MethodName := ⟨R_L, "tick", "(LInspectSteps;I[J)I"⟩
theorem d_L_tick_0 : decode b_L_tick 0 = .ok (.aload_n 2, 1) := by decide +kernel
theorem d_L_tick_1 : decode b_L_tick 1 = .ok (.iconst 0, 1) := by decide +kernel
theorem d_L_tick_2 : decode b_L_tick 2 = .ok (.aload_n 0, 1) := by decide +kernel
theorem d_L_tick_3 : decode b_L_tick 3 = .ok (.iload_n 1, 1) := by decide +kernel
theorem d_L_tick_4 : decode b_L_tick 4 = .ok (.invokevirtual 42, 3) := by decide +kernel
theorem d_L_tick_7 : decode b_L_tick 7 = .ok (.i2l, 1) := by decide +kernel
theorem d_L_tick_8 : decode b_L_tick 8 = .ok (.lastore, 1) := by decide +kernel
theorem d_L_tick_9 : decode b_L_tick 9 = .ok (.goto 6, 3) := by decide +kernel
theorem d_L_tick_12 : decode b_L_tick 12 = .ok (.astore_n 3, 1) := by decide +kernel
theorem d_L_tick_13 : decode b_L_tick 13 = .ok (.iconst 1, 1) := by decide +kernel
theorem d_L_tick_14 : decode b_L_tick 14 = .ok (.ireturn, 1) := by decide +kernel
theorem d_L_tick_15 : decode b_L_tick 15 = .ok (.iconst 0, 1) := by decide +kernel
theorem d_L_tick_16 : decode b_L_tick 16 = .ok (.ireturn, 1) := by decide +kernel
abbrev b_L_release : ByteArray := method_12_code
def y_L_release : MethodName := ⟨R_L, "release", "(LInspectSteps;I[J)I"⟩
theorem d_L_release_0 : decode b_L_release 0 = .ok (.aload_n 2, 1) := by decide +kernel
theorem d_L_release_1 : decode b_L_release 1 = .ok (.iconst 0, 1) := by decide +kernel
theorem d_L_release_2 : decode b_L_release 2 = .ok (.aload_n 0, 1) := by decide +kernel
theorem d_L_release_3 : decode b_L_release 3 = .ok (.iload_n 1, 1) := by decide +kernel
theorem d_L_release_4 : decode b_L_release 4 = .ok (.invokevirtual 45, 3) := by decide +kernel
theorem d_L_release_7 : decode b_L_release 7 = .ok (.i2l, 1) := by decide +kernel
theorem d_L_release_8 : decode b_L_release 8 = .ok (.lastore, 1) := by decide +kernel
theorem d_L_release_9 : decode b_L_release 9 = .ok (.goto 6, 3) := by decide +kernel
theorem d_L_release_12 : decode b_L_release 12 = .ok (.astore_n 3, 1) := by decide +kernel
theorem d_L_release_13 : decode b_L_release 13 = .ok (.iconst 1, 1) := by decide +kernel
theorem d_L_release_14 : decode b_L_release 14 = .ok (.ireturn, 1) := by decide +kernel
theorem d_L_release_15 : decode b_L_release 15 = .ok (.iconst 0, 1) := by decide +kernel
theorem d_L_release_16 : decode b_L_release 16 = .ok (.ireturn, 1) := by decide +kernel
abbrev b_L_look : ByteArray := method_13_code
def y_L_look : MethodName := ⟨R_L, "look", "(LInspectSteps;II[J)I"⟩
theorem d_L_look_0 : decode b_L_look 0 = .ok (.aload_n 3, 1) := by decide +kernel
theorem d_L_look_1 : decode b_L_look 1 = .ok (.iconst 0, 1) := by decide +kernel
theorem d_L_look_2 : decode b_L_look 2 = .ok (.aload_n 0, 1) := by decide +kernel
theorem d_L_look_3 : decode b_L_look 3 = .ok (.iload_n 1, 1) := by decide +kernel
theorem d_L_look_4 : decode b_L_look 4 = .ok (.iload_n 2, 1) := by decide +kernel
theorem d_L_look_5 : decode b_L_look 5 = .ok (.invokevirtual 48, 3) := by decide +kernel
theorem d_L_look_8 : decode b_L_look 8 = .ok (.i2l, 1) := by decide +kernel
theorem d_L_look_9 : decode b_L_look 9 = .ok (.lastore, 1) := by decide +kernel
theorem d_L_look_10 : decode b_L_look 10 = .ok (.goto 7, 3) := by decide +kernel
theorem d_L_look_13 : decode b_L_look 13 = .ok (.astore 4, 2) := by decide +kernel
theorem d_L_look_15 : decode b_L_look 15 = .ok (.iconst 1, 1) := by decide +kernel
theorem d_L_look_16 : decode b_L_look 16 = .ok (.ireturn, 1) := by decide +kernel
theorem d_L_look_17 : decode b_L_look 17 = .ok (.iconst 0, 1) := by decide +kernel
theorem d_L_look_18 : decode b_L_look 18 = .ok (.ireturn, 1) := by decide +kernel
abbrev b_Ma_abs : ByteArray := prog_13_method_61_code
def y_Ma_abs : MethodName := ⟨R_Ma, "abs", "(J)J"⟩
theorem d_Ma_abs_0 : decode b_Ma_abs 0 = .ok (.lload_n 0, 1) := by decide +kernel
theorem d_Ma_abs_1 : decode b_Ma_abs 1 = .ok (.lconst 0, 1) := by decide +kernel
theorem d_Ma_abs_2 : decode b_Ma_abs 2 = .ok (.lcmp, 1) := by decide +kernel
theorem d_Ma_abs_3 : decode b_Ma_abs 3 = .ok (.ifCond .ge 8, 3) := by decide +kernel
theorem d_Ma_abs_6 : decode b_Ma_abs 6 = .ok (.lload_n 0, 1) := by decide +kernel
theorem d_Ma_abs_7 : decode b_Ma_abs 7 = .ok (.lneg, 1) := by decide +kernel
theorem d_Ma_abs_8 : decode b_Ma_abs 8 = .ok (.goto 4, 3) := by decide +kernel
theorem d_Ma_abs_11 : decode b_Ma_abs 11 = .ok (.lload_n 0, 1) := by decide +kernel
theorem d_Ma_abs_12 : decode b_Ma_abs 12 = .ok (.lreturn, 1) := by decide +kernel
abbrev b_Ma_max : ByteArray := prog_13_method_65_code
def y_Ma_max : MethodName := ⟨R_Ma, "max", "(II)I"⟩
theorem d_Ma_max_0 : decode b_Ma_max 0 = .ok (.iload_n 0, 1) := by decide +kernel
theorem d_Ma_max_1 : decode b_Ma_max 1 = .ok (.iload_n 1, 1) := by decide +kernel
theorem d_Ma_max_2 : decode b_Ma_max 2 = .ok (.if_icmp .lt 7, 3) := by decide +kernel
theorem d_Ma_max_5 : decode b_Ma_max 5 = .ok (.iload_n 0, 1) := by decide +kernel
theorem d_Ma_max_6 : decode b_Ma_max 6 = .ok (.goto 4, 3) := by decide +kernel
theorem d_Ma_max_9 : decode b_Ma_max 9 = .ok (.iload_n 1, 1) := by decide +kernel
theorem d_Ma_max_10 : decode b_Ma_max 10 = .ok (.ireturn, 1) := by decide +kernel
abbrev b_Ma_min : ByteArray := prog_13_method_69_code
def y_Ma_min : MethodName := ⟨R_Ma, "min", "(II)I"⟩
theorem d_Ma_min_0 : decode b_Ma_min 0 = .ok (.iload_n 0, 1) := by decide +kernel
theorem d_Ma_min_1 : decode b_Ma_min 1 = .ok (.iload_n 1, 1) := by decide +kernel
theorem d_Ma_min_2 : decode b_Ma_min 2 = .ok (.if_icmp .gt 7, 3) := by decide +kernel
theorem d_Ma_min_5 : decode b_Ma_min 5 = .ok (.iload_n 0, 1) := by decide +kernel
theorem d_Ma_min_6 : decode b_Ma_min 6 = .ok (.goto 4, 3) := by decide +kernel
theorem d_Ma_min_9 : decode b_Ma_min 9 = .ok (.iload_n 1, 1) := by decide +kernel
theorem d_Ma_min_10 : decode b_Ma_min 10 = .ok (.ireturn, 1) := by decide +kernel
abbrev b_Ac_init : ByteArray := prog_18_method_1_code
def y_Ac_init : MethodName := ⟨R_Ac, "<init>", "()V"⟩
theorem d_Ac_init_0 : decode b_Ac_init 0 = .ok (.aload_n 0, 1) := by decide +kernel
theorem d_Ac_init_1 : decode b_Ac_init 1 = .ok (.invokespecial 1, 3) := by decide +kernel
theorem d_Ac_init_4 : decode b_Ac_init 4 = .ok (.return_, 1) := by decide +kernel
abbrev b_Ab_init : ByteArray := prog_19_method_1_code
def y_Ab_init : MethodName := ⟨R_Ab, "<init>", "()V"⟩
theorem d_Ab_init_0 : decode b_Ab_init 0 = .ok (.aload_n 0, 1) := by decide +kernel
theorem d_Ab_init_1 : decode b_Ab_init 1 = .ok (.invokespecial 1, 3) := by decide +kernel
theorem d_Ab_init_4 : decode b_Ab_init 4 = .ok (.aload_n 0, 1) := by decide +kernel
theorem d_Ab_init_5 : decode b_Ab_init 5 = .ok (.iconst 0, 1) := by decide +kernel
theorem d_Ab_init_6 : decode b_Ab_init 6 = .ok (.putfield 7, 3) := by decide +kernel
theorem d_Ab_init_9 : decode b_Ab_init 9 = .ok (.return_, 1) := by decide +kernel
abbrev b_Al_init : ByteArray := prog_20_method_2_code
def y_Al_init : MethodName := ⟨R_Al, "<init>", "()V"⟩
theorem d_Al_init_0 : decode b_Al_init 0 = .ok (.aload_n 0, 1) := by decide +kernel
theorem d_Al_init_1 : decode b_Al_init 1 = .ok (.invokespecial 1, 3) := by decide +kernel
theorem d_Al_init_4 : decode b_Al_init 4 = .ok (.aload_n 0, 1) := by decide +kernel
theorem d_Al_init_5 : decode b_Al_init 5 = .ok (.getstatic 39, 3) := by decide +kernel
theorem d_Al_init_8 : decode b_Al_init 8 = .ok (.putfield 9, 3) := by decide +kernel
theorem d_Al_init_11 : decode b_Al_init 11 = .ok (.return_, 1) := by decide +kernel
abbrev b_Al_add1 : ByteArray := prog_20_method_25_code
def y_Al_add1 : MethodName := ⟨R_Al, "add", "(Ljava/lang/Object;)Z"⟩
theorem d_Al_add1_0 : decode b_Al_add1 0 = .ok (.aload_n 0, 1) := by decide +kernel
theorem d_Al_add1_1 : decode b_Al_add1 1 = .ok (.dup, 1) := by decide +kernel
theorem d_Al_add1_2 : decode b_Al_add1 2 = .ok (.getfield 63, 3) := by decide +kernel
theorem d_Al_add1_5 : decode b_Al_add1 5 = .ok (.iconst 1, 1) := by decide +kernel
theorem d_Al_add1_6 : decode b_Al_add1 6 = .ok (.iadd, 1) := by decide +kernel
theorem d_Al_add1_7 : decode b_Al_add1 7 = .ok (.putfield 63, 3) := by decide +kernel
theorem d_Al_add1_10 : decode b_Al_add1 10 = .ok (.aload_n 0, 1) := by decide +kernel
theorem d_Al_add1_11 : decode b_Al_add1 11 = .ok (.aload_n 1, 1) := by decide +kernel
theorem d_Al_add1_12 : decode b_Al_add1 12 = .ok (.aload_n 0, 1) := by decide +kernel
theorem d_Al_add1_13 : decode b_Al_add1 13 = .ok (.getfield 9, 3) := by decide +kernel
theorem d_Al_add1_16 : decode b_Al_add1 16 = .ok (.aload_n 0, 1) := by decide +kernel
theorem d_Al_add1_17 : decode b_Al_add1 17 = .ok (.getfield 48, 3) := by decide +kernel
theorem d_Al_add1_20 : decode b_Al_add1 20 = .ok (.invokevirtual 131, 3) := by decide +kernel
theorem d_Al_add1_23 : decode b_Al_add1 23 = .ok (.iconst 1, 1) := by decide +kernel
theorem d_Al_add1_24 : decode b_Al_add1 24 = .ok (.ireturn, 1) := by decide +kernel
abbrev b_Al_add3 : ByteArray := prog_20_method_24_code
def y_Al_add3 : MethodName := ⟨R_Al, "add", "(Ljava/lang/Object;[Ljava/lang/Object;I)V"⟩
theorem d_Al_add3_0 : decode b_Al_add3 0 = .ok (.iload_n 3, 1) := by decide +kernel
theorem d_Al_add3_1 : decode b_Al_add3 1 = .ok (.aload_n 2, 1) := by decide +kernel
theorem d_Al_add3_2 : decode b_Al_add3 2 = .ok (.arraylength, 1) := by decide +kernel
theorem d_Al_add3_3 : decode b_Al_add3 3 = .ok (.if_icmp .ne 8, 3) := by decide +kernel
theorem d_Al_add3_6 : decode b_Al_add3 6 = .ok (.aload_n 0, 1) := by decide +kernel
theorem d_Al_add3_7 : decode b_Al_add3 7 = .ok (.invokevirtual 129, 3) := by decide +kernel
theorem d_Al_add3_10 : decode b_Al_add3 10 = .ok (.astore_n 2, 1) := by decide +kernel
theorem d_Al_add3_11 : decode b_Al_add3 11 = .ok (.aload_n 2, 1) := by decide +kernel
theorem d_Al_add3_12 : decode b_Al_add3 12 = .ok (.iload_n 3, 1) := by decide +kernel
theorem d_Al_add3_13 : decode b_Al_add3 13 = .ok (.aload_n 1, 1) := by decide +kernel
theorem d_Al_add3_14 : decode b_Al_add3 14 = .ok (.aastore, 1) := by decide +kernel
theorem d_Al_add3_15 : decode b_Al_add3 15 = .ok (.aload_n 0, 1) := by decide +kernel
theorem d_Al_add3_16 : decode b_Al_add3 16 = .ok (.iload_n 3, 1) := by decide +kernel
theorem d_Al_add3_17 : decode b_Al_add3 17 = .ok (.iconst 1, 1) := by decide +kernel
theorem d_Al_add3_18 : decode b_Al_add3 18 = .ok (.iadd, 1) := by decide +kernel
theorem d_Al_add3_19 : decode b_Al_add3 19 = .ok (.putfield 48, 3) := by decide +kernel
theorem d_Al_add3_22 : decode b_Al_add3 22 = .ok (.return_, 1) := by decide +kernel
abbrev b_Al_elementData : ByteArray := prog_20_method_18_code
def y_Al_elementData : MethodName := ⟨R_Al, "elementData", "(I)Ljava/lang/Object;"⟩
theorem d_Al_elementData_0 : decode b_Al_elementData 0 = .ok (.aload_n 0, 1) := by decide +kernel
theorem d_Al_elementData_1 : decode b_Al_elementData 1 = .ok (.getfield 9, 3) := by decide +kernel
theorem d_Al_elementData_4 : decode b_Al_elementData 4 = .ok (.iload_n 1, 1) := by decide +kernel
theorem d_Al_elementData_5 : decode b_Al_elementData 5 = .ok (.aaload, 1) := by decide +kernel
theorem d_Al_elementData_6 : decode b_Al_elementData 6 = .ok (.areturn, 1) := by decide +kernel
abbrev b_Al_get : ByteArray := prog_20_method_20_code
def y_Al_get : MethodName := ⟨R_Al, "get", "(I)Ljava/lang/Object;"⟩
theorem d_Al_get_0 : decode b_Al_get 0 = .ok (.iload_n 1, 1) := by decide +kernel
theorem d_Al_get_1 : decode b_Al_get 1 = .ok (.aload_n 0, 1) := by decide +kernel
theorem d_Al_get_2 : decode b_Al_get 2 = .ok (.getfield 48, 3) := by decide +kernel
theorem d_Al_get_5 : decode b_Al_get 5 = .ok (.invokestatic 118, 3) := by decide +kernel
theorem d_Al_get_8 : decode b_Al_get 8 = .ok (.pop, 1) := by decide +kernel
theorem d_Al_get_9 : decode b_Al_get 9 = .ok (.aload_n 0, 1) := by decide +kernel
theorem d_Al_get_10 : decode b_Al_get 10 = .ok (.iload_n 1, 1) := by decide +kernel
theorem d_Al_get_11 : decode b_Al_get 11 = .ok (.invokevirtual 123, 3) := by decide +kernel
theorem d_Al_get_14 : decode b_Al_get 14 = .ok (.areturn, 1) := by decide +kernel
abbrev b_Al_grow0 : ByteArray := prog_20_method_7_code
def y_Al_grow0 : MethodName := ⟨R_Al, "grow", "()[Ljava/lang/Object;"⟩
theorem d_Al_grow0_0 : decode b_Al_grow0 0 = .ok (.aload_n 0, 1) := by decide +kernel
theorem d_Al_grow0_1 : decode b_Al_grow0 1 = .ok (.aload_n 0, 1) := by decide +kernel
theorem d_Al_grow0_2 : decode b_Al_grow0 2 = .ok (.getfield 48, 3) := by decide +kernel
theorem d_Al_grow0_5 : decode b_Al_grow0 5 = .ok (.iconst 1, 1) := by decide +kernel
theorem d_Al_grow0_6 : decode b_Al_grow0 6 = .ok (.iadd, 1) := by decide +kernel
theorem d_Al_grow0_7 : decode b_Al_grow0 7 = .ok (.invokevirtual 69, 3) := by decide +kernel
theorem d_Al_grow0_10 : decode b_Al_grow0 10 = .ok (.areturn, 1) := by decide +kernel
abbrev b_Al_grow1 : ByteArray := prog_20_method_6_code
def y_Al_grow1 : MethodName := ⟨R_Al, "grow", "(I)[Ljava/lang/Object;"⟩
theorem d_Al_grow1_0 : decode b_Al_grow1 0 = .ok (.aload_n 0, 1) := by decide +kernel
theorem d_Al_grow1_1 : decode b_Al_grow1 1 = .ok (.getfield 9, 3) := by decide +kernel
theorem d_Al_grow1_4 : decode b_Al_grow1 4 = .ok (.arraylength, 1) := by decide +kernel
theorem d_Al_grow1_5 : decode b_Al_grow1 5 = .ok (.istore_n 2, 1) := by decide +kernel
theorem d_Al_grow1_6 : decode b_Al_grow1 6 = .ok (.iload_n 2, 1) := by decide +kernel
theorem d_Al_grow1_7 : decode b_Al_grow1 7 = .ok (.ifCond .gt 13, 3) := by decide +kernel
theorem d_Al_grow1_10 : decode b_Al_grow1 10 = .ok (.aload_n 0, 1) := by decide +kernel
theorem d_Al_grow1_11 : decode b_Al_grow1 11 = .ok (.getfield 9, 3) := by decide +kernel
theorem d_Al_grow1_14 : decode b_Al_grow1 14 = .ok (.getstatic 39, 3) := by decide +kernel
theorem d_Al_grow1_17 : decode b_Al_grow1 17 = .ok (.if_acmp .eq 28, 3) := by decide +kernel
theorem d_Al_grow1_20 : decode b_Al_grow1 20 = .ok (.iload_n 2, 1) := by decide +kernel
theorem d_Al_grow1_21 : decode b_Al_grow1 21 = .ok (.iload_n 1, 1) := by decide +kernel
theorem d_Al_grow1_22 : decode b_Al_grow1 22 = .ok (.iload_n 2, 1) := by decide +kernel
theorem d_Al_grow1_23 : decode b_Al_grow1 23 = .ok (.isub, 1) := by decide +kernel
theorem d_Al_grow1_24 : decode b_Al_grow1 24 = .ok (.iload_n 2, 1) := by decide +kernel
theorem d_Al_grow1_25 : decode b_Al_grow1 25 = .ok (.iconst 1, 1) := by decide +kernel
theorem d_Al_grow1_26 : decode b_Al_grow1 26 = .ok (.ishr, 1) := by decide +kernel
theorem d_Al_grow1_27 : decode b_Al_grow1 27 = .ok (.invokestatic 73, 3) := by decide +kernel
theorem d_Al_grow1_30 : decode b_Al_grow1 30 = .ok (.istore_n 3, 1) := by decide +kernel
theorem d_Al_grow1_31 : decode b_Al_grow1 31 = .ok (.aload_n 0, 1) := by decide +kernel
theorem d_Al_grow1_32 : decode b_Al_grow1 32 = .ok (.aload_n 0, 1) := by decide +kernel
theorem d_Al_grow1_33 : decode b_Al_grow1 33 = .ok (.getfield 9, 3) := by decide +kernel
theorem d_Al_grow1_36 : decode b_Al_grow1 36 = .ok (.iload_n 3, 1) := by decide +kernel
theorem d_Al_grow1_37 : decode b_Al_grow1 37 = .ok (.invokestatic 66, 3) := by decide +kernel
theorem d_Al_grow1_40 : decode b_Al_grow1 40 = .ok (.dup_x1, 1) := by decide +kernel
theorem d_Al_grow1_41 : decode b_Al_grow1 41 = .ok (.putfield 9, 3) := by decide +kernel
theorem d_Al_grow1_44 : decode b_Al_grow1 44 = .ok (.areturn, 1) := by decide +kernel
theorem d_Al_grow1_45 : decode b_Al_grow1 45 = .ok (.aload_n 0, 1) := by decide +kernel
theorem d_Al_grow1_46 : decode b_Al_grow1 46 = .ok (.bipush 10, 2) := by decide +kernel
theorem d_Al_grow1_48 : decode b_Al_grow1 48 = .ok (.iload_n 1, 1) := by decide +kernel
theorem d_Al_grow1_49 : decode b_Al_grow1 49 = .ok (.invokestatic 79, 3) := by decide +kernel
theorem d_Al_grow1_52 : decode b_Al_grow1 52 = .ok (.anewarray 7, 3) := by decide +kernel
theorem d_Al_grow1_55 : decode b_Al_grow1 55 = .ok (.dup_x1, 1) := by decide +kernel
theorem d_Al_grow1_56 : decode b_Al_grow1 56 = .ok (.putfield 9, 3) := by decide +kernel
theorem d_Al_grow1_59 : decode b_Al_grow1 59 = .ok (.areturn, 1) := by decide +kernel
abbrev b_Al_size : ByteArray := prog_20_method_8_code
def y_Al_size : MethodName := ⟨R_Al, "size", "()I"⟩
theorem d_Al_size_0 : decode b_Al_size 0 = .ok (.aload_n 0, 1) := by decide +kernel
theorem d_Al_size_1 : decode b_Al_size 1 = .ok (.getfield 48, 3) := by decide +kernel
theorem d_Al_size_4 : decode b_Al_size 4 = .ok (.ireturn, 1) := by decide +kernel
abbrev b_Ar_copyOf2 : ByteArray := prog_21_method_119_code
def y_Ar_copyOf2 : MethodName := ⟨R_Ar, "copyOf", "([Ljava/lang/Object;I)[Ljava/lang/Object;"⟩
theorem d_Ar_copyOf2_0 : decode b_Ar_copyOf2 0 = .ok (.aload_n 0, 1) := by decide +kernel
theorem d_Ar_copyOf2_1 : decode b_Ar_copyOf2 1 = .ok (.iload_n 1, 1) := by decide +kernel
theorem d_Ar_copyOf2_2 : decode b_Ar_copyOf2 2 = .ok (.aload_n 0, 1) := by decide +kernel
theorem d_Ar_copyOf2_3 : decode b_Ar_copyOf2 3 = .ok (.invokevirtual 86, 3) := by decide +kernel
theorem d_Ar_copyOf2_6 : decode b_Ar_copyOf2 6 = .ok (.invokestatic 300, 3) := by decide +kernel
theorem d_Ar_copyOf2_9 : decode b_Ar_copyOf2 9 = .ok (.areturn, 1) := by decide +kernel
abbrev b_Ar_copyOf3 : ByteArray := prog_21_method_120_code
def y_Ar_copyOf3 : MethodName := ⟨R_Ar, "copyOf", "([Ljava/lang/Object;ILjava/lang/Class;)[Ljava/lang/Object;"⟩
theorem d_Ar_copyOf3_0 : decode b_Ar_copyOf3 0 = .ok (.aload_n 2, 1) := by decide +kernel
theorem d_Ar_copyOf3_1 : decode b_Ar_copyOf3 1 = .ok (.ldc 110, 2) := by decide +kernel
theorem d_Ar_copyOf3_3 : decode b_Ar_copyOf3 3 = .ok (.if_acmp .ne 10, 3) := by decide +kernel
theorem d_Ar_copyOf3_6 : decode b_Ar_copyOf3 6 = .ok (.iload_n 1, 1) := by decide +kernel
theorem d_Ar_copyOf3_7 : decode b_Ar_copyOf3 7 = .ok (.anewarray 2, 3) := by decide +kernel
theorem d_Ar_copyOf3_10 : decode b_Ar_copyOf3 10 = .ok (.goto 14, 3) := by decide +kernel
theorem d_Ar_copyOf3_13 : decode b_Ar_copyOf3 13 = .ok (.aload_n 2, 1) := by decide +kernel
theorem d_Ar_copyOf3_14 : decode b_Ar_copyOf3 14 = .ok (.invokevirtual 90, 3) := by decide +kernel
theorem d_Ar_copyOf3_17 : decode b_Ar_copyOf3 17 = .ok (.iload_n 1, 1) := by decide +kernel
theorem d_Ar_copyOf3_18 : decode b_Ar_copyOf3 18 = .ok (.invokestatic 95, 3) := by decide +kernel
theorem d_Ar_copyOf3_21 : decode b_Ar_copyOf3 21 = .ok (.checkcast 110, 3) := by decide +kernel
theorem d_Ar_copyOf3_24 : decode b_Ar_copyOf3 24 = .ok (.astore_n 3, 1) := by decide +kernel
theorem d_Ar_copyOf3_25 : decode b_Ar_copyOf3 25 = .ok (.aload_n 0, 1) := by decide +kernel
theorem d_Ar_copyOf3_26 : decode b_Ar_copyOf3 26 = .ok (.iconst 0, 1) := by decide +kernel
theorem d_Ar_copyOf3_27 : decode b_Ar_copyOf3 27 = .ok (.aload_n 3, 1) := by decide +kernel
theorem d_Ar_copyOf3_28 : decode b_Ar_copyOf3 28 = .ok (.iconst 0, 1) := by decide +kernel
theorem d_Ar_copyOf3_29 : decode b_Ar_copyOf3 29 = .ok (.aload_n 0, 1) := by decide +kernel
theorem d_Ar_copyOf3_30 : decode b_Ar_copyOf3 30 = .ok (.arraylength, 1) := by decide +kernel
theorem d_Ar_copyOf3_31 : decode b_Ar_copyOf3 31 = .ok (.iload_n 1, 1) := by decide +kernel
theorem d_Ar_copyOf3_32 : decode b_Ar_copyOf3 32 = .ok (.invokestatic 304, 3) := by decide +kernel
theorem d_Ar_copyOf3_35 : decode b_Ar_copyOf3 35 = .ok (.invokestatic 150, 3) := by decide +kernel
theorem d_Ar_copyOf3_38 : decode b_Ar_copyOf3 38 = .ok (.aload_n 3, 1) := by decide +kernel
theorem d_Ar_copyOf3_39 : decode b_Ar_copyOf3 39 = .ok (.areturn, 1) := by decide +kernel
abbrev b_Ar_fill : ByteArray := prog_21_method_103_code
def y_Ar_fill : MethodName := ⟨R_Ar, "fill", "([II)V"⟩
theorem d_Ar_fill_0 : decode b_Ar_fill 0 = .ok (.iconst 0, 1) := by decide +kernel
theorem d_Ar_fill_1 : decode b_Ar_fill 1 = .ok (.istore_n 2, 1) := by decide +kernel
theorem d_Ar_fill_2 : decode b_Ar_fill 2 = .ok (.aload_n 0, 1) := by decide +kernel
theorem d_Ar_fill_3 : decode b_Ar_fill 3 = .ok (.arraylength, 1) := by decide +kernel
theorem d_Ar_fill_4 : decode b_Ar_fill 4 = .ok (.istore_n 3, 1) := by decide +kernel
theorem d_Ar_fill_5 : decode b_Ar_fill 5 = .ok (.iload_n 2, 1) := by decide +kernel
theorem d_Ar_fill_6 : decode b_Ar_fill 6 = .ok (.iload_n 3, 1) := by decide +kernel
theorem d_Ar_fill_7 : decode b_Ar_fill 7 = .ok (.if_icmp .ge 13, 3) := by decide +kernel
theorem d_Ar_fill_10 : decode b_Ar_fill 10 = .ok (.aload_n 0, 1) := by decide +kernel
theorem d_Ar_fill_11 : decode b_Ar_fill 11 = .ok (.iload_n 2, 1) := by decide +kernel
theorem d_Ar_fill_12 : decode b_Ar_fill 12 = .ok (.iload_n 1, 1) := by decide +kernel
theorem d_Ar_fill_13 : decode b_Ar_fill 13 = .ok (.iastore, 1) := by decide +kernel
theorem d_Ar_fill_14 : decode b_Ar_fill 14 = .ok (.iinc 2 1, 3) := by decide +kernel
theorem d_Ar_fill_17 : decode b_Ar_fill 17 = .ok (.goto (-12), 3) := by decide +kernel
theorem d_Ar_fill_20 : decode b_Ar_fill 20 = .ok (.return_, 1) := by decide +kernel
abbrev b_Ob_checkIndex : ByteArray := prog_24_method_17_code
def y_Ob_checkIndex : MethodName := ⟨R_Ob, "checkIndex", "(II)I"⟩
theorem d_Ob_checkIndex_0 : decode b_Ob_checkIndex 0 = .ok (.iload_n 0, 1) := by decide +kernel
theorem d_Ob_checkIndex_1 : decode b_Ob_checkIndex 1 = .ok (.iload_n 1, 1) := by decide +kernel
theorem d_Ob_checkIndex_2 : decode b_Ob_checkIndex 2 = .ok (.aconst_null, 1) := by decide +kernel
theorem d_Ob_checkIndex_3 : decode b_Ob_checkIndex 3 = .ok (.invokestatic 105, 3) := by decide +kernel
theorem d_Ob_checkIndex_6 : decode b_Ob_checkIndex 6 = .ok (.ireturn, 1) := by decide +kernel
abbrev b_As_newLength : ByteArray := prog_27_method_27_code
def y_As_newLength : MethodName := ⟨R_As, "newLength", "(III)I"⟩
theorem d_As_newLength_0 : decode b_As_newLength 0 = .ok (.iload_n 0, 1) := by decide +kernel
theorem d_As_newLength_1 : decode b_As_newLength 1 = .ok (.iload_n 1, 1) := by decide +kernel
theorem d_As_newLength_2 : decode b_As_newLength 2 = .ok (.iload_n 2, 1) := by decide +kernel
theorem d_As_newLength_3 : decode b_As_newLength 3 = .ok (.invokestatic 194, 3) := by decide +kernel
theorem d_As_newLength_6 : decode b_As_newLength 6 = .ok (.iadd, 1) := by decide +kernel
theorem d_As_newLength_7 : decode b_As_newLength 7 = .ok (.istore_n 3, 1) := by decide +kernel
theorem d_As_newLength_8 : decode b_As_newLength 8 = .ok (.iconst 0, 1) := by decide +kernel
theorem d_As_newLength_9 : decode b_As_newLength 9 = .ok (.iload_n 3, 1) := by decide +kernel
theorem d_As_newLength_10 : decode b_As_newLength 10 = .ok (.if_icmp .ge 11, 3) := by decide +kernel
theorem d_As_newLength_13 : decode b_As_newLength 13 = .ok (.iload_n 3, 1) := by decide +kernel
theorem d_As_newLength_14 : decode b_As_newLength 14 = .ok (.ldc 200, 2) := by decide +kernel
theorem d_As_newLength_16 : decode b_As_newLength 16 = .ok (.if_icmp .gt 5, 3) := by decide +kernel
theorem d_As_newLength_19 : decode b_As_newLength 19 = .ok (.iload_n 3, 1) := by decide +kernel
theorem d_As_newLength_20 : decode b_As_newLength 20 = .ok (.ireturn, 1) := by decide +kernel
theorem d_As_newLength_21 : decode b_As_newLength 21 = .ok (.iload_n 0, 1) := by decide +kernel
theorem d_As_newLength_22 : decode b_As_newLength 22 = .ok (.iload_n 1, 1) := by decide +kernel
theorem d_As_newLength_23 : decode b_As_newLength 23 = .ok (.invokestatic 201, 3) := by decide +kernel
theorem d_As_newLength_26 : decode b_As_newLength 26 = .ok (.ireturn, 1) := by decide +kernel
abbrev b_Pr_checkIndex : ByteArray := prog_28_method_11_code
def y_Pr_checkIndex : MethodName := ⟨R_Pr, "checkIndex", "(IILjava/util/function/BiFunction;)I"⟩
theorem d_Pr_checkIndex_0 : decode b_Pr_checkIndex 0 = .ok (.iload_n 0, 1) := by decide +kernel
theorem d_Pr_checkIndex_1 : decode b_Pr_checkIndex 1 = .ok (.ifCond .lt 8, 3) := by decide +kernel
theorem d_Pr_checkIndex_4 : decode b_Pr_checkIndex 4 = .ok (.iload_n 0, 1) := by decide +kernel
theorem d_Pr_checkIndex_5 : decode b_Pr_checkIndex 5 = .ok (.iload_n 1, 1) := by decide +kernel
theorem d_Pr_checkIndex_6 : decode b_Pr_checkIndex 6 = .ok (.if_icmp .lt 10, 3) := by decide +kernel
theorem d_Pr_checkIndex_9 : decode b_Pr_checkIndex 9 = .ok (.aload_n 2, 1) := by decide +kernel
theorem d_Pr_checkIndex_10 : decode b_Pr_checkIndex 10 = .ok (.iload_n 0, 1) := by decide +kernel
theorem d_Pr_checkIndex_11 : decode b_Pr_checkIndex 11 = .ok (.iload_n 1, 1) := by decide +kernel
theorem d_Pr_checkIndex_12 : decode b_Pr_checkIndex 12 = .ok (.invokestatic 95, 3) := by decide +kernel
theorem d_Pr_checkIndex_15 : decode b_Pr_checkIndex 15 = .ok (.athrow, 1) := by decide +kernel
theorem d_Pr_checkIndex_16 : decode b_Pr_checkIndex 16 = .ok (.iload_n 0, 1) := by decide +kernel
theorem d_Pr_checkIndex_17 : decode b_Pr_checkIndex 17 = .ok (.ireturn, 1) := by decide +kernel
