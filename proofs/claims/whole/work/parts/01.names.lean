/-! ===== BEGIN printed: names, fields, word lists, decode rows ===== -/
def RX0 : String := "ValueRing"
def TX0 : u_T := fun k => match k with
  | 0 => ("ValueRing", "rows", "[[I", true)
  | 1 => ("ValueRing", "spare", "[I", true)
  | 2 => ("ValueRing", "powersOfZ", "[I", true)
  | 3 => ("ValueRing", "kindNow", "I", false)
  | 4 => ("ValueRing", "size", "I", false)
  | 5 => ("ValueRing", "modulus", "I", false)
  | 6 => ("ValueRing", "z", "I", false)
  | _ => ("ValueRing", "inverseOfSize", "I", false)
def tyX0 : Nat → FieldType := fun k => match k with
  | 0 => .array (.array .int)
  | 1 => .array .int
  | 2 => .array .int
  | 3 => .int
  | 4 => .int
  | 5 => .int
  | 6 => .int
  | _ => .int
abbrev wsX00 : List Cond := u_ws RX0 TX0 8
theorem nmX0 : ∀ a, a < 8 → ∀ b, b < 8 → a ≠ b → (TX0 a).2.1 ≠ (TX0 b).2.1 := by decide +kernel
theorem tyX0_ok : ∀ k, k < 8 → parseFieldDescriptor (TX0 k).2.2.1 = some (tyX0 k) := by decide +kernel
abbrev cX0_init : ByteArray := prog_1_method_1_code
def yX0_init : MethodName := ⟨RX0, "<init>", "()V"⟩
abbrev cX0_begin : ByteArray := prog_1_method_2_code
def yX0_begin : MethodName := ⟨RX0, "begin", "(I)I"⟩
abbrev cX0_set : ByteArray := prog_1_method_3_code
def yX0_set : MethodName := ⟨RX0, "set", "(III)I"⟩
abbrev cX0_get : ByteArray := prog_1_method_4_code
def yX0_get : MethodName := ⟨RX0, "get", "(II)I"⟩
abbrev cX0_setValue : ByteArray := prog_1_method_5_code
def yX0_setValue : MethodName := ⟨RX0, "setValue", "(III)I"⟩
abbrev cX0_value : ByteArray := prog_1_method_6_code
def yX0_value : MethodName := ⟨RX0, "value", "(II)I"⟩
abbrev cX0_join : ByteArray := prog_1_method_7_code
def yX0_join : MethodName := ⟨RX0, "join", "(IIII)I"⟩
abbrev cX0_count : ByteArray := prog_1_method_15_code
def yX0_count : MethodName := ⟨RX0, "count", "(I)I"⟩
abbrev cX0_startKind : ByteArray := prog_1_method_16_code
def yX0_startKind : MethodName := ⟨RX0, "startKind", "(I)V"⟩
abbrev cX0_leastZ : ByteArray := prog_1_method_17_code
def yX0_leastZ : MethodName := ⟨RX0, "leastZ", "()I"⟩
abbrev cX0_needRegister : ByteArray := prog_1_method_18_code
def yX0_needRegister : MethodName := ⟨RX0, "needRegister", "(I)V"⟩
abbrev cX0_needPlace : ByteArray := prog_1_method_19_code
def yX0_needPlace : MethodName := ⟨RX0, "needPlace", "(I)V"⟩
abbrev cX0_needUnit : ByteArray := prog_1_method_20_code
def yX0_needUnit : MethodName := ⟨RX0, "needUnit", "(I)V"⟩
abbrev cX0_powerOfPoint : ByteArray := prog_1_method_21_code
def yX0_powerOfPoint : MethodName := ⟨RX0, "powerOfPoint", "(II)I"⟩
abbrev cX0_coefficient : ByteArray := prog_1_method_22_code
def yX0_coefficient : MethodName := ⟨RX0, "coefficient", "([II)I"⟩
abbrev cX0_inverse : ByteArray := prog_1_method_25_code
def yX0_inverse : MethodName := ⟨RX0, "inverse", "(I)I"⟩
abbrev cX0_raised : ByteArray := prog_1_method_26_code
def yX0_raised : MethodName := ⟨RX0, "raised", "(II)I"⟩
abbrev cX0_zeros : ByteArray := prog_1_method_31_code
def yX0_zeros : MethodName := ⟨RX0, "zeros", "([I)I"⟩
abbrev cX0_units : ByteArray := prog_1_method_37_code
def yX0_units : MethodName := ⟨RX0, "units", "()I"⟩
def RX1 : String := "ValueRingModel"
def TX1 : u_T := fun k => match k with
  | _ => ("", "", "", false)
def tyX1 : Nat → FieldType := fun k => match k with
  | _ => .int
abbrev wsX10 : List Cond := u_ws RX1 TX1 0
theorem nmX1 : ∀ a, a < 0 → ∀ b, b < 0 → a ≠ b → (TX1 a).2.1 ≠ (TX1 b).2.1 := by decide +kernel
theorem tyX1_ok : ∀ k, k < 0 → parseFieldDescriptor (TX1 k).2.2.1 = some (tyX1 k) := by decide +kernel
def RJ9 : String := "java/lang/Math"
def TJ9 : u_T := fun k => match k with
  | _ => ("", "", "", false)
def tyJ9 : Nat → FieldType := fun k => match k with
  | _ => .int
theorem nmJ9 : ∀ a, a < 0 → ∀ b, b < 0 → a ≠ b → (TJ9 a).2.1 ≠ (TJ9 b).2.1 := by decide +kernel
theorem tyJ9_ok : ∀ k, k < 0 → parseFieldDescriptor (TJ9 k).2.2.1 = some (tyJ9 k) := by decide +kernel
abbrev cJ9_floorMod_7cf53 : ByteArray := prog_7_method_50_code
def yJ9_floorMod_7cf53 : MethodName := ⟨RJ9, "floorMod", "(II)I"⟩
def RJ0 : String := "java/lang/String"
def TJ0 : u_T := fun k => match k with
  | _ => ("", "", "", false)
def tyJ0 : Nat → FieldType := fun k => match k with
  | _ => .int
theorem nmJ0 : ∀ a, a < 0 → ∀ b, b < 0 → a ≠ b → (TJ0 a).2.1 ≠ (TJ0 b).2.1 := by decide +kernel
theorem tyJ0_ok : ∀ k, k < 0 → parseFieldDescriptor (TJ0 k).2.2.1 = some (tyJ0 k) := by decide +kernel
def RJ10 : String := "java/lang/System"
def TJ10 : u_T := fun k => match k with
  | _ => ("", "", "", false)
def tyJ10 : Nat → FieldType := fun k => match k with
  | _ => .int
theorem nmJ10 : ∀ a, a < 0 → ∀ b, b < 0 → a ≠ b → (TJ10 a).2.1 ≠ (TJ10 b).2.1 := by decide +kernel
theorem tyJ10_ok : ∀ k, k < 0 → parseFieldDescriptor (TJ10 k).2.2.1 = some (tyJ10 k) := by decide +kernel
def RJ7 : String := "java/util/Arrays"
def TJ7 : u_T := fun k => match k with
  | _ => ("", "", "", false)
def tyJ7 : Nat → FieldType := fun k => match k with
  | _ => .int
theorem nmJ7 : ∀ a, a < 0 → ∀ b, b < 0 → a ≠ b → (TJ7 a).2.1 ≠ (TJ7 b).2.1 := by decide +kernel
theorem tyJ7_ok : ∀ k, k < 0 → parseFieldDescriptor (TJ7 k).2.2.1 = some (tyJ7 k) := by decide +kernel
abbrev cJ7_fill_53178 : ByteArray := prog_12_method_103_code
def yJ7_fill_53178 : MethodName := ⟨RJ7, "fill", "([II)V"⟩
def RL : String := "ValueRingLaw"
abbrev cL_begin : ByteArray := method_3_code
def yL_begin : MethodName := ⟨RL, "begin", "(LValueRing;I[J)I"⟩
abbrev cL_set : ByteArray := method_4_code
def yL_set : MethodName := ⟨RL, "set", "(LValueRing;III[J)I"⟩
abbrev cL_get : ByteArray := method_5_code
def yL_get : MethodName := ⟨RL, "get", "(LValueRing;II[J)I"⟩
abbrev cL_setValue : ByteArray := method_6_code
def yL_setValue : MethodName := ⟨RL, "setValue", "(LValueRing;III[J)I"⟩
abbrev cL_value : ByteArray := method_7_code
def yL_value : MethodName := ⟨RL, "value", "(LValueRing;II[J)I"⟩
abbrev cL_join : ByteArray := method_8_code
def yL_join : MethodName := ⟨RL, "join", "(LValueRing;IIII[J)I"⟩
abbrev cL_law : ByteArray := code
def yL_law : MethodName := ⟨RL, "law", "([I)Z"⟩
theorem dX0_init_0 : decode cX0_init 0 = .ok (.aload_n 0, 1) := by decide +kernel
theorem dX0_init_1 : decode cX0_init 1 = .ok (.invokespecial 1, 3) := by decide +kernel
theorem dX0_init_4 : decode cX0_init 4 = .ok (.aload_n 0, 1) := by decide +kernel
theorem dX0_init_5 : decode cX0_init 5 = .ok (.bipush 16, 2) := by decide +kernel
theorem dX0_init_7 : decode cX0_init 7 = .ok (.bipush 32, 2) := by decide +kernel
theorem dX0_init_9 : decode cX0_init 9 = .ok (.multianewarray 9 2, 4) := by decide +kernel
theorem dX0_init_13 : decode cX0_init 13 = .ok (.putfield 11, 3) := by decide +kernel
theorem dX0_init_16 : decode cX0_init 16 = .ok (.aload_n 0, 1) := by decide +kernel
theorem dX0_init_17 : decode cX0_init 17 = .ok (.bipush 32, 2) := by decide +kernel
theorem dX0_init_19 : decode cX0_init 19 = .ok (.newarray .int, 2) := by decide +kernel
theorem dX0_init_21 : decode cX0_init 21 = .ok (.putfield 14, 3) := by decide +kernel
theorem dX0_init_24 : decode cX0_init 24 = .ok (.aload_n 0, 1) := by decide +kernel
theorem dX0_init_25 : decode cX0_init 25 = .ok (.bipush 64, 2) := by decide +kernel
theorem dX0_init_27 : decode cX0_init 27 = .ok (.newarray .int, 2) := by decide +kernel
theorem dX0_init_29 : decode cX0_init 29 = .ok (.putfield 18, 3) := by decide +kernel
theorem dX0_init_32 : decode cX0_init 32 = .ok (.aload_n 0, 1) := by decide +kernel
theorem dX0_init_33 : decode cX0_init 33 = .ok (.iconst 0, 1) := by decide +kernel
theorem dX0_init_34 : decode cX0_init 34 = .ok (.invokevirtual 21, 3) := by decide +kernel
theorem dX0_init_37 : decode cX0_init 37 = .ok (.return_, 1) := by decide +kernel
theorem dX0_begin_0 : decode cX0_begin 0 = .ok (.iload_n 1, 1) := by decide +kernel
theorem dX0_begin_1 : decode cX0_begin 1 = .ok (.ifCond .lt 11, 3) := by decide +kernel
theorem dX0_begin_4 : decode cX0_begin 4 = .ok (.iload_n 1, 1) := by decide +kernel
theorem dX0_begin_5 : decode cX0_begin 5 = .ok (.getstatic 25, 3) := by decide +kernel
theorem dX0_begin_8 : decode cX0_begin 8 = .ok (.arraylength, 1) := by decide +kernel
theorem dX0_begin_9 : decode cX0_begin 9 = .ok (.if_icmp .lt 13, 3) := by decide +kernel
theorem dX0_begin_12 : decode cX0_begin 12 = .ok (.new 28, 3) := by decide +kernel
theorem dX0_begin_15 : decode cX0_begin 15 = .ok (.dup, 1) := by decide +kernel
theorem dX0_begin_16 : decode cX0_begin 16 = .ok (.ldc 30, 2) := by decide +kernel
theorem dX0_begin_18 : decode cX0_begin 18 = .ok (.invokespecial 32, 3) := by decide +kernel
theorem dX0_begin_21 : decode cX0_begin 21 = .ok (.athrow, 1) := by decide +kernel
theorem dX0_begin_22 : decode cX0_begin 22 = .ok (.aload_n 0, 1) := by decide +kernel
theorem dX0_begin_23 : decode cX0_begin 23 = .ok (.iload_n 1, 1) := by decide +kernel
theorem dX0_begin_24 : decode cX0_begin 24 = .ok (.invokevirtual 21, 3) := by decide +kernel
theorem dX0_begin_27 : decode cX0_begin 27 = .ok (.aload_n 0, 1) := by decide +kernel
theorem dX0_begin_28 : decode cX0_begin 28 = .ok (.getfield 35, 3) := by decide +kernel
theorem dX0_begin_31 : decode cX0_begin 31 = .ok (.ireturn, 1) := by decide +kernel
theorem dX0_set_0 : decode cX0_set 0 = .ok (.aload_n 0, 1) := by decide +kernel
theorem dX0_set_1 : decode cX0_set 1 = .ok (.iload_n 1, 1) := by decide +kernel
theorem dX0_set_2 : decode cX0_set 2 = .ok (.invokevirtual 39, 3) := by decide +kernel
theorem dX0_set_5 : decode cX0_set 5 = .ok (.aload_n 0, 1) := by decide +kernel
theorem dX0_set_6 : decode cX0_set 6 = .ok (.iload_n 2, 1) := by decide +kernel
theorem dX0_set_7 : decode cX0_set 7 = .ok (.invokevirtual 42, 3) := by decide +kernel
theorem dX0_set_10 : decode cX0_set 10 = .ok (.aload_n 0, 1) := by decide +kernel
theorem dX0_set_11 : decode cX0_set 11 = .ok (.aload_n 0, 1) := by decide +kernel
theorem dX0_set_12 : decode cX0_set 12 = .ok (.getfield 11, 3) := by decide +kernel
theorem dX0_set_15 : decode cX0_set 15 = .ok (.iload_n 1, 1) := by decide +kernel
theorem dX0_set_16 : decode cX0_set 16 = .ok (.aaload, 1) := by decide +kernel
theorem dX0_set_17 : decode cX0_set 17 = .ok (.iload_n 2, 1) := by decide +kernel
theorem dX0_set_18 : decode cX0_set 18 = .ok (.invokevirtual 45, 3) := by decide +kernel
theorem dX0_set_21 : decode cX0_set 21 = .ok (.istore 4, 2) := by decide +kernel
theorem dX0_set_23 : decode cX0_set 23 = .ok (.iload_n 3, 1) := by decide +kernel
theorem dX0_set_24 : decode cX0_set 24 = .ok (.aload_n 0, 1) := by decide +kernel
theorem dX0_set_25 : decode cX0_set 25 = .ok (.getfield 49, 3) := by decide +kernel
theorem dX0_set_28 : decode cX0_set 28 = .ok (.invokestatic 52, 3) := by decide +kernel
theorem dX0_set_31 : decode cX0_set 31 = .ok (.iload 4, 2) := by decide +kernel
theorem dX0_set_33 : decode cX0_set 33 = .ok (.isub, 1) := by decide +kernel
theorem dX0_set_34 : decode cX0_set 34 = .ok (.istore 5, 2) := by decide +kernel
theorem dX0_set_36 : decode cX0_set 36 = .ok (.iconst 0, 1) := by decide +kernel
theorem dX0_set_37 : decode cX0_set 37 = .ok (.istore 6, 2) := by decide +kernel
theorem dX0_set_39 : decode cX0_set 39 = .ok (.iload 6, 2) := by decide +kernel
theorem dX0_set_41 : decode cX0_set 41 = .ok (.aload_n 0, 1) := by decide +kernel
theorem dX0_set_42 : decode cX0_set 42 = .ok (.getfield 58, 3) := by decide +kernel
theorem dX0_set_45 : decode cX0_set 45 = .ok (.if_icmp .ge 45, 3) := by decide +kernel
theorem dX0_set_48 : decode cX0_set 48 = .ok (.aload_n 0, 1) := by decide +kernel
theorem dX0_set_49 : decode cX0_set 49 = .ok (.getfield 11, 3) := by decide +kernel
theorem dX0_set_52 : decode cX0_set 52 = .ok (.iload_n 1, 1) := by decide +kernel
theorem dX0_set_53 : decode cX0_set 53 = .ok (.aaload, 1) := by decide +kernel
theorem dX0_set_54 : decode cX0_set 54 = .ok (.iload 6, 2) := by decide +kernel
theorem dX0_set_56 : decode cX0_set 56 = .ok (.aload_n 0, 1) := by decide +kernel
theorem dX0_set_57 : decode cX0_set 57 = .ok (.getfield 11, 3) := by decide +kernel
theorem dX0_set_60 : decode cX0_set 60 = .ok (.iload_n 1, 1) := by decide +kernel
theorem dX0_set_61 : decode cX0_set 61 = .ok (.aaload, 1) := by decide +kernel
theorem dX0_set_62 : decode cX0_set 62 = .ok (.iload 6, 2) := by decide +kernel
theorem dX0_set_64 : decode cX0_set 64 = .ok (.iaload, 1) := by decide +kernel
theorem dX0_set_65 : decode cX0_set 65 = .ok (.iload 5, 2) := by decide +kernel
theorem dX0_set_67 : decode cX0_set 67 = .ok (.aload_n 0, 1) := by decide +kernel
theorem dX0_set_68 : decode cX0_set 68 = .ok (.iload 6, 2) := by decide +kernel
theorem dX0_set_70 : decode cX0_set 70 = .ok (.iload_n 2, 1) := by decide +kernel
theorem dX0_set_71 : decode cX0_set 71 = .ok (.invokevirtual 61, 3) := by decide +kernel
theorem dX0_set_74 : decode cX0_set 74 = .ok (.imul, 1) := by decide +kernel
theorem dX0_set_75 : decode cX0_set 75 = .ok (.iadd, 1) := by decide +kernel
theorem dX0_set_76 : decode cX0_set 76 = .ok (.aload_n 0, 1) := by decide +kernel
theorem dX0_set_77 : decode cX0_set 77 = .ok (.getfield 49, 3) := by decide +kernel
theorem dX0_set_80 : decode cX0_set 80 = .ok (.invokestatic 52, 3) := by decide +kernel
theorem dX0_set_83 : decode cX0_set 83 = .ok (.iastore, 1) := by decide +kernel
theorem dX0_set_84 : decode cX0_set 84 = .ok (.iinc 6 1, 3) := by decide +kernel
theorem dX0_set_87 : decode cX0_set 87 = .ok (.goto (-48), 3) := by decide +kernel
theorem dX0_set_90 : decode cX0_set 90 = .ok (.iload 4, 2) := by decide +kernel
theorem dX0_set_92 : decode cX0_set 92 = .ok (.ireturn, 1) := by decide +kernel
theorem dX0_get_0 : decode cX0_get 0 = .ok (.aload_n 0, 1) := by decide +kernel
theorem dX0_get_1 : decode cX0_get 1 = .ok (.iload_n 1, 1) := by decide +kernel
theorem dX0_get_2 : decode cX0_get 2 = .ok (.invokevirtual 39, 3) := by decide +kernel
theorem dX0_get_5 : decode cX0_get 5 = .ok (.aload_n 0, 1) := by decide +kernel
theorem dX0_get_6 : decode cX0_get 6 = .ok (.iload_n 2, 1) := by decide +kernel
theorem dX0_get_7 : decode cX0_get 7 = .ok (.invokevirtual 42, 3) := by decide +kernel
theorem dX0_get_10 : decode cX0_get 10 = .ok (.aload_n 0, 1) := by decide +kernel
theorem dX0_get_11 : decode cX0_get 11 = .ok (.aload_n 0, 1) := by decide +kernel
theorem dX0_get_12 : decode cX0_get 12 = .ok (.getfield 11, 3) := by decide +kernel
theorem dX0_get_15 : decode cX0_get 15 = .ok (.iload_n 1, 1) := by decide +kernel
theorem dX0_get_16 : decode cX0_get 16 = .ok (.aaload, 1) := by decide +kernel
theorem dX0_get_17 : decode cX0_get 17 = .ok (.iload_n 2, 1) := by decide +kernel
theorem dX0_get_18 : decode cX0_get 18 = .ok (.invokevirtual 45, 3) := by decide +kernel
theorem dX0_get_21 : decode cX0_get 21 = .ok (.ireturn, 1) := by decide +kernel
theorem dX0_setValue_0 : decode cX0_setValue 0 = .ok (.aload_n 0, 1) := by decide +kernel
theorem dX0_setValue_1 : decode cX0_setValue 1 = .ok (.iload_n 1, 1) := by decide +kernel
theorem dX0_setValue_2 : decode cX0_setValue 2 = .ok (.invokevirtual 39, 3) := by decide +kernel
theorem dX0_setValue_5 : decode cX0_setValue 5 = .ok (.aload_n 0, 1) := by decide +kernel
theorem dX0_setValue_6 : decode cX0_setValue 6 = .ok (.iload_n 2, 1) := by decide +kernel
theorem dX0_setValue_7 : decode cX0_setValue 7 = .ok (.invokevirtual 42, 3) := by decide +kernel
theorem dX0_setValue_10 : decode cX0_setValue 10 = .ok (.aload_n 0, 1) := by decide +kernel
theorem dX0_setValue_11 : decode cX0_setValue 11 = .ok (.getfield 11, 3) := by decide +kernel
theorem dX0_setValue_14 : decode cX0_setValue 14 = .ok (.iload_n 1, 1) := by decide +kernel
theorem dX0_setValue_15 : decode cX0_setValue 15 = .ok (.aaload, 1) := by decide +kernel
theorem dX0_setValue_16 : decode cX0_setValue 16 = .ok (.iload_n 2, 1) := by decide +kernel
theorem dX0_setValue_17 : decode cX0_setValue 17 = .ok (.iaload, 1) := by decide +kernel
theorem dX0_setValue_18 : decode cX0_setValue 18 = .ok (.istore 4, 2) := by decide +kernel
theorem dX0_setValue_20 : decode cX0_setValue 20 = .ok (.aload_n 0, 1) := by decide +kernel
theorem dX0_setValue_21 : decode cX0_setValue 21 = .ok (.getfield 11, 3) := by decide +kernel
theorem dX0_setValue_24 : decode cX0_setValue 24 = .ok (.iload_n 1, 1) := by decide +kernel
theorem dX0_setValue_25 : decode cX0_setValue 25 = .ok (.aaload, 1) := by decide +kernel
theorem dX0_setValue_26 : decode cX0_setValue 26 = .ok (.iload_n 2, 1) := by decide +kernel
theorem dX0_setValue_27 : decode cX0_setValue 27 = .ok (.iload_n 3, 1) := by decide +kernel
theorem dX0_setValue_28 : decode cX0_setValue 28 = .ok (.aload_n 0, 1) := by decide +kernel
theorem dX0_setValue_29 : decode cX0_setValue 29 = .ok (.getfield 49, 3) := by decide +kernel
theorem dX0_setValue_32 : decode cX0_setValue 32 = .ok (.invokestatic 52, 3) := by decide +kernel
theorem dX0_setValue_35 : decode cX0_setValue 35 = .ok (.iastore, 1) := by decide +kernel
theorem dX0_setValue_36 : decode cX0_setValue 36 = .ok (.iload 4, 2) := by decide +kernel
theorem dX0_setValue_38 : decode cX0_setValue 38 = .ok (.ireturn, 1) := by decide +kernel
theorem dX0_value_0 : decode cX0_value 0 = .ok (.aload_n 0, 1) := by decide +kernel
theorem dX0_value_1 : decode cX0_value 1 = .ok (.iload_n 1, 1) := by decide +kernel
theorem dX0_value_2 : decode cX0_value 2 = .ok (.invokevirtual 39, 3) := by decide +kernel
theorem dX0_value_5 : decode cX0_value 5 = .ok (.aload_n 0, 1) := by decide +kernel
theorem dX0_value_6 : decode cX0_value 6 = .ok (.iload_n 2, 1) := by decide +kernel
theorem dX0_value_7 : decode cX0_value 7 = .ok (.invokevirtual 42, 3) := by decide +kernel
theorem dX0_value_10 : decode cX0_value 10 = .ok (.aload_n 0, 1) := by decide +kernel
theorem dX0_value_11 : decode cX0_value 11 = .ok (.getfield 11, 3) := by decide +kernel
theorem dX0_value_14 : decode cX0_value 14 = .ok (.iload_n 1, 1) := by decide +kernel
theorem dX0_value_15 : decode cX0_value 15 = .ok (.aaload, 1) := by decide +kernel
theorem dX0_value_16 : decode cX0_value 16 = .ok (.iload_n 2, 1) := by decide +kernel
theorem dX0_value_17 : decode cX0_value 17 = .ok (.iaload, 1) := by decide +kernel
theorem dX0_value_18 : decode cX0_value 18 = .ok (.ireturn, 1) := by decide +kernel
theorem dX0_join_0 : decode cX0_join 0 = .ok (.aload_n 0, 1) := by decide +kernel
theorem dX0_join_1 : decode cX0_join 1 = .ok (.iload_n 1, 1) := by decide +kernel
theorem dX0_join_2 : decode cX0_join 2 = .ok (.invokevirtual 39, 3) := by decide +kernel
theorem dX0_join_5 : decode cX0_join 5 = .ok (.aload_n 0, 1) := by decide +kernel
theorem dX0_join_6 : decode cX0_join 6 = .ok (.iload_n 3, 1) := by decide +kernel
theorem dX0_join_7 : decode cX0_join 7 = .ok (.invokevirtual 39, 3) := by decide +kernel
theorem dX0_join_10 : decode cX0_join 10 = .ok (.aload_n 0, 1) := by decide +kernel
theorem dX0_join_11 : decode cX0_join 11 = .ok (.iload 4, 2) := by decide +kernel
theorem dX0_join_13 : decode cX0_join 13 = .ok (.invokevirtual 39, 3) := by decide +kernel
theorem dX0_join_16 : decode cX0_join 16 = .ok (.iload_n 2, 1) := by decide +kernel
theorem dX0_join_17 : decode cX0_join 17 = .ok (.ifCond .lt 8, 3) := by decide +kernel
theorem dX0_join_20 : decode cX0_join 20 = .ok (.iload_n 2, 1) := by decide +kernel
theorem dX0_join_21 : decode cX0_join 21 = .ok (.iconst 3, 1) := by decide +kernel
theorem dX0_join_22 : decode cX0_join 22 = .ok (.if_icmp .le 13, 3) := by decide +kernel
theorem dX0_join_25 : decode cX0_join 25 = .ok (.new 28, 3) := by decide +kernel
theorem dX0_join_28 : decode cX0_join 28 = .ok (.dup, 1) := by decide +kernel
theorem dX0_join_29 : decode cX0_join 29 = .ok (.ldc 64, 2) := by decide +kernel
theorem dX0_join_31 : decode cX0_join 31 = .ok (.invokespecial 32, 3) := by decide +kernel
theorem dX0_join_34 : decode cX0_join 34 = .ok (.athrow, 1) := by decide +kernel
theorem dX0_join_35 : decode cX0_join 35 = .ok (.iload_n 2, 1) := by decide +kernel
theorem dX0_join_36 : decode cX0_join 36 = .ok (.iconst 3, 1) := by decide +kernel
theorem dX0_join_37 : decode cX0_join 37 = .ok (.if_icmp .ne 9, 3) := by decide +kernel
theorem dX0_join_40 : decode cX0_join 40 = .ok (.aload_n 0, 1) := by decide +kernel
theorem dX0_join_41 : decode cX0_join 41 = .ok (.iload 4, 2) := by decide +kernel
theorem dX0_join_43 : decode cX0_join 43 = .ok (.invokevirtual 66, 3) := by decide +kernel
theorem dX0_join_46 : decode cX0_join 46 = .ok (.iconst 0, 1) := by decide +kernel
theorem dX0_join_47 : decode cX0_join 47 = .ok (.istore 5, 2) := by decide +kernel
theorem dX0_join_49 : decode cX0_join 49 = .ok (.iload 5, 2) := by decide +kernel
theorem dX0_join_51 : decode cX0_join 51 = .ok (.aload_n 0, 1) := by decide +kernel
theorem dX0_join_52 : decode cX0_join 52 = .ok (.getfield 58, 3) := by decide +kernel
theorem dX0_join_55 : decode cX0_join 55 = .ok (.if_icmp .ge 42, 3) := by decide +kernel
theorem dX0_join_58 : decode cX0_join 58 = .ok (.aload_n 0, 1) := by decide +kernel
theorem dX0_join_59 : decode cX0_join 59 = .ok (.getfield 11, 3) := by decide +kernel
theorem dX0_join_62 : decode cX0_join 62 = .ok (.iload_n 1, 1) := by decide +kernel
theorem dX0_join_63 : decode cX0_join 63 = .ok (.aaload, 1) := by decide +kernel
theorem dX0_join_64 : decode cX0_join 64 = .ok (.iload 5, 2) := by decide +kernel
theorem dX0_join_66 : decode cX0_join 66 = .ok (.aload_n 0, 1) := by decide +kernel
theorem dX0_join_67 : decode cX0_join 67 = .ok (.iload_n 2, 1) := by decide +kernel
theorem dX0_join_68 : decode cX0_join 68 = .ok (.aload_n 0, 1) := by decide +kernel
theorem dX0_join_69 : decode cX0_join 69 = .ok (.getfield 11, 3) := by decide +kernel
theorem dX0_join_72 : decode cX0_join 72 = .ok (.iload_n 3, 1) := by decide +kernel
theorem dX0_join_73 : decode cX0_join 73 = .ok (.aaload, 1) := by decide +kernel
theorem dX0_join_74 : decode cX0_join 74 = .ok (.iload 5, 2) := by decide +kernel
theorem dX0_join_76 : decode cX0_join 76 = .ok (.iaload, 1) := by decide +kernel
theorem dX0_join_77 : decode cX0_join 77 = .ok (.aload_n 0, 1) := by decide +kernel
theorem dX0_join_78 : decode cX0_join 78 = .ok (.getfield 11, 3) := by decide +kernel
theorem dX0_join_81 : decode cX0_join 81 = .ok (.iload 4, 2) := by decide +kernel
theorem dX0_join_83 : decode cX0_join 83 = .ok (.aaload, 1) := by decide +kernel
theorem dX0_join_84 : decode cX0_join 84 = .ok (.iload 5, 2) := by decide +kernel
theorem dX0_join_86 : decode cX0_join 86 = .ok (.iaload, 1) := by decide +kernel
theorem dX0_join_87 : decode cX0_join 87 = .ok (.invokevirtual 69, 3) := by decide +kernel
theorem dX0_join_90 : decode cX0_join 90 = .ok (.iastore, 1) := by decide +kernel
theorem dX0_join_91 : decode cX0_join 91 = .ok (.iinc 5 1, 3) := by decide +kernel
theorem dX0_join_94 : decode cX0_join 94 = .ok (.goto (-45), 3) := by decide +kernel
theorem dX0_join_97 : decode cX0_join 97 = .ok (.aload_n 0, 1) := by decide +kernel
theorem dX0_join_98 : decode cX0_join 98 = .ok (.aload_n 0, 1) := by decide +kernel
theorem dX0_join_99 : decode cX0_join 99 = .ok (.getfield 11, 3) := by decide +kernel
theorem dX0_join_102 : decode cX0_join 102 = .ok (.iload_n 1, 1) := by decide +kernel
theorem dX0_join_103 : decode cX0_join 103 = .ok (.aaload, 1) := by decide +kernel
theorem dX0_join_104 : decode cX0_join 104 = .ok (.invokevirtual 73, 3) := by decide +kernel
theorem dX0_join_107 : decode cX0_join 107 = .ok (.ireturn, 1) := by decide +kernel
theorem dX0_count_0 : decode cX0_count 0 = .ok (.iload_n 1, 1) := by decide +kernel
theorem dX0_count_1 : decode cX0_count 1 = .ok (.tableswitch 60 0 4 #[35, 40, 45, 50, 55], 35) := by decide +kernel
theorem dX0_count_36 : decode cX0_count 36 = .ok (.aload_n 0, 1) := by decide +kernel
theorem dX0_count_37 : decode cX0_count 37 = .ok (.getfield 121, 3) := by decide +kernel
theorem dX0_count_40 : decode cX0_count 40 = .ok (.ireturn, 1) := by decide +kernel
theorem dX0_count_41 : decode cX0_count 41 = .ok (.aload_n 0, 1) := by decide +kernel
theorem dX0_count_42 : decode cX0_count 42 = .ok (.getfield 58, 3) := by decide +kernel
theorem dX0_count_45 : decode cX0_count 45 = .ok (.ireturn, 1) := by decide +kernel
theorem dX0_count_46 : decode cX0_count 46 = .ok (.aload_n 0, 1) := by decide +kernel
theorem dX0_count_47 : decode cX0_count 47 = .ok (.getfield 49, 3) := by decide +kernel
theorem dX0_count_50 : decode cX0_count 50 = .ok (.ireturn, 1) := by decide +kernel
theorem dX0_count_51 : decode cX0_count 51 = .ok (.aload_n 0, 1) := by decide +kernel
theorem dX0_count_52 : decode cX0_count 52 = .ok (.getfield 35, 3) := by decide +kernel
theorem dX0_count_55 : decode cX0_count 55 = .ok (.ireturn, 1) := by decide +kernel
theorem dX0_count_56 : decode cX0_count 56 = .ok (.aload_n 0, 1) := by decide +kernel
theorem dX0_count_57 : decode cX0_count 57 = .ok (.invokevirtual 124, 3) := by decide +kernel
theorem dX0_count_60 : decode cX0_count 60 = .ok (.ireturn, 1) := by decide +kernel
theorem dX0_count_61 : decode cX0_count 61 = .ok (.iconst (-1), 1) := by decide +kernel
theorem dX0_count_62 : decode cX0_count 62 = .ok (.ireturn, 1) := by decide +kernel
theorem dX0_startKind_0 : decode cX0_startKind 0 = .ok (.aload_n 0, 1) := by decide +kernel
theorem dX0_startKind_1 : decode cX0_startKind 1 = .ok (.iload_n 1, 1) := by decide +kernel
theorem dX0_startKind_2 : decode cX0_startKind 2 = .ok (.putfield 121, 3) := by decide +kernel
theorem dX0_startKind_5 : decode cX0_startKind 5 = .ok (.aload_n 0, 1) := by decide +kernel
theorem dX0_startKind_6 : decode cX0_startKind 6 = .ok (.getstatic 25, 3) := by decide +kernel
theorem dX0_startKind_9 : decode cX0_startKind 9 = .ok (.iload_n 1, 1) := by decide +kernel
theorem dX0_startKind_10 : decode cX0_startKind 10 = .ok (.iaload, 1) := by decide +kernel
theorem dX0_startKind_11 : decode cX0_startKind 11 = .ok (.putfield 58, 3) := by decide +kernel
theorem dX0_startKind_14 : decode cX0_startKind 14 = .ok (.aload_n 0, 1) := by decide +kernel
theorem dX0_startKind_15 : decode cX0_startKind 15 = .ok (.getstatic 128, 3) := by decide +kernel
theorem dX0_startKind_18 : decode cX0_startKind 18 = .ok (.iload_n 1, 1) := by decide +kernel
theorem dX0_startKind_19 : decode cX0_startKind 19 = .ok (.iaload, 1) := by decide +kernel
theorem dX0_startKind_20 : decode cX0_startKind 20 = .ok (.putfield 49, 3) := by decide +kernel
theorem dX0_startKind_23 : decode cX0_startKind 23 = .ok (.aload_n 0, 1) := by decide +kernel
theorem dX0_startKind_24 : decode cX0_startKind 24 = .ok (.aload_n 0, 1) := by decide +kernel
theorem dX0_startKind_25 : decode cX0_startKind 25 = .ok (.invokevirtual 131, 3) := by decide +kernel
theorem dX0_startKind_28 : decode cX0_startKind 28 = .ok (.putfield 35, 3) := by decide +kernel
theorem dX0_startKind_31 : decode cX0_startKind 31 = .ok (.aload_n 0, 1) := by decide +kernel
theorem dX0_startKind_32 : decode cX0_startKind 32 = .ok (.aload_n 0, 1) := by decide +kernel
theorem dX0_startKind_33 : decode cX0_startKind 33 = .ok (.aload_n 0, 1) := by decide +kernel
theorem dX0_startKind_34 : decode cX0_startKind 34 = .ok (.getfield 58, 3) := by decide +kernel
theorem dX0_startKind_37 : decode cX0_startKind 37 = .ok (.invokevirtual 134, 3) := by decide +kernel
theorem dX0_startKind_40 : decode cX0_startKind 40 = .ok (.putfield 137, 3) := by decide +kernel
theorem dX0_startKind_43 : decode cX0_startKind 43 = .ok (.aload_n 0, 1) := by decide +kernel
theorem dX0_startKind_44 : decode cX0_startKind 44 = .ok (.getfield 18, 3) := by decide +kernel
theorem dX0_startKind_47 : decode cX0_startKind 47 = .ok (.iconst 0, 1) := by decide +kernel
theorem dX0_startKind_48 : decode cX0_startKind 48 = .ok (.iconst 1, 1) := by decide +kernel
theorem dX0_startKind_49 : decode cX0_startKind 49 = .ok (.iastore, 1) := by decide +kernel
theorem dX0_startKind_50 : decode cX0_startKind 50 = .ok (.iconst 1, 1) := by decide +kernel
theorem dX0_startKind_51 : decode cX0_startKind 51 = .ok (.istore_n 2, 1) := by decide +kernel
theorem dX0_startKind_52 : decode cX0_startKind 52 = .ok (.iload_n 2, 1) := by decide +kernel
theorem dX0_startKind_53 : decode cX0_startKind 53 = .ok (.iconst 2, 1) := by decide +kernel
theorem dX0_startKind_54 : decode cX0_startKind 54 = .ok (.aload_n 0, 1) := by decide +kernel
theorem dX0_startKind_55 : decode cX0_startKind 55 = .ok (.getfield 58, 3) := by decide +kernel
theorem dX0_startKind_58 : decode cX0_startKind 58 = .ok (.imul, 1) := by decide +kernel
theorem dX0_startKind_59 : decode cX0_startKind 59 = .ok (.if_icmp .ge 33, 3) := by decide +kernel
theorem dX0_startKind_62 : decode cX0_startKind 62 = .ok (.aload_n 0, 1) := by decide +kernel
theorem dX0_startKind_63 : decode cX0_startKind 63 = .ok (.getfield 18, 3) := by decide +kernel
theorem dX0_startKind_66 : decode cX0_startKind 66 = .ok (.iload_n 2, 1) := by decide +kernel
theorem dX0_startKind_67 : decode cX0_startKind 67 = .ok (.aload_n 0, 1) := by decide +kernel
theorem dX0_startKind_68 : decode cX0_startKind 68 = .ok (.getfield 18, 3) := by decide +kernel
theorem dX0_startKind_71 : decode cX0_startKind 71 = .ok (.iload_n 2, 1) := by decide +kernel
theorem dX0_startKind_72 : decode cX0_startKind 72 = .ok (.iconst 1, 1) := by decide +kernel
theorem dX0_startKind_73 : decode cX0_startKind 73 = .ok (.isub, 1) := by decide +kernel
theorem dX0_startKind_74 : decode cX0_startKind 74 = .ok (.iaload, 1) := by decide +kernel
theorem dX0_startKind_75 : decode cX0_startKind 75 = .ok (.aload_n 0, 1) := by decide +kernel
theorem dX0_startKind_76 : decode cX0_startKind 76 = .ok (.getfield 35, 3) := by decide +kernel
theorem dX0_startKind_79 : decode cX0_startKind 79 = .ok (.imul, 1) := by decide +kernel
theorem dX0_startKind_80 : decode cX0_startKind 80 = .ok (.aload_n 0, 1) := by decide +kernel
theorem dX0_startKind_81 : decode cX0_startKind 81 = .ok (.getfield 49, 3) := by decide +kernel
theorem dX0_startKind_84 : decode cX0_startKind 84 = .ok (.irem, 1) := by decide +kernel
theorem dX0_startKind_85 : decode cX0_startKind 85 = .ok (.iastore, 1) := by decide +kernel
theorem dX0_startKind_86 : decode cX0_startKind 86 = .ok (.iinc 2 1, 3) := by decide +kernel
theorem dX0_startKind_89 : decode cX0_startKind 89 = .ok (.goto (-37), 3) := by decide +kernel
theorem dX0_startKind_92 : decode cX0_startKind 92 = .ok (.iconst 0, 1) := by decide +kernel
theorem dX0_startKind_93 : decode cX0_startKind 93 = .ok (.istore_n 2, 1) := by decide +kernel
theorem dX0_startKind_94 : decode cX0_startKind 94 = .ok (.iload_n 2, 1) := by decide +kernel
theorem dX0_startKind_95 : decode cX0_startKind 95 = .ok (.bipush 16, 2) := by decide +kernel
theorem dX0_startKind_97 : decode cX0_startKind 97 = .ok (.if_icmp .ge 19, 3) := by decide +kernel
theorem dX0_startKind_100 : decode cX0_startKind 100 = .ok (.aload_n 0, 1) := by decide +kernel
theorem dX0_startKind_101 : decode cX0_startKind 101 = .ok (.getfield 11, 3) := by decide +kernel
theorem dX0_startKind_104 : decode cX0_startKind 104 = .ok (.iload_n 2, 1) := by decide +kernel
theorem dX0_startKind_105 : decode cX0_startKind 105 = .ok (.aaload, 1) := by decide +kernel
theorem dX0_startKind_106 : decode cX0_startKind 106 = .ok (.iconst 0, 1) := by decide +kernel
theorem dX0_startKind_107 : decode cX0_startKind 107 = .ok (.invokestatic 140, 3) := by decide +kernel
theorem dX0_startKind_110 : decode cX0_startKind 110 = .ok (.iinc 2 1, 3) := by decide +kernel
theorem dX0_startKind_113 : decode cX0_startKind 113 = .ok (.goto (-19), 3) := by decide +kernel
theorem dX0_startKind_116 : decode cX0_startKind 116 = .ok (.return_, 1) := by decide +kernel
theorem dX0_leastZ_0 : decode cX0_leastZ 0 = .ok (.iconst 2, 1) := by decide +kernel
theorem dX0_leastZ_1 : decode cX0_leastZ 1 = .ok (.istore_n 1, 1) := by decide +kernel
theorem dX0_leastZ_2 : decode cX0_leastZ 2 = .ok (.iload_n 1, 1) := by decide +kernel
theorem dX0_leastZ_3 : decode cX0_leastZ 3 = .ok (.aload_n 0, 1) := by decide +kernel
theorem dX0_leastZ_4 : decode cX0_leastZ 4 = .ok (.getfield 49, 3) := by decide +kernel
theorem dX0_leastZ_7 : decode cX0_leastZ 7 = .ok (.iconst 1, 1) := by decide +kernel
theorem dX0_leastZ_8 : decode cX0_leastZ 8 = .ok (.isub, 1) := by decide +kernel
theorem dX0_leastZ_9 : decode cX0_leastZ 9 = .ok (.if_icmp .ge 27, 3) := by decide +kernel
theorem dX0_leastZ_12 : decode cX0_leastZ 12 = .ok (.aload_n 0, 1) := by decide +kernel
theorem dX0_leastZ_13 : decode cX0_leastZ 13 = .ok (.iload_n 1, 1) := by decide +kernel
theorem dX0_leastZ_14 : decode cX0_leastZ 14 = .ok (.aload_n 0, 1) := by decide +kernel
theorem dX0_leastZ_15 : decode cX0_leastZ 15 = .ok (.getfield 58, 3) := by decide +kernel
theorem dX0_leastZ_18 : decode cX0_leastZ 18 = .ok (.invokevirtual 88, 3) := by decide +kernel
theorem dX0_leastZ_21 : decode cX0_leastZ 21 = .ok (.aload_n 0, 1) := by decide +kernel
theorem dX0_leastZ_22 : decode cX0_leastZ 22 = .ok (.getfield 49, 3) := by decide +kernel
theorem dX0_leastZ_25 : decode cX0_leastZ 25 = .ok (.iconst 1, 1) := by decide +kernel
theorem dX0_leastZ_26 : decode cX0_leastZ 26 = .ok (.isub, 1) := by decide +kernel
theorem dX0_leastZ_27 : decode cX0_leastZ 27 = .ok (.if_icmp .eq 9, 3) := by decide +kernel
theorem dX0_leastZ_30 : decode cX0_leastZ 30 = .ok (.iinc 1 1, 3) := by decide +kernel
theorem dX0_leastZ_33 : decode cX0_leastZ 33 = .ok (.goto (-31), 3) := by decide +kernel
theorem dX0_leastZ_36 : decode cX0_leastZ 36 = .ok (.iload_n 1, 1) := by decide +kernel
theorem dX0_leastZ_37 : decode cX0_leastZ 37 = .ok (.ireturn, 1) := by decide +kernel
theorem dX0_needRegister_0 : decode cX0_needRegister 0 = .ok (.iload_n 1, 1) := by decide +kernel
theorem dX0_needRegister_1 : decode cX0_needRegister 1 = .ok (.ifCond .lt 9, 3) := by decide +kernel
theorem dX0_needRegister_4 : decode cX0_needRegister 4 = .ok (.iload_n 1, 1) := by decide +kernel
theorem dX0_needRegister_5 : decode cX0_needRegister 5 = .ok (.bipush 16, 2) := by decide +kernel
theorem dX0_needRegister_7 : decode cX0_needRegister 7 = .ok (.if_icmp .lt 13, 3) := by decide +kernel
theorem dX0_needRegister_10 : decode cX0_needRegister 10 = .ok (.new 146, 3) := by decide +kernel
theorem dX0_needRegister_13 : decode cX0_needRegister 13 = .ok (.dup, 1) := by decide +kernel
theorem dX0_needRegister_14 : decode cX0_needRegister 14 = .ok (.ldc 148, 2) := by decide +kernel
theorem dX0_needRegister_16 : decode cX0_needRegister 16 = .ok (.invokespecial 150, 3) := by decide +kernel
theorem dX0_needRegister_19 : decode cX0_needRegister 19 = .ok (.athrow, 1) := by decide +kernel
theorem dX0_needRegister_20 : decode cX0_needRegister 20 = .ok (.return_, 1) := by decide +kernel
theorem dX0_needPlace_0 : decode cX0_needPlace 0 = .ok (.iload_n 1, 1) := by decide +kernel
theorem dX0_needPlace_1 : decode cX0_needPlace 1 = .ok (.ifCond .lt 11, 3) := by decide +kernel
theorem dX0_needPlace_4 : decode cX0_needPlace 4 = .ok (.iload_n 1, 1) := by decide +kernel
theorem dX0_needPlace_5 : decode cX0_needPlace 5 = .ok (.aload_n 0, 1) := by decide +kernel
theorem dX0_needPlace_6 : decode cX0_needPlace 6 = .ok (.getfield 58, 3) := by decide +kernel
theorem dX0_needPlace_9 : decode cX0_needPlace 9 = .ok (.if_icmp .lt 13, 3) := by decide +kernel
theorem dX0_needPlace_12 : decode cX0_needPlace 12 = .ok (.new 146, 3) := by decide +kernel
theorem dX0_needPlace_15 : decode cX0_needPlace 15 = .ok (.dup, 1) := by decide +kernel
theorem dX0_needPlace_16 : decode cX0_needPlace 16 = .ok (.ldc 151, 2) := by decide +kernel
theorem dX0_needPlace_18 : decode cX0_needPlace 18 = .ok (.invokespecial 150, 3) := by decide +kernel
theorem dX0_needPlace_21 : decode cX0_needPlace 21 = .ok (.athrow, 1) := by decide +kernel
theorem dX0_needPlace_22 : decode cX0_needPlace 22 = .ok (.return_, 1) := by decide +kernel
theorem dX0_needUnit_0 : decode cX0_needUnit 0 = .ok (.aload_n 0, 1) := by decide +kernel
theorem dX0_needUnit_1 : decode cX0_needUnit 1 = .ok (.aload_n 0, 1) := by decide +kernel
theorem dX0_needUnit_2 : decode cX0_needUnit 2 = .ok (.getfield 11, 3) := by decide +kernel
theorem dX0_needUnit_5 : decode cX0_needUnit 5 = .ok (.iload_n 1, 1) := by decide +kernel
theorem dX0_needUnit_6 : decode cX0_needUnit 6 = .ok (.aaload, 1) := by decide +kernel
theorem dX0_needUnit_7 : decode cX0_needUnit 7 = .ok (.invokevirtual 73, 3) := by decide +kernel
theorem dX0_needUnit_10 : decode cX0_needUnit 10 = .ok (.ifCond .le 13, 3) := by decide +kernel
theorem dX0_needUnit_13 : decode cX0_needUnit 13 = .ok (.new 95, 3) := by decide +kernel
theorem dX0_needUnit_16 : decode cX0_needUnit 16 = .ok (.dup, 1) := by decide +kernel
theorem dX0_needUnit_17 : decode cX0_needUnit 17 = .ok (.ldc 153, 2) := by decide +kernel
theorem dX0_needUnit_19 : decode cX0_needUnit 19 = .ok (.invokespecial 99, 3) := by decide +kernel
theorem dX0_needUnit_22 : decode cX0_needUnit 22 = .ok (.athrow, 1) := by decide +kernel
theorem dX0_needUnit_23 : decode cX0_needUnit 23 = .ok (.return_, 1) := by decide +kernel
theorem dX0_powerOfPoint_0 : decode cX0_powerOfPoint 0 = .ok (.aload_n 0, 1) := by decide +kernel
theorem dX0_powerOfPoint_1 : decode cX0_powerOfPoint 1 = .ok (.getfield 18, 3) := by decide +kernel
theorem dX0_powerOfPoint_4 : decode cX0_powerOfPoint 4 = .ok (.iconst 2, 1) := by decide +kernel
theorem dX0_powerOfPoint_5 : decode cX0_powerOfPoint 5 = .ok (.iload_n 1, 1) := by decide +kernel
theorem dX0_powerOfPoint_6 : decode cX0_powerOfPoint 6 = .ok (.imul, 1) := by decide +kernel
theorem dX0_powerOfPoint_7 : decode cX0_powerOfPoint 7 = .ok (.iconst 1, 1) := by decide +kernel
theorem dX0_powerOfPoint_8 : decode cX0_powerOfPoint 8 = .ok (.iadd, 1) := by decide +kernel
theorem dX0_powerOfPoint_9 : decode cX0_powerOfPoint 9 = .ok (.iload_n 2, 1) := by decide +kernel
theorem dX0_powerOfPoint_10 : decode cX0_powerOfPoint 10 = .ok (.imul, 1) := by decide +kernel
theorem dX0_powerOfPoint_11 : decode cX0_powerOfPoint 11 = .ok (.iconst 2, 1) := by decide +kernel
theorem dX0_powerOfPoint_12 : decode cX0_powerOfPoint 12 = .ok (.aload_n 0, 1) := by decide +kernel
theorem dX0_powerOfPoint_13 : decode cX0_powerOfPoint 13 = .ok (.getfield 58, 3) := by decide +kernel
theorem dX0_powerOfPoint_16 : decode cX0_powerOfPoint 16 = .ok (.imul, 1) := by decide +kernel
theorem dX0_powerOfPoint_17 : decode cX0_powerOfPoint 17 = .ok (.invokestatic 52, 3) := by decide +kernel
theorem dX0_powerOfPoint_20 : decode cX0_powerOfPoint 20 = .ok (.iaload, 1) := by decide +kernel
theorem dX0_powerOfPoint_21 : decode cX0_powerOfPoint 21 = .ok (.ireturn, 1) := by decide +kernel
theorem dX0_coefficient_0 : decode cX0_coefficient 0 = .ok (.iconst 0, 1) := by decide +kernel
theorem dX0_coefficient_1 : decode cX0_coefficient 1 = .ok (.istore_n 3, 1) := by decide +kernel
theorem dX0_coefficient_2 : decode cX0_coefficient 2 = .ok (.iconst 0, 1) := by decide +kernel
theorem dX0_coefficient_3 : decode cX0_coefficient 3 = .ok (.istore 4, 2) := by decide +kernel
theorem dX0_coefficient_5 : decode cX0_coefficient 5 = .ok (.iload 4, 2) := by decide +kernel
theorem dX0_coefficient_7 : decode cX0_coefficient 7 = .ok (.aload_n 0, 1) := by decide +kernel
theorem dX0_coefficient_8 : decode cX0_coefficient 8 = .ok (.getfield 58, 3) := by decide +kernel
theorem dX0_coefficient_11 : decode cX0_coefficient 11 = .ok (.if_icmp .ge 30, 3) := by decide +kernel
theorem dX0_coefficient_14 : decode cX0_coefficient 14 = .ok (.iload_n 3, 1) := by decide +kernel
theorem dX0_coefficient_15 : decode cX0_coefficient 15 = .ok (.aload_n 1, 1) := by decide +kernel
theorem dX0_coefficient_16 : decode cX0_coefficient 16 = .ok (.iload 4, 2) := by decide +kernel
theorem dX0_coefficient_18 : decode cX0_coefficient 18 = .ok (.iaload, 1) := by decide +kernel
theorem dX0_coefficient_19 : decode cX0_coefficient 19 = .ok (.aload_n 0, 1) := by decide +kernel
theorem dX0_coefficient_20 : decode cX0_coefficient 20 = .ok (.iload 4, 2) := by decide +kernel
theorem dX0_coefficient_22 : decode cX0_coefficient 22 = .ok (.iload_n 2, 1) := by decide +kernel
theorem dX0_coefficient_23 : decode cX0_coefficient 23 = .ok (.ineg, 1) := by decide +kernel
theorem dX0_coefficient_24 : decode cX0_coefficient 24 = .ok (.invokevirtual 61, 3) := by decide +kernel
theorem dX0_coefficient_27 : decode cX0_coefficient 27 = .ok (.imul, 1) := by decide +kernel
theorem dX0_coefficient_28 : decode cX0_coefficient 28 = .ok (.iadd, 1) := by decide +kernel
theorem dX0_coefficient_29 : decode cX0_coefficient 29 = .ok (.aload_n 0, 1) := by decide +kernel
theorem dX0_coefficient_30 : decode cX0_coefficient 30 = .ok (.getfield 49, 3) := by decide +kernel
theorem dX0_coefficient_33 : decode cX0_coefficient 33 = .ok (.irem, 1) := by decide +kernel
theorem dX0_coefficient_34 : decode cX0_coefficient 34 = .ok (.istore_n 3, 1) := by decide +kernel
theorem dX0_coefficient_35 : decode cX0_coefficient 35 = .ok (.iinc 4 1, 3) := by decide +kernel
theorem dX0_coefficient_38 : decode cX0_coefficient 38 = .ok (.goto (-33), 3) := by decide +kernel
theorem dX0_coefficient_41 : decode cX0_coefficient 41 = .ok (.iload_n 3, 1) := by decide +kernel
theorem dX0_coefficient_42 : decode cX0_coefficient 42 = .ok (.aload_n 0, 1) := by decide +kernel
theorem dX0_coefficient_43 : decode cX0_coefficient 43 = .ok (.getfield 137, 3) := by decide +kernel
theorem dX0_coefficient_46 : decode cX0_coefficient 46 = .ok (.imul, 1) := by decide +kernel
theorem dX0_coefficient_47 : decode cX0_coefficient 47 = .ok (.aload_n 0, 1) := by decide +kernel
theorem dX0_coefficient_48 : decode cX0_coefficient 48 = .ok (.getfield 49, 3) := by decide +kernel
theorem dX0_coefficient_51 : decode cX0_coefficient 51 = .ok (.irem, 1) := by decide +kernel
theorem dX0_coefficient_52 : decode cX0_coefficient 52 = .ok (.ireturn, 1) := by decide +kernel
theorem dX0_inverse_0 : decode cX0_inverse 0 = .ok (.aload_n 0, 1) := by decide +kernel
theorem dX0_inverse_1 : decode cX0_inverse 1 = .ok (.iload_n 1, 1) := by decide +kernel
theorem dX0_inverse_2 : decode cX0_inverse 2 = .ok (.aload_n 0, 1) := by decide +kernel
theorem dX0_inverse_3 : decode cX0_inverse 3 = .ok (.getfield 49, 3) := by decide +kernel
theorem dX0_inverse_6 : decode cX0_inverse 6 = .ok (.iconst 2, 1) := by decide +kernel
theorem dX0_inverse_7 : decode cX0_inverse 7 = .ok (.isub, 1) := by decide +kernel
theorem dX0_inverse_8 : decode cX0_inverse 8 = .ok (.invokevirtual 88, 3) := by decide +kernel
theorem dX0_inverse_11 : decode cX0_inverse 11 = .ok (.ireturn, 1) := by decide +kernel
theorem dX0_raised_0 : decode cX0_raised 0 = .ok (.iconst 1, 1) := by decide +kernel
theorem dX0_raised_1 : decode cX0_raised 1 = .ok (.istore_n 3, 1) := by decide +kernel
theorem dX0_raised_2 : decode cX0_raised 2 = .ok (.iload_n 1, 1) := by decide +kernel
theorem dX0_raised_3 : decode cX0_raised 3 = .ok (.istore 4, 2) := by decide +kernel
theorem dX0_raised_5 : decode cX0_raised 5 = .ok (.iload_n 2, 1) := by decide +kernel
theorem dX0_raised_6 : decode cX0_raised 6 = .ok (.istore 5, 2) := by decide +kernel
theorem dX0_raised_8 : decode cX0_raised 8 = .ok (.iload 5, 2) := by decide +kernel
theorem dX0_raised_10 : decode cX0_raised 10 = .ok (.ifCond .le 42, 3) := by decide +kernel
theorem dX0_raised_13 : decode cX0_raised 13 = .ok (.iload 5, 2) := by decide +kernel
theorem dX0_raised_15 : decode cX0_raised 15 = .ok (.iconst 2, 1) := by decide +kernel
theorem dX0_raised_16 : decode cX0_raised 16 = .ok (.irem, 1) := by decide +kernel
theorem dX0_raised_17 : decode cX0_raised 17 = .ok (.iconst 1, 1) := by decide +kernel
theorem dX0_raised_18 : decode cX0_raised 18 = .ok (.if_icmp .ne 13, 3) := by decide +kernel
theorem dX0_raised_21 : decode cX0_raised 21 = .ok (.iload_n 3, 1) := by decide +kernel
theorem dX0_raised_22 : decode cX0_raised 22 = .ok (.iload 4, 2) := by decide +kernel
theorem dX0_raised_24 : decode cX0_raised 24 = .ok (.imul, 1) := by decide +kernel
theorem dX0_raised_25 : decode cX0_raised 25 = .ok (.aload_n 0, 1) := by decide +kernel
theorem dX0_raised_26 : decode cX0_raised 26 = .ok (.getfield 49, 3) := by decide +kernel
theorem dX0_raised_29 : decode cX0_raised 29 = .ok (.irem, 1) := by decide +kernel
theorem dX0_raised_30 : decode cX0_raised 30 = .ok (.istore_n 3, 1) := by decide +kernel
theorem dX0_raised_31 : decode cX0_raised 31 = .ok (.iload 4, 2) := by decide +kernel
theorem dX0_raised_33 : decode cX0_raised 33 = .ok (.iload 4, 2) := by decide +kernel
theorem dX0_raised_35 : decode cX0_raised 35 = .ok (.imul, 1) := by decide +kernel
theorem dX0_raised_36 : decode cX0_raised 36 = .ok (.aload_n 0, 1) := by decide +kernel
theorem dX0_raised_37 : decode cX0_raised 37 = .ok (.getfield 49, 3) := by decide +kernel
theorem dX0_raised_40 : decode cX0_raised 40 = .ok (.irem, 1) := by decide +kernel
theorem dX0_raised_41 : decode cX0_raised 41 = .ok (.istore 4, 2) := by decide +kernel
theorem dX0_raised_43 : decode cX0_raised 43 = .ok (.iload 5, 2) := by decide +kernel
theorem dX0_raised_45 : decode cX0_raised 45 = .ok (.iconst 2, 1) := by decide +kernel
theorem dX0_raised_46 : decode cX0_raised 46 = .ok (.idiv, 1) := by decide +kernel
theorem dX0_raised_47 : decode cX0_raised 47 = .ok (.istore 5, 2) := by decide +kernel
theorem dX0_raised_49 : decode cX0_raised 49 = .ok (.goto (-41), 3) := by decide +kernel
theorem dX0_raised_52 : decode cX0_raised 52 = .ok (.iload_n 3, 1) := by decide +kernel
theorem dX0_raised_53 : decode cX0_raised 53 = .ok (.ireturn, 1) := by decide +kernel
theorem dX0_zeros_0 : decode cX0_zeros 0 = .ok (.iconst 0, 1) := by decide +kernel
theorem dX0_zeros_1 : decode cX0_zeros 1 = .ok (.istore_n 2, 1) := by decide +kernel
theorem dX0_zeros_2 : decode cX0_zeros 2 = .ok (.iconst 0, 1) := by decide +kernel
theorem dX0_zeros_3 : decode cX0_zeros 3 = .ok (.istore_n 3, 1) := by decide +kernel
theorem dX0_zeros_4 : decode cX0_zeros 4 = .ok (.iload_n 3, 1) := by decide +kernel
theorem dX0_zeros_5 : decode cX0_zeros 5 = .ok (.aload_n 0, 1) := by decide +kernel
theorem dX0_zeros_6 : decode cX0_zeros 6 = .ok (.getfield 58, 3) := by decide +kernel
theorem dX0_zeros_9 : decode cX0_zeros 9 = .ok (.if_icmp .ge 18, 3) := by decide +kernel
theorem dX0_zeros_12 : decode cX0_zeros 12 = .ok (.aload_n 1, 1) := by decide +kernel
theorem dX0_zeros_13 : decode cX0_zeros 13 = .ok (.iload_n 3, 1) := by decide +kernel
theorem dX0_zeros_14 : decode cX0_zeros 14 = .ok (.iaload, 1) := by decide +kernel
theorem dX0_zeros_15 : decode cX0_zeros 15 = .ok (.ifCond .ne 6, 3) := by decide +kernel
theorem dX0_zeros_18 : decode cX0_zeros 18 = .ok (.iinc 2 1, 3) := by decide +kernel
theorem dX0_zeros_21 : decode cX0_zeros 21 = .ok (.iinc 3 1, 3) := by decide +kernel
theorem dX0_zeros_24 : decode cX0_zeros 24 = .ok (.goto (-20), 3) := by decide +kernel
theorem dX0_zeros_27 : decode cX0_zeros 27 = .ok (.iload_n 2, 1) := by decide +kernel
theorem dX0_zeros_28 : decode cX0_zeros 28 = .ok (.ireturn, 1) := by decide +kernel
theorem dX0_units_0 : decode cX0_units 0 = .ok (.iconst 0, 1) := by decide +kernel
theorem dX0_units_1 : decode cX0_units 1 = .ok (.istore_n 1, 1) := by decide +kernel
theorem dX0_units_2 : decode cX0_units 2 = .ok (.iconst 0, 1) := by decide +kernel
theorem dX0_units_3 : decode cX0_units 3 = .ok (.istore_n 2, 1) := by decide +kernel
theorem dX0_units_4 : decode cX0_units 4 = .ok (.iload_n 2, 1) := by decide +kernel
theorem dX0_units_5 : decode cX0_units 5 = .ok (.bipush 16, 2) := by decide +kernel
theorem dX0_units_7 : decode cX0_units 7 = .ok (.if_icmp .ge 25, 3) := by decide +kernel
theorem dX0_units_10 : decode cX0_units 10 = .ok (.aload_n 0, 1) := by decide +kernel
theorem dX0_units_11 : decode cX0_units 11 = .ok (.aload_n 0, 1) := by decide +kernel
theorem dX0_units_12 : decode cX0_units 12 = .ok (.getfield 11, 3) := by decide +kernel
theorem dX0_units_15 : decode cX0_units 15 = .ok (.iload_n 2, 1) := by decide +kernel
theorem dX0_units_16 : decode cX0_units 16 = .ok (.aaload, 1) := by decide +kernel
theorem dX0_units_17 : decode cX0_units 17 = .ok (.invokevirtual 73, 3) := by decide +kernel
theorem dX0_units_20 : decode cX0_units 20 = .ok (.ifCond .ne 6, 3) := by decide +kernel
theorem dX0_units_23 : decode cX0_units 23 = .ok (.iinc 1 1, 3) := by decide +kernel
theorem dX0_units_26 : decode cX0_units 26 = .ok (.iinc 2 1, 3) := by decide +kernel
theorem dX0_units_29 : decode cX0_units 29 = .ok (.goto (-25), 3) := by decide +kernel
theorem dX0_units_32 : decode cX0_units 32 = .ok (.iload_n 1, 1) := by decide +kernel
theorem dX0_units_33 : decode cX0_units 33 = .ok (.ireturn, 1) := by decide +kernel
theorem dJ9_floorMod_7cf53_0 : decode cJ9_floorMod_7cf53 0 = .ok (.iload_n 0, 1) := by decide +kernel
theorem dJ9_floorMod_7cf53_1 : decode cJ9_floorMod_7cf53 1 = .ok (.iload_n 1, 1) := by decide +kernel
theorem dJ9_floorMod_7cf53_2 : decode cJ9_floorMod_7cf53 2 = .ok (.irem, 1) := by decide +kernel
theorem dJ9_floorMod_7cf53_3 : decode cJ9_floorMod_7cf53 3 = .ok (.istore_n 2, 1) := by decide +kernel
theorem dJ9_floorMod_7cf53_4 : decode cJ9_floorMod_7cf53 4 = .ok (.iload_n 0, 1) := by decide +kernel
theorem dJ9_floorMod_7cf53_5 : decode cJ9_floorMod_7cf53 5 = .ok (.iload_n 1, 1) := by decide +kernel
theorem dJ9_floorMod_7cf53_6 : decode cJ9_floorMod_7cf53 6 = .ok (.ixor, 1) := by decide +kernel
theorem dJ9_floorMod_7cf53_7 : decode cJ9_floorMod_7cf53 7 = .ok (.ifCond .ge 11, 3) := by decide +kernel
theorem dJ9_floorMod_7cf53_10 : decode cJ9_floorMod_7cf53 10 = .ok (.iload_n 2, 1) := by decide +kernel
theorem dJ9_floorMod_7cf53_11 : decode cJ9_floorMod_7cf53 11 = .ok (.ifCond .eq 7, 3) := by decide +kernel
theorem dJ9_floorMod_7cf53_14 : decode cJ9_floorMod_7cf53 14 = .ok (.iload_n 2, 1) := by decide +kernel
theorem dJ9_floorMod_7cf53_15 : decode cJ9_floorMod_7cf53 15 = .ok (.iload_n 1, 1) := by decide +kernel
theorem dJ9_floorMod_7cf53_16 : decode cJ9_floorMod_7cf53 16 = .ok (.iadd, 1) := by decide +kernel
theorem dJ9_floorMod_7cf53_17 : decode cJ9_floorMod_7cf53 17 = .ok (.ireturn, 1) := by decide +kernel
theorem dJ9_floorMod_7cf53_18 : decode cJ9_floorMod_7cf53 18 = .ok (.iload_n 2, 1) := by decide +kernel
theorem dJ9_floorMod_7cf53_19 : decode cJ9_floorMod_7cf53 19 = .ok (.ireturn, 1) := by decide +kernel
theorem dJ7_fill_53178_0 : decode cJ7_fill_53178 0 = .ok (.iconst 0, 1) := by decide +kernel
theorem dJ7_fill_53178_1 : decode cJ7_fill_53178 1 = .ok (.istore_n 2, 1) := by decide +kernel
theorem dJ7_fill_53178_2 : decode cJ7_fill_53178 2 = .ok (.aload_n 0, 1) := by decide +kernel
theorem dJ7_fill_53178_3 : decode cJ7_fill_53178 3 = .ok (.arraylength, 1) := by decide +kernel
theorem dJ7_fill_53178_4 : decode cJ7_fill_53178 4 = .ok (.istore_n 3, 1) := by decide +kernel
theorem dJ7_fill_53178_5 : decode cJ7_fill_53178 5 = .ok (.iload_n 2, 1) := by decide +kernel
theorem dJ7_fill_53178_6 : decode cJ7_fill_53178 6 = .ok (.iload_n 3, 1) := by decide +kernel
theorem dJ7_fill_53178_7 : decode cJ7_fill_53178 7 = .ok (.if_icmp .ge 13, 3) := by decide +kernel
theorem dJ7_fill_53178_10 : decode cJ7_fill_53178 10 = .ok (.aload_n 0, 1) := by decide +kernel
theorem dJ7_fill_53178_11 : decode cJ7_fill_53178 11 = .ok (.iload_n 2, 1) := by decide +kernel
theorem dJ7_fill_53178_12 : decode cJ7_fill_53178 12 = .ok (.iload_n 1, 1) := by decide +kernel
theorem dJ7_fill_53178_13 : decode cJ7_fill_53178 13 = .ok (.iastore, 1) := by decide +kernel
theorem dJ7_fill_53178_14 : decode cJ7_fill_53178 14 = .ok (.iinc 2 1, 3) := by decide +kernel
theorem dJ7_fill_53178_17 : decode cJ7_fill_53178 17 = .ok (.goto (-12), 3) := by decide +kernel
theorem dJ7_fill_53178_20 : decode cJ7_fill_53178 20 = .ok (.return_, 1) := by decide +kernel
theorem dL_begin_0 : decode cL_begin 0 = .ok (.aload_n 2, 1) := by decide +kernel
theorem dL_begin_1 : decode cL_begin 1 = .ok (.iconst 0, 1) := by decide +kernel
theorem dL_begin_2 : decode cL_begin 2 = .ok (.aload_n 0, 1) := by decide +kernel
theorem dL_begin_3 : decode cL_begin 3 = .ok (.iload_n 1, 1) := by decide +kernel
theorem dL_begin_4 : decode cL_begin 4 = .ok (.invokevirtual 7, 3) := by decide +kernel
theorem dL_begin_7 : decode cL_begin 7 = .ok (.i2l, 1) := by decide +kernel
theorem dL_begin_8 : decode cL_begin 8 = .ok (.lastore, 1) := by decide +kernel
theorem dL_begin_9 : decode cL_begin 9 = .ok (.goto 6, 3) := by decide +kernel
theorem dL_begin_12 : decode cL_begin 12 = .ok (.astore_n 3, 1) := by decide +kernel
theorem dL_begin_13 : decode cL_begin 13 = .ok (.iconst 1, 1) := by decide +kernel
theorem dL_begin_14 : decode cL_begin 14 = .ok (.ireturn, 1) := by decide +kernel
theorem dL_begin_15 : decode cL_begin 15 = .ok (.iconst 0, 1) := by decide +kernel
theorem dL_begin_16 : decode cL_begin 16 = .ok (.ireturn, 1) := by decide +kernel
theorem dL_set_0 : decode cL_set 0 = .ok (.aload 4, 2) := by decide +kernel
theorem dL_set_2 : decode cL_set 2 = .ok (.iconst 0, 1) := by decide +kernel
theorem dL_set_3 : decode cL_set 3 = .ok (.aload_n 0, 1) := by decide +kernel
theorem dL_set_4 : decode cL_set 4 = .ok (.iload_n 1, 1) := by decide +kernel
theorem dL_set_5 : decode cL_set 5 = .ok (.iload_n 2, 1) := by decide +kernel
theorem dL_set_6 : decode cL_set 6 = .ok (.iload_n 3, 1) := by decide +kernel
theorem dL_set_7 : decode cL_set 7 = .ok (.invokevirtual 15, 3) := by decide +kernel
theorem dL_set_10 : decode cL_set 10 = .ok (.i2l, 1) := by decide +kernel
theorem dL_set_11 : decode cL_set 11 = .ok (.lastore, 1) := by decide +kernel
theorem dL_set_12 : decode cL_set 12 = .ok (.goto 7, 3) := by decide +kernel
theorem dL_set_15 : decode cL_set 15 = .ok (.astore 5, 2) := by decide +kernel
theorem dL_set_17 : decode cL_set 17 = .ok (.iconst 1, 1) := by decide +kernel
theorem dL_set_18 : decode cL_set 18 = .ok (.ireturn, 1) := by decide +kernel
theorem dL_set_19 : decode cL_set 19 = .ok (.iconst 0, 1) := by decide +kernel
theorem dL_set_20 : decode cL_set 20 = .ok (.ireturn, 1) := by decide +kernel
theorem dL_get_0 : decode cL_get 0 = .ok (.aload_n 3, 1) := by decide +kernel
theorem dL_get_1 : decode cL_get 1 = .ok (.iconst 0, 1) := by decide +kernel
theorem dL_get_2 : decode cL_get 2 = .ok (.aload_n 0, 1) := by decide +kernel
theorem dL_get_3 : decode cL_get 3 = .ok (.iload_n 1, 1) := by decide +kernel
theorem dL_get_4 : decode cL_get 4 = .ok (.iload_n 2, 1) := by decide +kernel
theorem dL_get_5 : decode cL_get 5 = .ok (.invokevirtual 21, 3) := by decide +kernel
theorem dL_get_8 : decode cL_get 8 = .ok (.i2l, 1) := by decide +kernel
theorem dL_get_9 : decode cL_get 9 = .ok (.lastore, 1) := by decide +kernel
theorem dL_get_10 : decode cL_get 10 = .ok (.goto 7, 3) := by decide +kernel
theorem dL_get_13 : decode cL_get 13 = .ok (.astore 4, 2) := by decide +kernel
theorem dL_get_15 : decode cL_get 15 = .ok (.iconst 1, 1) := by decide +kernel
theorem dL_get_16 : decode cL_get 16 = .ok (.ireturn, 1) := by decide +kernel
theorem dL_get_17 : decode cL_get 17 = .ok (.iconst 0, 1) := by decide +kernel
theorem dL_get_18 : decode cL_get 18 = .ok (.ireturn, 1) := by decide +kernel
theorem dL_setValue_0 : decode cL_setValue 0 = .ok (.aload 4, 2) := by decide +kernel
theorem dL_setValue_2 : decode cL_setValue 2 = .ok (.iconst 0, 1) := by decide +kernel
theorem dL_setValue_3 : decode cL_setValue 3 = .ok (.aload_n 0, 1) := by decide +kernel
theorem dL_setValue_4 : decode cL_setValue 4 = .ok (.iload_n 1, 1) := by decide +kernel
theorem dL_setValue_5 : decode cL_setValue 5 = .ok (.iload_n 2, 1) := by decide +kernel
theorem dL_setValue_6 : decode cL_setValue 6 = .ok (.iload_n 3, 1) := by decide +kernel
theorem dL_setValue_7 : decode cL_setValue 7 = .ok (.invokevirtual 25, 3) := by decide +kernel
theorem dL_setValue_10 : decode cL_setValue 10 = .ok (.i2l, 1) := by decide +kernel
theorem dL_setValue_11 : decode cL_setValue 11 = .ok (.lastore, 1) := by decide +kernel
theorem dL_setValue_12 : decode cL_setValue 12 = .ok (.goto 7, 3) := by decide +kernel
theorem dL_setValue_15 : decode cL_setValue 15 = .ok (.astore 5, 2) := by decide +kernel
theorem dL_setValue_17 : decode cL_setValue 17 = .ok (.iconst 1, 1) := by decide +kernel
theorem dL_setValue_18 : decode cL_setValue 18 = .ok (.ireturn, 1) := by decide +kernel
theorem dL_setValue_19 : decode cL_setValue 19 = .ok (.iconst 0, 1) := by decide +kernel
theorem dL_setValue_20 : decode cL_setValue 20 = .ok (.ireturn, 1) := by decide +kernel
theorem dL_value_0 : decode cL_value 0 = .ok (.aload_n 3, 1) := by decide +kernel
theorem dL_value_1 : decode cL_value 1 = .ok (.iconst 0, 1) := by decide +kernel
theorem dL_value_2 : decode cL_value 2 = .ok (.aload_n 0, 1) := by decide +kernel
theorem dL_value_3 : decode cL_value 3 = .ok (.iload_n 1, 1) := by decide +kernel
theorem dL_value_4 : decode cL_value 4 = .ok (.iload_n 2, 1) := by decide +kernel
theorem dL_value_5 : decode cL_value 5 = .ok (.invokevirtual 28, 3) := by decide +kernel
theorem dL_value_8 : decode cL_value 8 = .ok (.i2l, 1) := by decide +kernel
theorem dL_value_9 : decode cL_value 9 = .ok (.lastore, 1) := by decide +kernel
theorem dL_value_10 : decode cL_value 10 = .ok (.goto 7, 3) := by decide +kernel
theorem dL_value_13 : decode cL_value 13 = .ok (.astore 4, 2) := by decide +kernel
theorem dL_value_15 : decode cL_value 15 = .ok (.iconst 1, 1) := by decide +kernel
theorem dL_value_16 : decode cL_value 16 = .ok (.ireturn, 1) := by decide +kernel
theorem dL_value_17 : decode cL_value 17 = .ok (.iconst 0, 1) := by decide +kernel
theorem dL_value_18 : decode cL_value 18 = .ok (.ireturn, 1) := by decide +kernel
theorem dL_join_0 : decode cL_join 0 = .ok (.aload 5, 2) := by decide +kernel
theorem dL_join_2 : decode cL_join 2 = .ok (.iconst 0, 1) := by decide +kernel
theorem dL_join_3 : decode cL_join 3 = .ok (.aload_n 0, 1) := by decide +kernel
theorem dL_join_4 : decode cL_join 4 = .ok (.iload_n 1, 1) := by decide +kernel
theorem dL_join_5 : decode cL_join 5 = .ok (.iload_n 2, 1) := by decide +kernel
theorem dL_join_6 : decode cL_join 6 = .ok (.iload_n 3, 1) := by decide +kernel
theorem dL_join_7 : decode cL_join 7 = .ok (.iload 4, 2) := by decide +kernel
theorem dL_join_9 : decode cL_join 9 = .ok (.invokevirtual 31, 3) := by decide +kernel
theorem dL_join_12 : decode cL_join 12 = .ok (.i2l, 1) := by decide +kernel
theorem dL_join_13 : decode cL_join 13 = .ok (.lastore, 1) := by decide +kernel
theorem dL_join_14 : decode cL_join 14 = .ok (.goto 15, 3) := by decide +kernel
theorem dL_join_17 : decode cL_join 17 = .ok (.astore 6, 2) := by decide +kernel
theorem dL_join_19 : decode cL_join 19 = .ok (.iconst 1, 1) := by decide +kernel
theorem dL_join_20 : decode cL_join 20 = .ok (.ireturn, 1) := by decide +kernel
theorem dL_join_21 : decode cL_join 21 = .ok (.astore 6, 2) := by decide +kernel
theorem dL_join_23 : decode cL_join 23 = .ok (.iconst 2, 1) := by decide +kernel
theorem dL_join_24 : decode cL_join 24 = .ok (.ireturn, 1) := by decide +kernel
theorem dL_join_25 : decode cL_join 25 = .ok (.astore 6, 2) := by decide +kernel
theorem dL_join_27 : decode cL_join 27 = .ok (.iconst 3, 1) := by decide +kernel
theorem dL_join_28 : decode cL_join 28 = .ok (.ireturn, 1) := by decide +kernel
theorem dL_join_29 : decode cL_join 29 = .ok (.iconst 0, 1) := by decide +kernel
theorem dL_join_30 : decode cL_join 30 = .ok (.ireturn, 1) := by decide +kernel
theorem dL_law_0 : decode cL_law 0 = .ok (.new 8, 3) := by decide +kernel
theorem dL_law_3 : decode cL_law 3 = .ok (.dup, 1) := by decide +kernel
theorem dL_law_4 : decode cL_law 4 = .ok (.invokespecial 60, 3) := by decide +kernel
theorem dL_law_7 : decode cL_law 7 = .ok (.astore_n 1, 1) := by decide +kernel
theorem dL_law_8 : decode cL_law 8 = .ok (.new 61, 3) := by decide +kernel
theorem dL_law_11 : decode cL_law 11 = .ok (.dup, 1) := by decide +kernel
theorem dL_law_12 : decode cL_law 12 = .ok (.invokespecial 63, 3) := by decide +kernel
theorem dL_law_15 : decode cL_law 15 = .ok (.astore_n 2, 1) := by decide +kernel
theorem dL_law_16 : decode cL_law 16 = .ok (.iconst 1, 1) := by decide +kernel
theorem dL_law_17 : decode cL_law 17 = .ok (.newarray .long, 2) := by decide +kernel
theorem dL_law_19 : decode cL_law 19 = .ok (.astore_n 3, 1) := by decide +kernel
theorem dL_law_20 : decode cL_law 20 = .ok (.iconst 0, 1) := by decide +kernel
theorem dL_law_21 : decode cL_law 21 = .ok (.istore 4, 2) := by decide +kernel
theorem dL_law_23 : decode cL_law 23 = .ok (.iload 4, 2) := by decide +kernel
theorem dL_law_25 : decode cL_law 25 = .ok (.aload_n 0, 1) := by decide +kernel
theorem dL_law_26 : decode cL_law 26 = .ok (.arraylength, 1) := by decide +kernel
theorem dL_law_27 : decode cL_law 27 = .ok (.iconst 5, 1) := by decide +kernel
theorem dL_law_28 : decode cL_law 28 = .ok (.isub, 1) := by decide +kernel
theorem dL_law_29 : decode cL_law 29 = .ok (.if_icmp .gt 1055, 3) := by decide +kernel
theorem dL_law_32 : decode cL_law 32 = .ok (.aload_n 0, 1) := by decide +kernel
theorem dL_law_33 : decode cL_law 33 = .ok (.iload 4, 2) := by decide +kernel
theorem dL_law_35 : decode cL_law 35 = .ok (.iaload, 1) := by decide +kernel
theorem dL_law_36 : decode cL_law 36 = .ok (.bipush 15, 2) := by decide +kernel
theorem dL_law_38 : decode cL_law 38 = .ok (.iand, 1) := by decide +kernel
theorem dL_law_39 : decode cL_law 39 = .ok (.tableswitch 1039 0 13 #[69, 125, 205, 273, 353, 421, 513, 593, 673, 740, 796, 864, 939, 1014], 69) := by decide +kernel
theorem dL_law_108 : decode cL_law 108 = .ok (.aload_n 1, 1) := by decide +kernel
theorem dL_law_109 : decode cL_law 109 = .ok (.aload_n 0, 1) := by decide +kernel
theorem dL_law_110 : decode cL_law 110 = .ok (.iload 4, 2) := by decide +kernel
theorem dL_law_112 : decode cL_law 112 = .ok (.iconst 1, 1) := by decide +kernel
theorem dL_law_113 : decode cL_law 113 = .ok (.iadd, 1) := by decide +kernel
theorem dL_law_114 : decode cL_law 114 = .ok (.iaload, 1) := by decide +kernel
theorem dL_law_115 : decode cL_law 115 = .ok (.aload_n 3, 1) := by decide +kernel
theorem dL_law_116 : decode cL_law 116 = .ok (.invokestatic 64, 3) := by decide +kernel
theorem dL_law_119 : decode cL_law 119 = .ok (.istore 5, 2) := by decide +kernel
theorem dL_law_121 : decode cL_law 121 = .ok (.aload_n 2, 1) := by decide +kernel
theorem dL_law_122 : decode cL_law 122 = .ok (.aload_n 0, 1) := by decide +kernel
theorem dL_law_123 : decode cL_law 123 = .ok (.iload 4, 2) := by decide +kernel
theorem dL_law_125 : decode cL_law 125 = .ok (.iconst 1, 1) := by decide +kernel
theorem dL_law_126 : decode cL_law 126 = .ok (.iadd, 1) := by decide +kernel
theorem dL_law_127 : decode cL_law 127 = .ok (.iaload, 1) := by decide +kernel
theorem dL_law_128 : decode cL_law 128 = .ok (.invokevirtual 69, 3) := by decide +kernel
theorem dL_law_131 : decode cL_law 131 = .ok (.istore 6, 2) := by decide +kernel
theorem dL_law_133 : decode cL_law 133 = .ok (.aload_n 2, 1) := by decide +kernel
theorem dL_law_134 : decode cL_law 134 = .ok (.invokevirtual 70, 3) := by decide +kernel
theorem dL_law_137 : decode cL_law 137 = .ok (.iload 5, 2) := by decide +kernel
theorem dL_law_139 : decode cL_law 139 = .ok (.if_icmp .eq 5, 3) := by decide +kernel
theorem dL_law_142 : decode cL_law 142 = .ok (.iconst 0, 1) := by decide +kernel
theorem dL_law_143 : decode cL_law 143 = .ok (.ireturn, 1) := by decide +kernel
theorem dL_law_144 : decode cL_law 144 = .ok (.iload 5, 2) := by decide +kernel
theorem dL_law_146 : decode cL_law 146 = .ok (.ifCond .ne 15, 3) := by decide +kernel
theorem dL_law_149 : decode cL_law 149 = .ok (.aload_n 3, 1) := by decide +kernel
theorem dL_law_150 : decode cL_law 150 = .ok (.iconst 0, 1) := by decide +kernel
theorem dL_law_151 : decode cL_law 151 = .ok (.laload, 1) := by decide +kernel
theorem dL_law_152 : decode cL_law 152 = .ok (.iload 6, 2) := by decide +kernel
theorem dL_law_154 : decode cL_law 154 = .ok (.i2l, 1) := by decide +kernel
theorem dL_law_155 : decode cL_law 155 = .ok (.lcmp, 1) := by decide +kernel
theorem dL_law_156 : decode cL_law 156 = .ok (.ifCond .eq 5, 3) := by decide +kernel
theorem dL_law_159 : decode cL_law 159 = .ok (.iconst 0, 1) := by decide +kernel
theorem dL_law_160 : decode cL_law 160 = .ok (.ireturn, 1) := by decide +kernel
theorem dL_law_161 : decode cL_law 161 = .ok (.goto 917, 3) := by decide +kernel
theorem dL_law_164 : decode cL_law 164 = .ok (.aload_n 1, 1) := by decide +kernel
theorem dL_law_165 : decode cL_law 165 = .ok (.aload_n 0, 1) := by decide +kernel
theorem dL_law_166 : decode cL_law 166 = .ok (.iload 4, 2) := by decide +kernel
theorem dL_law_168 : decode cL_law 168 = .ok (.iconst 1, 1) := by decide +kernel
theorem dL_law_169 : decode cL_law 169 = .ok (.iadd, 1) := by decide +kernel
theorem dL_law_170 : decode cL_law 170 = .ok (.iaload, 1) := by decide +kernel
theorem dL_law_171 : decode cL_law 171 = .ok (.aload_n 0, 1) := by decide +kernel
theorem dL_law_172 : decode cL_law 172 = .ok (.iload 4, 2) := by decide +kernel
theorem dL_law_174 : decode cL_law 174 = .ok (.iconst 2, 1) := by decide +kernel
theorem dL_law_175 : decode cL_law 175 = .ok (.iadd, 1) := by decide +kernel
theorem dL_law_176 : decode cL_law 176 = .ok (.iaload, 1) := by decide +kernel
theorem dL_law_177 : decode cL_law 177 = .ok (.aload_n 0, 1) := by decide +kernel
theorem dL_law_178 : decode cL_law 178 = .ok (.iload 4, 2) := by decide +kernel
theorem dL_law_180 : decode cL_law 180 = .ok (.iconst 3, 1) := by decide +kernel
theorem dL_law_181 : decode cL_law 181 = .ok (.iadd, 1) := by decide +kernel
theorem dL_law_182 : decode cL_law 182 = .ok (.iaload, 1) := by decide +kernel
theorem dL_law_183 : decode cL_law 183 = .ok (.aload_n 3, 1) := by decide +kernel
theorem dL_law_184 : decode cL_law 184 = .ok (.invokestatic 74, 3) := by decide +kernel
theorem dL_law_187 : decode cL_law 187 = .ok (.istore 5, 2) := by decide +kernel
theorem dL_law_189 : decode cL_law 189 = .ok (.aload_n 2, 1) := by decide +kernel
theorem dL_law_190 : decode cL_law 190 = .ok (.aload_n 0, 1) := by decide +kernel
theorem dL_law_191 : decode cL_law 191 = .ok (.iload 4, 2) := by decide +kernel
theorem dL_law_193 : decode cL_law 193 = .ok (.iconst 1, 1) := by decide +kernel
theorem dL_law_194 : decode cL_law 194 = .ok (.iadd, 1) := by decide +kernel
theorem dL_law_195 : decode cL_law 195 = .ok (.iaload, 1) := by decide +kernel
theorem dL_law_196 : decode cL_law 196 = .ok (.aload_n 0, 1) := by decide +kernel
theorem dL_law_197 : decode cL_law 197 = .ok (.iload 4, 2) := by decide +kernel
theorem dL_law_199 : decode cL_law 199 = .ok (.iconst 2, 1) := by decide +kernel
theorem dL_law_200 : decode cL_law 200 = .ok (.iadd, 1) := by decide +kernel
theorem dL_law_201 : decode cL_law 201 = .ok (.iaload, 1) := by decide +kernel
theorem dL_law_202 : decode cL_law 202 = .ok (.aload_n 0, 1) := by decide +kernel
theorem dL_law_203 : decode cL_law 203 = .ok (.iload 4, 2) := by decide +kernel
theorem dL_law_205 : decode cL_law 205 = .ok (.iconst 3, 1) := by decide +kernel
theorem dL_law_206 : decode cL_law 206 = .ok (.iadd, 1) := by decide +kernel
theorem dL_law_207 : decode cL_law 207 = .ok (.iaload, 1) := by decide +kernel
theorem dL_law_208 : decode cL_law 208 = .ok (.invokevirtual 77, 3) := by decide +kernel
theorem dL_law_211 : decode cL_law 211 = .ok (.istore 6, 2) := by decide +kernel
theorem dL_law_213 : decode cL_law 213 = .ok (.aload_n 2, 1) := by decide +kernel
theorem dL_law_214 : decode cL_law 214 = .ok (.invokevirtual 70, 3) := by decide +kernel
theorem dL_law_217 : decode cL_law 217 = .ok (.iload 5, 2) := by decide +kernel
theorem dL_law_219 : decode cL_law 219 = .ok (.if_icmp .eq 5, 3) := by decide +kernel
theorem dL_law_222 : decode cL_law 222 = .ok (.iconst 0, 1) := by decide +kernel
theorem dL_law_223 : decode cL_law 223 = .ok (.ireturn, 1) := by decide +kernel
theorem dL_law_224 : decode cL_law 224 = .ok (.iload 5, 2) := by decide +kernel
theorem dL_law_226 : decode cL_law 226 = .ok (.ifCond .ne 15, 3) := by decide +kernel
theorem dL_law_229 : decode cL_law 229 = .ok (.aload_n 3, 1) := by decide +kernel
theorem dL_law_230 : decode cL_law 230 = .ok (.iconst 0, 1) := by decide +kernel
theorem dL_law_231 : decode cL_law 231 = .ok (.laload, 1) := by decide +kernel
theorem dL_law_232 : decode cL_law 232 = .ok (.iload 6, 2) := by decide +kernel
theorem dL_law_234 : decode cL_law 234 = .ok (.i2l, 1) := by decide +kernel
theorem dL_law_235 : decode cL_law 235 = .ok (.lcmp, 1) := by decide +kernel
theorem dL_law_236 : decode cL_law 236 = .ok (.ifCond .eq 5, 3) := by decide +kernel
theorem dL_law_239 : decode cL_law 239 = .ok (.iconst 0, 1) := by decide +kernel
theorem dL_law_240 : decode cL_law 240 = .ok (.ireturn, 1) := by decide +kernel
theorem dL_law_241 : decode cL_law 241 = .ok (.goto 837, 3) := by decide +kernel
theorem dL_law_244 : decode cL_law 244 = .ok (.aload_n 1, 1) := by decide +kernel
theorem dL_law_245 : decode cL_law 245 = .ok (.aload_n 0, 1) := by decide +kernel
theorem dL_law_246 : decode cL_law 246 = .ok (.iload 4, 2) := by decide +kernel
theorem dL_law_248 : decode cL_law 248 = .ok (.iconst 1, 1) := by decide +kernel
theorem dL_law_249 : decode cL_law 249 = .ok (.iadd, 1) := by decide +kernel
theorem dL_law_250 : decode cL_law 250 = .ok (.iaload, 1) := by decide +kernel
theorem dL_law_251 : decode cL_law 251 = .ok (.aload_n 0, 1) := by decide +kernel
theorem dL_law_252 : decode cL_law 252 = .ok (.iload 4, 2) := by decide +kernel
theorem dL_law_254 : decode cL_law 254 = .ok (.iconst 2, 1) := by decide +kernel
theorem dL_law_255 : decode cL_law 255 = .ok (.iadd, 1) := by decide +kernel
theorem dL_law_256 : decode cL_law 256 = .ok (.iaload, 1) := by decide +kernel
theorem dL_law_257 : decode cL_law 257 = .ok (.aload_n 3, 1) := by decide +kernel
theorem dL_law_258 : decode cL_law 258 = .ok (.invokestatic 78, 3) := by decide +kernel
theorem dL_law_261 : decode cL_law 261 = .ok (.istore 5, 2) := by decide +kernel
theorem dL_law_263 : decode cL_law 263 = .ok (.aload_n 2, 1) := by decide +kernel
theorem dL_law_264 : decode cL_law 264 = .ok (.aload_n 0, 1) := by decide +kernel
theorem dL_law_265 : decode cL_law 265 = .ok (.iload 4, 2) := by decide +kernel
theorem dL_law_267 : decode cL_law 267 = .ok (.iconst 1, 1) := by decide +kernel
theorem dL_law_268 : decode cL_law 268 = .ok (.iadd, 1) := by decide +kernel
theorem dL_law_269 : decode cL_law 269 = .ok (.iaload, 1) := by decide +kernel
theorem dL_law_270 : decode cL_law 270 = .ok (.aload_n 0, 1) := by decide +kernel
theorem dL_law_271 : decode cL_law 271 = .ok (.iload 4, 2) := by decide +kernel
theorem dL_law_273 : decode cL_law 273 = .ok (.iconst 2, 1) := by decide +kernel
theorem dL_law_274 : decode cL_law 274 = .ok (.iadd, 1) := by decide +kernel
theorem dL_law_275 : decode cL_law 275 = .ok (.iaload, 1) := by decide +kernel
theorem dL_law_276 : decode cL_law 276 = .ok (.invokevirtual 81, 3) := by decide +kernel
theorem dL_law_279 : decode cL_law 279 = .ok (.istore 6, 2) := by decide +kernel
theorem dL_law_281 : decode cL_law 281 = .ok (.aload_n 2, 1) := by decide +kernel
theorem dL_law_282 : decode cL_law 282 = .ok (.invokevirtual 70, 3) := by decide +kernel
theorem dL_law_285 : decode cL_law 285 = .ok (.iload 5, 2) := by decide +kernel
theorem dL_law_287 : decode cL_law 287 = .ok (.if_icmp .eq 5, 3) := by decide +kernel
theorem dL_law_290 : decode cL_law 290 = .ok (.iconst 0, 1) := by decide +kernel
theorem dL_law_291 : decode cL_law 291 = .ok (.ireturn, 1) := by decide +kernel
theorem dL_law_292 : decode cL_law 292 = .ok (.iload 5, 2) := by decide +kernel
theorem dL_law_294 : decode cL_law 294 = .ok (.ifCond .ne 15, 3) := by decide +kernel
theorem dL_law_297 : decode cL_law 297 = .ok (.aload_n 3, 1) := by decide +kernel
theorem dL_law_298 : decode cL_law 298 = .ok (.iconst 0, 1) := by decide +kernel
theorem dL_law_299 : decode cL_law 299 = .ok (.laload, 1) := by decide +kernel
theorem dL_law_300 : decode cL_law 300 = .ok (.iload 6, 2) := by decide +kernel
theorem dL_law_302 : decode cL_law 302 = .ok (.i2l, 1) := by decide +kernel
theorem dL_law_303 : decode cL_law 303 = .ok (.lcmp, 1) := by decide +kernel
theorem dL_law_304 : decode cL_law 304 = .ok (.ifCond .eq 5, 3) := by decide +kernel
theorem dL_law_307 : decode cL_law 307 = .ok (.iconst 0, 1) := by decide +kernel
theorem dL_law_308 : decode cL_law 308 = .ok (.ireturn, 1) := by decide +kernel
theorem dL_law_309 : decode cL_law 309 = .ok (.goto 769, 3) := by decide +kernel
theorem dL_law_312 : decode cL_law 312 = .ok (.aload_n 1, 1) := by decide +kernel
theorem dL_law_313 : decode cL_law 313 = .ok (.aload_n 0, 1) := by decide +kernel
theorem dL_law_314 : decode cL_law 314 = .ok (.iload 4, 2) := by decide +kernel
theorem dL_law_316 : decode cL_law 316 = .ok (.iconst 1, 1) := by decide +kernel
theorem dL_law_317 : decode cL_law 317 = .ok (.iadd, 1) := by decide +kernel
theorem dL_law_318 : decode cL_law 318 = .ok (.iaload, 1) := by decide +kernel
theorem dL_law_319 : decode cL_law 319 = .ok (.aload_n 0, 1) := by decide +kernel
theorem dL_law_320 : decode cL_law 320 = .ok (.iload 4, 2) := by decide +kernel
theorem dL_law_322 : decode cL_law 322 = .ok (.iconst 2, 1) := by decide +kernel
theorem dL_law_323 : decode cL_law 323 = .ok (.iadd, 1) := by decide +kernel
theorem dL_law_324 : decode cL_law 324 = .ok (.iaload, 1) := by decide +kernel
theorem dL_law_325 : decode cL_law 325 = .ok (.aload_n 0, 1) := by decide +kernel
theorem dL_law_326 : decode cL_law 326 = .ok (.iload 4, 2) := by decide +kernel
theorem dL_law_328 : decode cL_law 328 = .ok (.iconst 3, 1) := by decide +kernel
theorem dL_law_329 : decode cL_law 329 = .ok (.iadd, 1) := by decide +kernel
theorem dL_law_330 : decode cL_law 330 = .ok (.iaload, 1) := by decide +kernel
theorem dL_law_331 : decode cL_law 331 = .ok (.aload_n 3, 1) := by decide +kernel
theorem dL_law_332 : decode cL_law 332 = .ok (.invokestatic 82, 3) := by decide +kernel
theorem dL_law_335 : decode cL_law 335 = .ok (.istore 5, 2) := by decide +kernel
theorem dL_law_337 : decode cL_law 337 = .ok (.aload_n 2, 1) := by decide +kernel
theorem dL_law_338 : decode cL_law 338 = .ok (.aload_n 0, 1) := by decide +kernel
theorem dL_law_339 : decode cL_law 339 = .ok (.iload 4, 2) := by decide +kernel
theorem dL_law_341 : decode cL_law 341 = .ok (.iconst 1, 1) := by decide +kernel
theorem dL_law_342 : decode cL_law 342 = .ok (.iadd, 1) := by decide +kernel
theorem dL_law_343 : decode cL_law 343 = .ok (.iaload, 1) := by decide +kernel
theorem dL_law_344 : decode cL_law 344 = .ok (.aload_n 0, 1) := by decide +kernel
theorem dL_law_345 : decode cL_law 345 = .ok (.iload 4, 2) := by decide +kernel
theorem dL_law_347 : decode cL_law 347 = .ok (.iconst 2, 1) := by decide +kernel
theorem dL_law_348 : decode cL_law 348 = .ok (.iadd, 1) := by decide +kernel
theorem dL_law_349 : decode cL_law 349 = .ok (.iaload, 1) := by decide +kernel
theorem dL_law_350 : decode cL_law 350 = .ok (.aload_n 0, 1) := by decide +kernel
theorem dL_law_351 : decode cL_law 351 = .ok (.iload 4, 2) := by decide +kernel
theorem dL_law_353 : decode cL_law 353 = .ok (.iconst 3, 1) := by decide +kernel
theorem dL_law_354 : decode cL_law 354 = .ok (.iadd, 1) := by decide +kernel
theorem dL_law_355 : decode cL_law 355 = .ok (.iaload, 1) := by decide +kernel
theorem dL_law_356 : decode cL_law 356 = .ok (.invokevirtual 84, 3) := by decide +kernel
theorem dL_law_359 : decode cL_law 359 = .ok (.istore 6, 2) := by decide +kernel
theorem dL_law_361 : decode cL_law 361 = .ok (.aload_n 2, 1) := by decide +kernel
theorem dL_law_362 : decode cL_law 362 = .ok (.invokevirtual 70, 3) := by decide +kernel
theorem dL_law_365 : decode cL_law 365 = .ok (.iload 5, 2) := by decide +kernel
theorem dL_law_367 : decode cL_law 367 = .ok (.if_icmp .eq 5, 3) := by decide +kernel
theorem dL_law_370 : decode cL_law 370 = .ok (.iconst 0, 1) := by decide +kernel
theorem dL_law_371 : decode cL_law 371 = .ok (.ireturn, 1) := by decide +kernel
theorem dL_law_372 : decode cL_law 372 = .ok (.iload 5, 2) := by decide +kernel
theorem dL_law_374 : decode cL_law 374 = .ok (.ifCond .ne 15, 3) := by decide +kernel
theorem dL_law_377 : decode cL_law 377 = .ok (.aload_n 3, 1) := by decide +kernel
theorem dL_law_378 : decode cL_law 378 = .ok (.iconst 0, 1) := by decide +kernel
theorem dL_law_379 : decode cL_law 379 = .ok (.laload, 1) := by decide +kernel
theorem dL_law_380 : decode cL_law 380 = .ok (.iload 6, 2) := by decide +kernel
theorem dL_law_382 : decode cL_law 382 = .ok (.i2l, 1) := by decide +kernel
theorem dL_law_383 : decode cL_law 383 = .ok (.lcmp, 1) := by decide +kernel
theorem dL_law_384 : decode cL_law 384 = .ok (.ifCond .eq 5, 3) := by decide +kernel
theorem dL_law_387 : decode cL_law 387 = .ok (.iconst 0, 1) := by decide +kernel
theorem dL_law_388 : decode cL_law 388 = .ok (.ireturn, 1) := by decide +kernel
theorem dL_law_389 : decode cL_law 389 = .ok (.goto 689, 3) := by decide +kernel
theorem dL_law_392 : decode cL_law 392 = .ok (.aload_n 1, 1) := by decide +kernel
theorem dL_law_393 : decode cL_law 393 = .ok (.aload_n 0, 1) := by decide +kernel
theorem dL_law_394 : decode cL_law 394 = .ok (.iload 4, 2) := by decide +kernel
theorem dL_law_396 : decode cL_law 396 = .ok (.iconst 1, 1) := by decide +kernel
theorem dL_law_397 : decode cL_law 397 = .ok (.iadd, 1) := by decide +kernel
theorem dL_law_398 : decode cL_law 398 = .ok (.iaload, 1) := by decide +kernel
theorem dL_law_399 : decode cL_law 399 = .ok (.aload_n 0, 1) := by decide +kernel
theorem dL_law_400 : decode cL_law 400 = .ok (.iload 4, 2) := by decide +kernel
theorem dL_law_402 : decode cL_law 402 = .ok (.iconst 2, 1) := by decide +kernel
theorem dL_law_403 : decode cL_law 403 = .ok (.iadd, 1) := by decide +kernel
theorem dL_law_404 : decode cL_law 404 = .ok (.iaload, 1) := by decide +kernel
theorem dL_law_405 : decode cL_law 405 = .ok (.aload_n 3, 1) := by decide +kernel
theorem dL_law_406 : decode cL_law 406 = .ok (.invokestatic 85, 3) := by decide +kernel
theorem dL_law_409 : decode cL_law 409 = .ok (.istore 5, 2) := by decide +kernel
theorem dL_law_411 : decode cL_law 411 = .ok (.aload_n 2, 1) := by decide +kernel
theorem dL_law_412 : decode cL_law 412 = .ok (.aload_n 0, 1) := by decide +kernel
theorem dL_law_413 : decode cL_law 413 = .ok (.iload 4, 2) := by decide +kernel
theorem dL_law_415 : decode cL_law 415 = .ok (.iconst 1, 1) := by decide +kernel
theorem dL_law_416 : decode cL_law 416 = .ok (.iadd, 1) := by decide +kernel
theorem dL_law_417 : decode cL_law 417 = .ok (.iaload, 1) := by decide +kernel
theorem dL_law_418 : decode cL_law 418 = .ok (.aload_n 0, 1) := by decide +kernel
theorem dL_law_419 : decode cL_law 419 = .ok (.iload 4, 2) := by decide +kernel
theorem dL_law_421 : decode cL_law 421 = .ok (.iconst 2, 1) := by decide +kernel
theorem dL_law_422 : decode cL_law 422 = .ok (.iadd, 1) := by decide +kernel
theorem dL_law_423 : decode cL_law 423 = .ok (.iaload, 1) := by decide +kernel
theorem dL_law_424 : decode cL_law 424 = .ok (.invokevirtual 87, 3) := by decide +kernel
theorem dL_law_427 : decode cL_law 427 = .ok (.istore 6, 2) := by decide +kernel
theorem dL_law_429 : decode cL_law 429 = .ok (.aload_n 2, 1) := by decide +kernel
theorem dL_law_430 : decode cL_law 430 = .ok (.invokevirtual 70, 3) := by decide +kernel
theorem dL_law_433 : decode cL_law 433 = .ok (.iload 5, 2) := by decide +kernel
theorem dL_law_435 : decode cL_law 435 = .ok (.if_icmp .eq 5, 3) := by decide +kernel
theorem dL_law_438 : decode cL_law 438 = .ok (.iconst 0, 1) := by decide +kernel
theorem dL_law_439 : decode cL_law 439 = .ok (.ireturn, 1) := by decide +kernel
theorem dL_law_440 : decode cL_law 440 = .ok (.iload 5, 2) := by decide +kernel
theorem dL_law_442 : decode cL_law 442 = .ok (.ifCond .ne 15, 3) := by decide +kernel
theorem dL_law_445 : decode cL_law 445 = .ok (.aload_n 3, 1) := by decide +kernel
theorem dL_law_446 : decode cL_law 446 = .ok (.iconst 0, 1) := by decide +kernel
theorem dL_law_447 : decode cL_law 447 = .ok (.laload, 1) := by decide +kernel
theorem dL_law_448 : decode cL_law 448 = .ok (.iload 6, 2) := by decide +kernel
theorem dL_law_450 : decode cL_law 450 = .ok (.i2l, 1) := by decide +kernel
theorem dL_law_451 : decode cL_law 451 = .ok (.lcmp, 1) := by decide +kernel
theorem dL_law_452 : decode cL_law 452 = .ok (.ifCond .eq 5, 3) := by decide +kernel
theorem dL_law_455 : decode cL_law 455 = .ok (.iconst 0, 1) := by decide +kernel
theorem dL_law_456 : decode cL_law 456 = .ok (.ireturn, 1) := by decide +kernel
theorem dL_law_457 : decode cL_law 457 = .ok (.goto 621, 3) := by decide +kernel
theorem dL_law_460 : decode cL_law 460 = .ok (.aload_n 1, 1) := by decide +kernel
theorem dL_law_461 : decode cL_law 461 = .ok (.aload_n 0, 1) := by decide +kernel
theorem dL_law_462 : decode cL_law 462 = .ok (.iload 4, 2) := by decide +kernel
theorem dL_law_464 : decode cL_law 464 = .ok (.iconst 1, 1) := by decide +kernel
theorem dL_law_465 : decode cL_law 465 = .ok (.iadd, 1) := by decide +kernel
theorem dL_law_466 : decode cL_law 466 = .ok (.iaload, 1) := by decide +kernel
theorem dL_law_467 : decode cL_law 467 = .ok (.aload_n 0, 1) := by decide +kernel
theorem dL_law_468 : decode cL_law 468 = .ok (.iload 4, 2) := by decide +kernel
theorem dL_law_470 : decode cL_law 470 = .ok (.iconst 2, 1) := by decide +kernel
theorem dL_law_471 : decode cL_law 471 = .ok (.iadd, 1) := by decide +kernel
theorem dL_law_472 : decode cL_law 472 = .ok (.iaload, 1) := by decide +kernel
theorem dL_law_473 : decode cL_law 473 = .ok (.aload_n 0, 1) := by decide +kernel
theorem dL_law_474 : decode cL_law 474 = .ok (.iload 4, 2) := by decide +kernel
theorem dL_law_476 : decode cL_law 476 = .ok (.iconst 3, 1) := by decide +kernel
theorem dL_law_477 : decode cL_law 477 = .ok (.iadd, 1) := by decide +kernel
theorem dL_law_478 : decode cL_law 478 = .ok (.iaload, 1) := by decide +kernel
theorem dL_law_479 : decode cL_law 479 = .ok (.aload_n 0, 1) := by decide +kernel
theorem dL_law_480 : decode cL_law 480 = .ok (.iload 4, 2) := by decide +kernel
theorem dL_law_482 : decode cL_law 482 = .ok (.iconst 4, 1) := by decide +kernel
theorem dL_law_483 : decode cL_law 483 = .ok (.iadd, 1) := by decide +kernel
theorem dL_law_484 : decode cL_law 484 = .ok (.iaload, 1) := by decide +kernel
theorem dL_law_485 : decode cL_law 485 = .ok (.aload_n 3, 1) := by decide +kernel
theorem dL_law_486 : decode cL_law 486 = .ok (.invokestatic 88, 3) := by decide +kernel
theorem dL_law_489 : decode cL_law 489 = .ok (.istore 5, 2) := by decide +kernel
theorem dL_law_491 : decode cL_law 491 = .ok (.aload_n 2, 1) := by decide +kernel
theorem dL_law_492 : decode cL_law 492 = .ok (.aload_n 0, 1) := by decide +kernel
theorem dL_law_493 : decode cL_law 493 = .ok (.iload 4, 2) := by decide +kernel
theorem dL_law_495 : decode cL_law 495 = .ok (.iconst 1, 1) := by decide +kernel
theorem dL_law_496 : decode cL_law 496 = .ok (.iadd, 1) := by decide +kernel
theorem dL_law_497 : decode cL_law 497 = .ok (.iaload, 1) := by decide +kernel
theorem dL_law_498 : decode cL_law 498 = .ok (.aload_n 0, 1) := by decide +kernel
theorem dL_law_499 : decode cL_law 499 = .ok (.iload 4, 2) := by decide +kernel
theorem dL_law_501 : decode cL_law 501 = .ok (.iconst 2, 1) := by decide +kernel
theorem dL_law_502 : decode cL_law 502 = .ok (.iadd, 1) := by decide +kernel
theorem dL_law_503 : decode cL_law 503 = .ok (.iaload, 1) := by decide +kernel
theorem dL_law_504 : decode cL_law 504 = .ok (.aload_n 0, 1) := by decide +kernel
theorem dL_law_505 : decode cL_law 505 = .ok (.iload 4, 2) := by decide +kernel
theorem dL_law_507 : decode cL_law 507 = .ok (.iconst 3, 1) := by decide +kernel
theorem dL_law_508 : decode cL_law 508 = .ok (.iadd, 1) := by decide +kernel
theorem dL_law_509 : decode cL_law 509 = .ok (.iaload, 1) := by decide +kernel
theorem dL_law_510 : decode cL_law 510 = .ok (.aload_n 0, 1) := by decide +kernel
theorem dL_law_511 : decode cL_law 511 = .ok (.iload 4, 2) := by decide +kernel
theorem dL_law_513 : decode cL_law 513 = .ok (.iconst 4, 1) := by decide +kernel
theorem dL_law_514 : decode cL_law 514 = .ok (.iadd, 1) := by decide +kernel
theorem dL_law_515 : decode cL_law 515 = .ok (.iaload, 1) := by decide +kernel
theorem dL_law_516 : decode cL_law 516 = .ok (.invokevirtual 91, 3) := by decide +kernel
theorem dL_law_519 : decode cL_law 519 = .ok (.istore 6, 2) := by decide +kernel
theorem dL_law_521 : decode cL_law 521 = .ok (.aload_n 2, 1) := by decide +kernel
theorem dL_law_522 : decode cL_law 522 = .ok (.invokevirtual 70, 3) := by decide +kernel
theorem dL_law_525 : decode cL_law 525 = .ok (.iload 5, 2) := by decide +kernel
theorem dL_law_527 : decode cL_law 527 = .ok (.if_icmp .eq 5, 3) := by decide +kernel
theorem dL_law_530 : decode cL_law 530 = .ok (.iconst 0, 1) := by decide +kernel
theorem dL_law_531 : decode cL_law 531 = .ok (.ireturn, 1) := by decide +kernel
theorem dL_law_532 : decode cL_law 532 = .ok (.iload 5, 2) := by decide +kernel
theorem dL_law_534 : decode cL_law 534 = .ok (.ifCond .ne 15, 3) := by decide +kernel
theorem dL_law_537 : decode cL_law 537 = .ok (.aload_n 3, 1) := by decide +kernel
theorem dL_law_538 : decode cL_law 538 = .ok (.iconst 0, 1) := by decide +kernel
theorem dL_law_539 : decode cL_law 539 = .ok (.laload, 1) := by decide +kernel
theorem dL_law_540 : decode cL_law 540 = .ok (.iload 6, 2) := by decide +kernel
theorem dL_law_542 : decode cL_law 542 = .ok (.i2l, 1) := by decide +kernel
theorem dL_law_543 : decode cL_law 543 = .ok (.lcmp, 1) := by decide +kernel
theorem dL_law_544 : decode cL_law 544 = .ok (.ifCond .eq 5, 3) := by decide +kernel
theorem dL_law_547 : decode cL_law 547 = .ok (.iconst 0, 1) := by decide +kernel
theorem dL_law_548 : decode cL_law 548 = .ok (.ireturn, 1) := by decide +kernel
theorem dL_law_549 : decode cL_law 549 = .ok (.goto 529, 3) := by decide +kernel
theorem dL_law_552 : decode cL_law 552 = .ok (.aload_n 1, 1) := by decide +kernel
theorem dL_law_553 : decode cL_law 553 = .ok (.aload_n 0, 1) := by decide +kernel
theorem dL_law_554 : decode cL_law 554 = .ok (.iload 4, 2) := by decide +kernel
theorem dL_law_556 : decode cL_law 556 = .ok (.iconst 1, 1) := by decide +kernel
theorem dL_law_557 : decode cL_law 557 = .ok (.iadd, 1) := by decide +kernel
theorem dL_law_558 : decode cL_law 558 = .ok (.iaload, 1) := by decide +kernel
theorem dL_law_559 : decode cL_law 559 = .ok (.aload_n 0, 1) := by decide +kernel
theorem dL_law_560 : decode cL_law 560 = .ok (.iload 4, 2) := by decide +kernel
theorem dL_law_562 : decode cL_law 562 = .ok (.iconst 2, 1) := by decide +kernel
theorem dL_law_563 : decode cL_law 563 = .ok (.iadd, 1) := by decide +kernel
theorem dL_law_564 : decode cL_law 564 = .ok (.iaload, 1) := by decide +kernel
theorem dL_law_565 : decode cL_law 565 = .ok (.aload_n 0, 1) := by decide +kernel
theorem dL_law_566 : decode cL_law 566 = .ok (.iload 4, 2) := by decide +kernel
theorem dL_law_568 : decode cL_law 568 = .ok (.iconst 3, 1) := by decide +kernel
theorem dL_law_569 : decode cL_law 569 = .ok (.iadd, 1) := by decide +kernel
theorem dL_law_570 : decode cL_law 570 = .ok (.iaload, 1) := by decide +kernel
theorem dL_law_571 : decode cL_law 571 = .ok (.aload_n 3, 1) := by decide +kernel
theorem dL_law_572 : decode cL_law 572 = .ok (.invokestatic 92, 3) := by decide +kernel
theorem dL_law_575 : decode cL_law 575 = .ok (.istore 5, 2) := by decide +kernel
theorem dL_law_577 : decode cL_law 577 = .ok (.aload_n 2, 1) := by decide +kernel
theorem dL_law_578 : decode cL_law 578 = .ok (.aload_n 0, 1) := by decide +kernel
theorem dL_law_579 : decode cL_law 579 = .ok (.iload 4, 2) := by decide +kernel
theorem dL_law_581 : decode cL_law 581 = .ok (.iconst 1, 1) := by decide +kernel
theorem dL_law_582 : decode cL_law 582 = .ok (.iadd, 1) := by decide +kernel
theorem dL_law_583 : decode cL_law 583 = .ok (.iaload, 1) := by decide +kernel
theorem dL_law_584 : decode cL_law 584 = .ok (.aload_n 0, 1) := by decide +kernel
theorem dL_law_585 : decode cL_law 585 = .ok (.iload 4, 2) := by decide +kernel
theorem dL_law_587 : decode cL_law 587 = .ok (.iconst 2, 1) := by decide +kernel
theorem dL_law_588 : decode cL_law 588 = .ok (.iadd, 1) := by decide +kernel
theorem dL_law_589 : decode cL_law 589 = .ok (.iaload, 1) := by decide +kernel
theorem dL_law_590 : decode cL_law 590 = .ok (.aload_n 0, 1) := by decide +kernel
theorem dL_law_591 : decode cL_law 591 = .ok (.iload 4, 2) := by decide +kernel
theorem dL_law_593 : decode cL_law 593 = .ok (.iconst 3, 1) := by decide +kernel
theorem dL_law_594 : decode cL_law 594 = .ok (.iadd, 1) := by decide +kernel
theorem dL_law_595 : decode cL_law 595 = .ok (.iaload, 1) := by decide +kernel
theorem dL_law_596 : decode cL_law 596 = .ok (.invokevirtual 94, 3) := by decide +kernel
theorem dL_law_599 : decode cL_law 599 = .ok (.istore 6, 2) := by decide +kernel
theorem dL_law_601 : decode cL_law 601 = .ok (.aload_n 2, 1) := by decide +kernel
theorem dL_law_602 : decode cL_law 602 = .ok (.invokevirtual 70, 3) := by decide +kernel
theorem dL_law_605 : decode cL_law 605 = .ok (.iload 5, 2) := by decide +kernel
theorem dL_law_607 : decode cL_law 607 = .ok (.if_icmp .eq 5, 3) := by decide +kernel
theorem dL_law_610 : decode cL_law 610 = .ok (.iconst 0, 1) := by decide +kernel
theorem dL_law_611 : decode cL_law 611 = .ok (.ireturn, 1) := by decide +kernel
theorem dL_law_612 : decode cL_law 612 = .ok (.iload 5, 2) := by decide +kernel
theorem dL_law_614 : decode cL_law 614 = .ok (.ifCond .ne 15, 3) := by decide +kernel
theorem dL_law_617 : decode cL_law 617 = .ok (.aload_n 3, 1) := by decide +kernel
theorem dL_law_618 : decode cL_law 618 = .ok (.iconst 0, 1) := by decide +kernel
theorem dL_law_619 : decode cL_law 619 = .ok (.laload, 1) := by decide +kernel
theorem dL_law_620 : decode cL_law 620 = .ok (.iload 6, 2) := by decide +kernel
theorem dL_law_622 : decode cL_law 622 = .ok (.i2l, 1) := by decide +kernel
theorem dL_law_623 : decode cL_law 623 = .ok (.lcmp, 1) := by decide +kernel
theorem dL_law_624 : decode cL_law 624 = .ok (.ifCond .eq 5, 3) := by decide +kernel
theorem dL_law_627 : decode cL_law 627 = .ok (.iconst 0, 1) := by decide +kernel
theorem dL_law_628 : decode cL_law 628 = .ok (.ireturn, 1) := by decide +kernel
theorem dL_law_629 : decode cL_law 629 = .ok (.goto 449, 3) := by decide +kernel
theorem dL_law_632 : decode cL_law 632 = .ok (.aload_n 1, 1) := by decide +kernel
theorem dL_law_633 : decode cL_law 633 = .ok (.aload_n 0, 1) := by decide +kernel
theorem dL_law_634 : decode cL_law 634 = .ok (.iload 4, 2) := by decide +kernel
theorem dL_law_636 : decode cL_law 636 = .ok (.iconst 1, 1) := by decide +kernel
theorem dL_law_637 : decode cL_law 637 = .ok (.iadd, 1) := by decide +kernel
theorem dL_law_638 : decode cL_law 638 = .ok (.iaload, 1) := by decide +kernel
theorem dL_law_639 : decode cL_law 639 = .ok (.aload_n 0, 1) := by decide +kernel
theorem dL_law_640 : decode cL_law 640 = .ok (.iload 4, 2) := by decide +kernel
theorem dL_law_642 : decode cL_law 642 = .ok (.iconst 2, 1) := by decide +kernel
theorem dL_law_643 : decode cL_law 643 = .ok (.iadd, 1) := by decide +kernel
theorem dL_law_644 : decode cL_law 644 = .ok (.iaload, 1) := by decide +kernel
theorem dL_law_645 : decode cL_law 645 = .ok (.aload_n 0, 1) := by decide +kernel
theorem dL_law_646 : decode cL_law 646 = .ok (.iload 4, 2) := by decide +kernel
theorem dL_law_648 : decode cL_law 648 = .ok (.iconst 3, 1) := by decide +kernel
theorem dL_law_649 : decode cL_law 649 = .ok (.iadd, 1) := by decide +kernel
theorem dL_law_650 : decode cL_law 650 = .ok (.iaload, 1) := by decide +kernel
theorem dL_law_651 : decode cL_law 651 = .ok (.aload_n 3, 1) := by decide +kernel
theorem dL_law_652 : decode cL_law 652 = .ok (.invokestatic 95, 3) := by decide +kernel
theorem dL_law_655 : decode cL_law 655 = .ok (.istore 5, 2) := by decide +kernel
theorem dL_law_657 : decode cL_law 657 = .ok (.aload_n 2, 1) := by decide +kernel
theorem dL_law_658 : decode cL_law 658 = .ok (.aload_n 0, 1) := by decide +kernel
theorem dL_law_659 : decode cL_law 659 = .ok (.iload 4, 2) := by decide +kernel
theorem dL_law_661 : decode cL_law 661 = .ok (.iconst 1, 1) := by decide +kernel
theorem dL_law_662 : decode cL_law 662 = .ok (.iadd, 1) := by decide +kernel
theorem dL_law_663 : decode cL_law 663 = .ok (.iaload, 1) := by decide +kernel
theorem dL_law_664 : decode cL_law 664 = .ok (.aload_n 0, 1) := by decide +kernel
theorem dL_law_665 : decode cL_law 665 = .ok (.iload 4, 2) := by decide +kernel
theorem dL_law_667 : decode cL_law 667 = .ok (.iconst 2, 1) := by decide +kernel
theorem dL_law_668 : decode cL_law 668 = .ok (.iadd, 1) := by decide +kernel
theorem dL_law_669 : decode cL_law 669 = .ok (.iaload, 1) := by decide +kernel
theorem dL_law_670 : decode cL_law 670 = .ok (.aload_n 0, 1) := by decide +kernel
theorem dL_law_671 : decode cL_law 671 = .ok (.iload 4, 2) := by decide +kernel
theorem dL_law_673 : decode cL_law 673 = .ok (.iconst 3, 1) := by decide +kernel
theorem dL_law_674 : decode cL_law 674 = .ok (.iadd, 1) := by decide +kernel
theorem dL_law_675 : decode cL_law 675 = .ok (.iaload, 1) := by decide +kernel
theorem dL_law_676 : decode cL_law 676 = .ok (.invokevirtual 97, 3) := by decide +kernel
theorem dL_law_679 : decode cL_law 679 = .ok (.istore 6, 2) := by decide +kernel
theorem dL_law_681 : decode cL_law 681 = .ok (.aload_n 2, 1) := by decide +kernel
theorem dL_law_682 : decode cL_law 682 = .ok (.invokevirtual 70, 3) := by decide +kernel
theorem dL_law_685 : decode cL_law 685 = .ok (.iload 5, 2) := by decide +kernel
theorem dL_law_687 : decode cL_law 687 = .ok (.if_icmp .eq 5, 3) := by decide +kernel
theorem dL_law_690 : decode cL_law 690 = .ok (.iconst 0, 1) := by decide +kernel
theorem dL_law_691 : decode cL_law 691 = .ok (.ireturn, 1) := by decide +kernel
theorem dL_law_692 : decode cL_law 692 = .ok (.iload 5, 2) := by decide +kernel
theorem dL_law_694 : decode cL_law 694 = .ok (.ifCond .ne 15, 3) := by decide +kernel
theorem dL_law_697 : decode cL_law 697 = .ok (.aload_n 3, 1) := by decide +kernel
theorem dL_law_698 : decode cL_law 698 = .ok (.iconst 0, 1) := by decide +kernel
theorem dL_law_699 : decode cL_law 699 = .ok (.laload, 1) := by decide +kernel
theorem dL_law_700 : decode cL_law 700 = .ok (.iload 6, 2) := by decide +kernel
theorem dL_law_702 : decode cL_law 702 = .ok (.i2l, 1) := by decide +kernel
theorem dL_law_703 : decode cL_law 703 = .ok (.lcmp, 1) := by decide +kernel
theorem dL_law_704 : decode cL_law 704 = .ok (.ifCond .eq 5, 3) := by decide +kernel
theorem dL_law_707 : decode cL_law 707 = .ok (.iconst 0, 1) := by decide +kernel
theorem dL_law_708 : decode cL_law 708 = .ok (.ireturn, 1) := by decide +kernel
theorem dL_law_709 : decode cL_law 709 = .ok (.goto 369, 3) := by decide +kernel
theorem dL_law_712 : decode cL_law 712 = .ok (.aload_n 1, 1) := by decide +kernel
theorem dL_law_713 : decode cL_law 713 = .ok (.aload_n 0, 1) := by decide +kernel
theorem dL_law_714 : decode cL_law 714 = .ok (.iload 4, 2) := by decide +kernel
theorem dL_law_716 : decode cL_law 716 = .ok (.iconst 1, 1) := by decide +kernel
theorem dL_law_717 : decode cL_law 717 = .ok (.iadd, 1) := by decide +kernel
theorem dL_law_718 : decode cL_law 718 = .ok (.iaload, 1) := by decide +kernel
theorem dL_law_719 : decode cL_law 719 = .ok (.aload_n 0, 1) := by decide +kernel
theorem dL_law_720 : decode cL_law 720 = .ok (.iload 4, 2) := by decide +kernel
theorem dL_law_722 : decode cL_law 722 = .ok (.iconst 2, 1) := by decide +kernel
theorem dL_law_723 : decode cL_law 723 = .ok (.iadd, 1) := by decide +kernel
theorem dL_law_724 : decode cL_law 724 = .ok (.iaload, 1) := by decide +kernel
theorem dL_law_725 : decode cL_law 725 = .ok (.aload_n 3, 1) := by decide +kernel
theorem dL_law_726 : decode cL_law 726 = .ok (.invokestatic 98, 3) := by decide +kernel
theorem dL_law_729 : decode cL_law 729 = .ok (.istore 5, 2) := by decide +kernel
theorem dL_law_731 : decode cL_law 731 = .ok (.aload_n 2, 1) := by decide +kernel
theorem dL_law_732 : decode cL_law 732 = .ok (.aload_n 0, 1) := by decide +kernel
theorem dL_law_733 : decode cL_law 733 = .ok (.iload 4, 2) := by decide +kernel
theorem dL_law_735 : decode cL_law 735 = .ok (.iconst 1, 1) := by decide +kernel
theorem dL_law_736 : decode cL_law 736 = .ok (.iadd, 1) := by decide +kernel
theorem dL_law_737 : decode cL_law 737 = .ok (.iaload, 1) := by decide +kernel
theorem dL_law_738 : decode cL_law 738 = .ok (.aload_n 0, 1) := by decide +kernel
theorem dL_law_739 : decode cL_law 739 = .ok (.iload 4, 2) := by decide +kernel
theorem dL_law_741 : decode cL_law 741 = .ok (.iconst 2, 1) := by decide +kernel
theorem dL_law_742 : decode cL_law 742 = .ok (.iadd, 1) := by decide +kernel
theorem dL_law_743 : decode cL_law 743 = .ok (.iaload, 1) := by decide +kernel
theorem dL_law_744 : decode cL_law 744 = .ok (.invokevirtual 100, 3) := by decide +kernel
theorem dL_law_747 : decode cL_law 747 = .ok (.lstore 6, 2) := by decide +kernel
theorem dL_law_749 : decode cL_law 749 = .ok (.aload_n 2, 1) := by decide +kernel
theorem dL_law_750 : decode cL_law 750 = .ok (.invokevirtual 70, 3) := by decide +kernel
theorem dL_law_753 : decode cL_law 753 = .ok (.iload 5, 2) := by decide +kernel
theorem dL_law_755 : decode cL_law 755 = .ok (.if_icmp .eq 5, 3) := by decide +kernel
theorem dL_law_758 : decode cL_law 758 = .ok (.iconst 0, 1) := by decide +kernel
theorem dL_law_759 : decode cL_law 759 = .ok (.ireturn, 1) := by decide +kernel
theorem dL_law_760 : decode cL_law 760 = .ok (.iload 5, 2) := by decide +kernel
theorem dL_law_762 : decode cL_law 762 = .ok (.ifCond .ne 14, 3) := by decide +kernel
theorem dL_law_765 : decode cL_law 765 = .ok (.aload_n 3, 1) := by decide +kernel
theorem dL_law_766 : decode cL_law 766 = .ok (.iconst 0, 1) := by decide +kernel
theorem dL_law_767 : decode cL_law 767 = .ok (.laload, 1) := by decide +kernel
theorem dL_law_768 : decode cL_law 768 = .ok (.lload 6, 2) := by decide +kernel
theorem dL_law_770 : decode cL_law 770 = .ok (.lcmp, 1) := by decide +kernel
theorem dL_law_771 : decode cL_law 771 = .ok (.ifCond .eq 5, 3) := by decide +kernel
theorem dL_law_774 : decode cL_law 774 = .ok (.iconst 0, 1) := by decide +kernel
theorem dL_law_775 : decode cL_law 775 = .ok (.ireturn, 1) := by decide +kernel
theorem dL_law_776 : decode cL_law 776 = .ok (.goto 302, 3) := by decide +kernel
theorem dL_law_779 : decode cL_law 779 = .ok (.aload_n 1, 1) := by decide +kernel
theorem dL_law_780 : decode cL_law 780 = .ok (.aload_n 0, 1) := by decide +kernel
theorem dL_law_781 : decode cL_law 781 = .ok (.iload 4, 2) := by decide +kernel
theorem dL_law_783 : decode cL_law 783 = .ok (.iconst 1, 1) := by decide +kernel
theorem dL_law_784 : decode cL_law 784 = .ok (.iadd, 1) := by decide +kernel
theorem dL_law_785 : decode cL_law 785 = .ok (.iaload, 1) := by decide +kernel
theorem dL_law_786 : decode cL_law 786 = .ok (.aload_n 3, 1) := by decide +kernel
theorem dL_law_787 : decode cL_law 787 = .ok (.invokestatic 101, 3) := by decide +kernel
theorem dL_law_790 : decode cL_law 790 = .ok (.istore 5, 2) := by decide +kernel
theorem dL_law_792 : decode cL_law 792 = .ok (.aload_n 2, 1) := by decide +kernel
theorem dL_law_793 : decode cL_law 793 = .ok (.aload_n 0, 1) := by decide +kernel
theorem dL_law_794 : decode cL_law 794 = .ok (.iload 4, 2) := by decide +kernel
theorem dL_law_796 : decode cL_law 796 = .ok (.iconst 1, 1) := by decide +kernel
theorem dL_law_797 : decode cL_law 797 = .ok (.iadd, 1) := by decide +kernel
theorem dL_law_798 : decode cL_law 798 = .ok (.iaload, 1) := by decide +kernel
theorem dL_law_799 : decode cL_law 799 = .ok (.invokevirtual 103, 3) := by decide +kernel
theorem dL_law_802 : decode cL_law 802 = .ok (.istore 6, 2) := by decide +kernel
theorem dL_law_804 : decode cL_law 804 = .ok (.aload_n 2, 1) := by decide +kernel
theorem dL_law_805 : decode cL_law 805 = .ok (.invokevirtual 70, 3) := by decide +kernel
theorem dL_law_808 : decode cL_law 808 = .ok (.iload 5, 2) := by decide +kernel
theorem dL_law_810 : decode cL_law 810 = .ok (.if_icmp .eq 5, 3) := by decide +kernel
theorem dL_law_813 : decode cL_law 813 = .ok (.iconst 0, 1) := by decide +kernel
theorem dL_law_814 : decode cL_law 814 = .ok (.ireturn, 1) := by decide +kernel
theorem dL_law_815 : decode cL_law 815 = .ok (.iload 5, 2) := by decide +kernel
theorem dL_law_817 : decode cL_law 817 = .ok (.ifCond .ne 15, 3) := by decide +kernel
theorem dL_law_820 : decode cL_law 820 = .ok (.aload_n 3, 1) := by decide +kernel
theorem dL_law_821 : decode cL_law 821 = .ok (.iconst 0, 1) := by decide +kernel
theorem dL_law_822 : decode cL_law 822 = .ok (.laload, 1) := by decide +kernel
theorem dL_law_823 : decode cL_law 823 = .ok (.iload 6, 2) := by decide +kernel
theorem dL_law_825 : decode cL_law 825 = .ok (.i2l, 1) := by decide +kernel
theorem dL_law_826 : decode cL_law 826 = .ok (.lcmp, 1) := by decide +kernel
theorem dL_law_827 : decode cL_law 827 = .ok (.ifCond .eq 5, 3) := by decide +kernel
theorem dL_law_830 : decode cL_law 830 = .ok (.iconst 0, 1) := by decide +kernel
theorem dL_law_831 : decode cL_law 831 = .ok (.ireturn, 1) := by decide +kernel
theorem dL_law_832 : decode cL_law 832 = .ok (.goto 246, 3) := by decide +kernel
theorem dL_law_835 : decode cL_law 835 = .ok (.aload_n 1, 1) := by decide +kernel
theorem dL_law_836 : decode cL_law 836 = .ok (.aload_n 0, 1) := by decide +kernel
theorem dL_law_837 : decode cL_law 837 = .ok (.iload 4, 2) := by decide +kernel
theorem dL_law_839 : decode cL_law 839 = .ok (.iconst 1, 1) := by decide +kernel
theorem dL_law_840 : decode cL_law 840 = .ok (.iadd, 1) := by decide +kernel
theorem dL_law_841 : decode cL_law 841 = .ok (.iaload, 1) := by decide +kernel
theorem dL_law_842 : decode cL_law 842 = .ok (.aload_n 0, 1) := by decide +kernel
theorem dL_law_843 : decode cL_law 843 = .ok (.iload 4, 2) := by decide +kernel
theorem dL_law_845 : decode cL_law 845 = .ok (.iconst 2, 1) := by decide +kernel
theorem dL_law_846 : decode cL_law 846 = .ok (.iadd, 1) := by decide +kernel
theorem dL_law_847 : decode cL_law 847 = .ok (.iaload, 1) := by decide +kernel
theorem dL_law_848 : decode cL_law 848 = .ok (.aload_n 3, 1) := by decide +kernel
theorem dL_law_849 : decode cL_law 849 = .ok (.invokestatic 104, 3) := by decide +kernel
theorem dL_law_852 : decode cL_law 852 = .ok (.istore 5, 2) := by decide +kernel
theorem dL_law_854 : decode cL_law 854 = .ok (.aload_n 2, 1) := by decide +kernel
theorem dL_law_855 : decode cL_law 855 = .ok (.aload_n 0, 1) := by decide +kernel
theorem dL_law_856 : decode cL_law 856 = .ok (.iload 4, 2) := by decide +kernel
theorem dL_law_858 : decode cL_law 858 = .ok (.iconst 1, 1) := by decide +kernel
theorem dL_law_859 : decode cL_law 859 = .ok (.iadd, 1) := by decide +kernel
theorem dL_law_860 : decode cL_law 860 = .ok (.iaload, 1) := by decide +kernel
theorem dL_law_861 : decode cL_law 861 = .ok (.aload_n 0, 1) := by decide +kernel
theorem dL_law_862 : decode cL_law 862 = .ok (.iload 4, 2) := by decide +kernel
theorem dL_law_864 : decode cL_law 864 = .ok (.iconst 2, 1) := by decide +kernel
theorem dL_law_865 : decode cL_law 865 = .ok (.iadd, 1) := by decide +kernel
theorem dL_law_866 : decode cL_law 866 = .ok (.iaload, 1) := by decide +kernel
theorem dL_law_867 : decode cL_law 867 = .ok (.invokevirtual 106, 3) := by decide +kernel
theorem dL_law_870 : decode cL_law 870 = .ok (.istore 6, 2) := by decide +kernel
theorem dL_law_872 : decode cL_law 872 = .ok (.aload_n 2, 1) := by decide +kernel
theorem dL_law_873 : decode cL_law 873 = .ok (.invokevirtual 70, 3) := by decide +kernel
theorem dL_law_876 : decode cL_law 876 = .ok (.iload 5, 2) := by decide +kernel
theorem dL_law_878 : decode cL_law 878 = .ok (.if_icmp .eq 5, 3) := by decide +kernel
theorem dL_law_881 : decode cL_law 881 = .ok (.iconst 0, 1) := by decide +kernel
theorem dL_law_882 : decode cL_law 882 = .ok (.ireturn, 1) := by decide +kernel
theorem dL_law_883 : decode cL_law 883 = .ok (.iload 5, 2) := by decide +kernel
theorem dL_law_885 : decode cL_law 885 = .ok (.ifCond .ne 15, 3) := by decide +kernel
theorem dL_law_888 : decode cL_law 888 = .ok (.aload_n 3, 1) := by decide +kernel
theorem dL_law_889 : decode cL_law 889 = .ok (.iconst 0, 1) := by decide +kernel
theorem dL_law_890 : decode cL_law 890 = .ok (.laload, 1) := by decide +kernel
theorem dL_law_891 : decode cL_law 891 = .ok (.iload 6, 2) := by decide +kernel
theorem dL_law_893 : decode cL_law 893 = .ok (.i2l, 1) := by decide +kernel
theorem dL_law_894 : decode cL_law 894 = .ok (.lcmp, 1) := by decide +kernel
theorem dL_law_895 : decode cL_law 895 = .ok (.ifCond .eq 5, 3) := by decide +kernel
theorem dL_law_898 : decode cL_law 898 = .ok (.iconst 0, 1) := by decide +kernel
theorem dL_law_899 : decode cL_law 899 = .ok (.ireturn, 1) := by decide +kernel
theorem dL_law_900 : decode cL_law 900 = .ok (.goto 178, 3) := by decide +kernel
theorem dL_law_903 : decode cL_law 903 = .ok (.aload_n 1, 1) := by decide +kernel
theorem dL_law_904 : decode cL_law 904 = .ok (.aload_n 0, 1) := by decide +kernel
theorem dL_law_905 : decode cL_law 905 = .ok (.iload 4, 2) := by decide +kernel
theorem dL_law_907 : decode cL_law 907 = .ok (.iconst 1, 1) := by decide +kernel
theorem dL_law_908 : decode cL_law 908 = .ok (.iadd, 1) := by decide +kernel
theorem dL_law_909 : decode cL_law 909 = .ok (.iaload, 1) := by decide +kernel
theorem dL_law_910 : decode cL_law 910 = .ok (.aload_n 0, 1) := by decide +kernel
theorem dL_law_911 : decode cL_law 911 = .ok (.iload 4, 2) := by decide +kernel
theorem dL_law_913 : decode cL_law 913 = .ok (.iconst 2, 1) := by decide +kernel
theorem dL_law_914 : decode cL_law 914 = .ok (.iadd, 1) := by decide +kernel
theorem dL_law_915 : decode cL_law 915 = .ok (.iaload, 1) := by decide +kernel
theorem dL_law_916 : decode cL_law 916 = .ok (.aload_n 3, 1) := by decide +kernel
theorem dL_law_917 : decode cL_law 917 = .ok (.invokestatic 107, 3) := by decide +kernel
theorem dL_law_920 : decode cL_law 920 = .ok (.istore 5, 2) := by decide +kernel
theorem dL_law_922 : decode cL_law 922 = .ok (.aload_n 2, 1) := by decide +kernel
theorem dL_law_923 : decode cL_law 923 = .ok (.aload_n 0, 1) := by decide +kernel
theorem dL_law_924 : decode cL_law 924 = .ok (.iload 4, 2) := by decide +kernel
theorem dL_law_926 : decode cL_law 926 = .ok (.iconst 1, 1) := by decide +kernel
theorem dL_law_927 : decode cL_law 927 = .ok (.iadd, 1) := by decide +kernel
theorem dL_law_928 : decode cL_law 928 = .ok (.iaload, 1) := by decide +kernel
theorem dL_law_929 : decode cL_law 929 = .ok (.aload_n 0, 1) := by decide +kernel
theorem dL_law_930 : decode cL_law 930 = .ok (.iload 4, 2) := by decide +kernel
theorem dL_law_932 : decode cL_law 932 = .ok (.iconst 2, 1) := by decide +kernel
theorem dL_law_933 : decode cL_law 933 = .ok (.iadd, 1) := by decide +kernel
theorem dL_law_934 : decode cL_law 934 = .ok (.iaload, 1) := by decide +kernel
theorem dL_law_935 : decode cL_law 935 = .ok (.invokevirtual 109, 3) := by decide +kernel
theorem dL_law_938 : decode cL_law 938 = .ok (.istore 6, 2) := by decide +kernel
theorem dL_law_940 : decode cL_law 940 = .ok (.aload_n 2, 1) := by decide +kernel
theorem dL_law_941 : decode cL_law 941 = .ok (.invokevirtual 70, 3) := by decide +kernel
theorem dL_law_944 : decode cL_law 944 = .ok (.iload 5, 2) := by decide +kernel
theorem dL_law_946 : decode cL_law 946 = .ok (.if_icmp .eq 5, 3) := by decide +kernel
theorem dL_law_949 : decode cL_law 949 = .ok (.iconst 0, 1) := by decide +kernel
theorem dL_law_950 : decode cL_law 950 = .ok (.ireturn, 1) := by decide +kernel
theorem dL_law_951 : decode cL_law 951 = .ok (.iload 5, 2) := by decide +kernel
theorem dL_law_953 : decode cL_law 953 = .ok (.ifCond .ne 22, 3) := by decide +kernel
theorem dL_law_956 : decode cL_law 956 = .ok (.aload_n 3, 1) := by decide +kernel
theorem dL_law_957 : decode cL_law 957 = .ok (.iconst 0, 1) := by decide +kernel
theorem dL_law_958 : decode cL_law 958 = .ok (.laload, 1) := by decide +kernel
theorem dL_law_959 : decode cL_law 959 = .ok (.iload 6, 2) := by decide +kernel
theorem dL_law_961 : decode cL_law 961 = .ok (.ifCond .eq 7, 3) := by decide +kernel
theorem dL_law_964 : decode cL_law 964 = .ok (.lconst 1, 1) := by decide +kernel
theorem dL_law_965 : decode cL_law 965 = .ok (.goto 4, 3) := by decide +kernel
theorem dL_law_968 : decode cL_law 968 = .ok (.lconst 0, 1) := by decide +kernel
theorem dL_law_969 : decode cL_law 969 = .ok (.lcmp, 1) := by decide +kernel
theorem dL_law_970 : decode cL_law 970 = .ok (.ifCond .eq 5, 3) := by decide +kernel
theorem dL_law_973 : decode cL_law 973 = .ok (.iconst 0, 1) := by decide +kernel
theorem dL_law_974 : decode cL_law 974 = .ok (.ireturn, 1) := by decide +kernel
theorem dL_law_975 : decode cL_law 975 = .ok (.goto 103, 3) := by decide +kernel
theorem dL_law_978 : decode cL_law 978 = .ok (.aload_n 1, 1) := by decide +kernel
theorem dL_law_979 : decode cL_law 979 = .ok (.aload_n 0, 1) := by decide +kernel
theorem dL_law_980 : decode cL_law 980 = .ok (.iload 4, 2) := by decide +kernel
theorem dL_law_982 : decode cL_law 982 = .ok (.iconst 1, 1) := by decide +kernel
theorem dL_law_983 : decode cL_law 983 = .ok (.iadd, 1) := by decide +kernel
theorem dL_law_984 : decode cL_law 984 = .ok (.iaload, 1) := by decide +kernel
theorem dL_law_985 : decode cL_law 985 = .ok (.aload_n 0, 1) := by decide +kernel
theorem dL_law_986 : decode cL_law 986 = .ok (.iload 4, 2) := by decide +kernel
theorem dL_law_988 : decode cL_law 988 = .ok (.iconst 2, 1) := by decide +kernel
theorem dL_law_989 : decode cL_law 989 = .ok (.iadd, 1) := by decide +kernel
theorem dL_law_990 : decode cL_law 990 = .ok (.iaload, 1) := by decide +kernel
theorem dL_law_991 : decode cL_law 991 = .ok (.aload_n 3, 1) := by decide +kernel
theorem dL_law_992 : decode cL_law 992 = .ok (.invokestatic 110, 3) := by decide +kernel
theorem dL_law_995 : decode cL_law 995 = .ok (.istore 5, 2) := by decide +kernel
theorem dL_law_997 : decode cL_law 997 = .ok (.aload_n 2, 1) := by decide +kernel
theorem dL_law_998 : decode cL_law 998 = .ok (.aload_n 0, 1) := by decide +kernel
theorem dL_law_999 : decode cL_law 999 = .ok (.iload 4, 2) := by decide +kernel
theorem dL_law_1001 : decode cL_law 1001 = .ok (.iconst 1, 1) := by decide +kernel
theorem dL_law_1002 : decode cL_law 1002 = .ok (.iadd, 1) := by decide +kernel
theorem dL_law_1003 : decode cL_law 1003 = .ok (.iaload, 1) := by decide +kernel
theorem dL_law_1004 : decode cL_law 1004 = .ok (.aload_n 0, 1) := by decide +kernel
theorem dL_law_1005 : decode cL_law 1005 = .ok (.iload 4, 2) := by decide +kernel
theorem dL_law_1007 : decode cL_law 1007 = .ok (.iconst 2, 1) := by decide +kernel
theorem dL_law_1008 : decode cL_law 1008 = .ok (.iadd, 1) := by decide +kernel
theorem dL_law_1009 : decode cL_law 1009 = .ok (.iaload, 1) := by decide +kernel
theorem dL_law_1010 : decode cL_law 1010 = .ok (.invokevirtual 112, 3) := by decide +kernel
theorem dL_law_1013 : decode cL_law 1013 = .ok (.istore 6, 2) := by decide +kernel
theorem dL_law_1015 : decode cL_law 1015 = .ok (.aload_n 2, 1) := by decide +kernel
theorem dL_law_1016 : decode cL_law 1016 = .ok (.invokevirtual 70, 3) := by decide +kernel
theorem dL_law_1019 : decode cL_law 1019 = .ok (.iload 5, 2) := by decide +kernel
theorem dL_law_1021 : decode cL_law 1021 = .ok (.if_icmp .eq 5, 3) := by decide +kernel
theorem dL_law_1024 : decode cL_law 1024 = .ok (.iconst 0, 1) := by decide +kernel
theorem dL_law_1025 : decode cL_law 1025 = .ok (.ireturn, 1) := by decide +kernel
theorem dL_law_1026 : decode cL_law 1026 = .ok (.iload 5, 2) := by decide +kernel
theorem dL_law_1028 : decode cL_law 1028 = .ok (.ifCond .ne 22, 3) := by decide +kernel
theorem dL_law_1031 : decode cL_law 1031 = .ok (.aload_n 3, 1) := by decide +kernel
theorem dL_law_1032 : decode cL_law 1032 = .ok (.iconst 0, 1) := by decide +kernel
theorem dL_law_1033 : decode cL_law 1033 = .ok (.laload, 1) := by decide +kernel
theorem dL_law_1034 : decode cL_law 1034 = .ok (.iload 6, 2) := by decide +kernel
theorem dL_law_1036 : decode cL_law 1036 = .ok (.ifCond .eq 7, 3) := by decide +kernel
theorem dL_law_1039 : decode cL_law 1039 = .ok (.lconst 1, 1) := by decide +kernel
theorem dL_law_1040 : decode cL_law 1040 = .ok (.goto 4, 3) := by decide +kernel
theorem dL_law_1043 : decode cL_law 1043 = .ok (.lconst 0, 1) := by decide +kernel
theorem dL_law_1044 : decode cL_law 1044 = .ok (.lcmp, 1) := by decide +kernel
theorem dL_law_1045 : decode cL_law 1045 = .ok (.ifCond .eq 5, 3) := by decide +kernel
theorem dL_law_1048 : decode cL_law 1048 = .ok (.iconst 0, 1) := by decide +kernel
theorem dL_law_1049 : decode cL_law 1049 = .ok (.ireturn, 1) := by decide +kernel
theorem dL_law_1050 : decode cL_law 1050 = .ok (.goto 28, 3) := by decide +kernel
theorem dL_law_1053 : decode cL_law 1053 = .ok (.aload_n 1, 1) := by decide +kernel
theorem dL_law_1054 : decode cL_law 1054 = .ok (.aload_n 0, 1) := by decide +kernel
theorem dL_law_1055 : decode cL_law 1055 = .ok (.iload 4, 2) := by decide +kernel
theorem dL_law_1057 : decode cL_law 1057 = .ok (.iconst 1, 1) := by decide +kernel
theorem dL_law_1058 : decode cL_law 1058 = .ok (.iadd, 1) := by decide +kernel
theorem dL_law_1059 : decode cL_law 1059 = .ok (.iaload, 1) := by decide +kernel
theorem dL_law_1060 : decode cL_law 1060 = .ok (.invokevirtual 113, 3) := by decide +kernel
theorem dL_law_1063 : decode cL_law 1063 = .ok (.aload_n 2, 1) := by decide +kernel
theorem dL_law_1064 : decode cL_law 1064 = .ok (.aload_n 0, 1) := by decide +kernel
theorem dL_law_1065 : decode cL_law 1065 = .ok (.iload 4, 2) := by decide +kernel
theorem dL_law_1067 : decode cL_law 1067 = .ok (.iconst 1, 1) := by decide +kernel
theorem dL_law_1068 : decode cL_law 1068 = .ok (.iadd, 1) := by decide +kernel
theorem dL_law_1069 : decode cL_law 1069 = .ok (.iaload, 1) := by decide +kernel
theorem dL_law_1070 : decode cL_law 1070 = .ok (.invokevirtual 116, 3) := by decide +kernel
theorem dL_law_1073 : decode cL_law 1073 = .ok (.if_icmp .eq 5, 3) := by decide +kernel
theorem dL_law_1076 : decode cL_law 1076 = .ok (.iconst 0, 1) := by decide +kernel
theorem dL_law_1077 : decode cL_law 1077 = .ok (.ireturn, 1) := by decide +kernel
theorem dL_law_1078 : decode cL_law 1078 = .ok (.iinc 4 5, 3) := by decide +kernel
theorem dL_law_1081 : decode cL_law 1081 = .ok (.goto (-1058), 3) := by decide +kernel
theorem dL_law_1084 : decode cL_law 1084 = .ok (.iconst 1, 1) := by decide +kernel
theorem dL_law_1085 : decode cL_law 1085 = .ok (.ireturn, 1) := by decide +kernel

