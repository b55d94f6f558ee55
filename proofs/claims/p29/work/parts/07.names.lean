/-! names of the classes' methods that are walked, out of the printed names -/
abbrev cX0_init : ByteArray := prog_2_method_1_code
def yX0_init : MethodName := ⟨RX0, "<init>", "()V"⟩
abbrev cX1_init : ByteArray := prog_3_method_1_code
def yX1_init : MethodName := ⟨RX1, "<init>", "()V"⟩
abbrev cX2_init : ByteArray := prog_4_method_1_code
def yX2_init : MethodName := ⟨RX2, "<init>", "(LSetAgain$Chair;LSetAgain$Habits;)V"⟩
abbrev cX3_init : ByteArray := prog_5_method_1_code
def yX3_init : MethodName := ⟨RX3, "<init>", "()V"⟩
abbrev cX4_init : ByteArray := prog_6_method_1_code
def yX4_init : MethodName := ⟨RX4, "<init>", "(LSetAgain$Chair;LSetAgain$Week;)V"⟩
abbrev cX5_init : ByteArray := prog_7_method_1_code
def yX5_init : MethodName := ⟨RX5, "<init>", "()V"⟩
abbrev cX6_init : ByteArray := prog_8_method_1_code
def yX6_init : MethodName := ⟨RX6, "<init>", "(LSetAgain$Chair;)V"⟩
abbrev cX7_init : ByteArray := prog_9_method_1_code
def yX7_init : MethodName := ⟨RX7, "<init>", "()V"⟩
abbrev cX8_init : ByteArray := prog_10_method_1_code
def yX8_init : MethodName := ⟨RX8, "<init>", "(LSetAgain$Chair;LSetAgain$Week;)V"⟩
def tyX9 : Nat → FieldType := fun k => match k with
  | 0 => .object "SetAgain$Chair"
  | 1 => .object "SetAgain$Week"
  | _ => .array .int
theorem nmX9 : ∀ a, a < 3 → ∀ b, b < 3 → a ≠ b → (TX9 a).2.1 ≠ (TX9 b).2.1 := by decide +kernel
theorem tyX9_ok : ∀ k, k < 3 → parseFieldDescriptor (TX9 k).2.2.1 = some (tyX9 k) := by decide +kernel
abbrev cX9_init : ByteArray := prog_11_method_1_code
def yX9_init : MethodName := ⟨RX9, "<init>", "(LSetAgain$Chair;LSetAgain$Week;)V"⟩
abbrev cX10_init : ByteArray := prog_12_method_1_code
def yX10_init : MethodName := ⟨RX10, "<init>", "()V"⟩
def tyX11 : Nat → FieldType := fun k => match k with
  | 0 => .object "SetAgain$Chair"
  | 1 => .object "SetAgain$Week"
  | 2 => .object "SetAgain$Habits"
  | 3 => .object "SetAgain$Still"
  | 4 => .object "SetAgain$Turning"
  | 5 => .object "SetAgain$Seen"
  | 6 => .object "SetAgain$Deed"
  | 7 => .object "SetAgain$Changes"
  | 8 => .object "SetAgain$Desks"
  | _ => .array (.object "SetAgain$Shelf")
theorem nmX11 : ∀ a, a < 10 → ∀ b, b < 10 → a ≠ b → (TX11 a).2.1 ≠ (TX11 b).2.1 := by decide +kernel
theorem tyX11_ok : ∀ k, k < 10 → parseFieldDescriptor (TX11 k).2.2.1 = some (tyX11 k) := by decide +kernel
abbrev cX11_init : ByteArray := prog_1_method_1_code
def yX11_init : MethodName := ⟨RX11, "<init>", "()V"⟩
abbrev cX12_init : ByteArray := prog_14_method_5_code
def yX12_init : MethodName := ⟨RX12, "<init>", "()V"⟩
def RL : String := "SetAgainLaw"
abbrev cL_law : ByteArray := code
theorem dX0_init_0 : decode cX0_init 0 = .ok (.aload_n 0, 1) := dk_o42 (by decide +kernel)
theorem dX0_init_1 : decode cX0_init 1 = .ok (.invokespecial 5, 3) := dk_o183 (a := 0) (b := 5) (by decide +kernel)
theorem dX0_init_4 : decode cX0_init 4 = .ok (.aload_n 0, 1) := dk_o42 (by decide +kernel)
theorem dX0_init_5 : decode cX0_init 5 = .ok (.bipush 71, 2) := dk_o16 (a := 71) (by decide +kernel)
theorem dX0_init_7 : decode cX0_init 7 = .ok (.newarray .int, 2) := by decide +kernel
theorem dX0_init_9 : decode cX0_init 9 = .ok (.putfield 11, 3) := dk_o181 (a := 0) (b := 11) (by decide +kernel)
theorem dX0_init_12 : decode cX0_init 12 = .ok (.aload_n 0, 1) := dk_o42 (by decide +kernel)
theorem dX0_init_13 : decode cX0_init 13 = .ok (.iconst 3, 1) := dk_o6 (by decide +kernel)
theorem dX0_init_14 : decode cX0_init 14 = .ok (.newarray .int, 2) := by decide +kernel
theorem dX0_init_16 : decode cX0_init 16 = .ok (.putfield 15, 3) := dk_o181 (a := 0) (b := 15) (by decide +kernel)
theorem dX0_init_19 : decode cX0_init 19 = .ok (.aload_n 0, 1) := dk_o42 (by decide +kernel)
theorem dX0_init_20 : decode cX0_init 20 = .ok (.new 18, 3) := dk_o187 (a := 0) (b := 18) (by decide +kernel)
theorem dX0_init_23 : decode cX0_init 23 = .ok (.dup, 1) := dk_o89 (by decide +kernel)
theorem dX0_init_24 : decode cX0_init 24 = .ok (.invokespecial 20, 3) := dk_o183 (a := 0) (b := 20) (by decide +kernel)
theorem dX0_init_27 : decode cX0_init 27 = .ok (.putfield 21, 3) := dk_o181 (a := 0) (b := 21) (by decide +kernel)
theorem dX0_init_30 : decode cX0_init 30 = .ok (.aload_n 0, 1) := dk_o42 (by decide +kernel)
theorem dX0_init_31 : decode cX0_init 31 = .ok (.sipush 1464, 3) := dk_o17 (a := 5) (b := 184) (by decide +kernel)
theorem dX0_init_34 : decode cX0_init 34 = .ok (.newarray .int, 2) := by decide +kernel
theorem dX0_init_36 : decode cX0_init 36 = .ok (.putfield 25, 3) := dk_o181 (a := 0) (b := 25) (by decide +kernel)
theorem dX0_init_39 : decode cX0_init 39 = .ok (.iconst 0, 1) := dk_o3 (by decide +kernel)
theorem dX0_init_40 : decode cX0_init 40 = .ok (.istore_n 1, 1) := dk_o60 (by decide +kernel)
theorem dX0_init_41 : decode cX0_init 41 = .ok (.iload_n 1, 1) := dk_o27 (by decide +kernel)
theorem dX0_init_42 : decode cX0_init 42 = .ok (.iconst 3, 1) := dk_o6 (by decide +kernel)
theorem dX0_init_43 : decode cX0_init 43 = .ok (.if_icmp .ge 27, 3) := dk_o162 (a := 0) (b := 27) (by decide +kernel)
theorem dX0_init_46 : decode cX0_init 46 = .ok (.aload_n 0, 1) := dk_o42 (by decide +kernel)
theorem dX0_init_47 : decode cX0_init 47 = .ok (.getfield 15, 3) := dk_o180 (a := 0) (b := 15) (by decide +kernel)
theorem dX0_init_50 : decode cX0_init 50 = .ok (.iload_n 1, 1) := dk_o27 (by decide +kernel)
theorem dX0_init_51 : decode cX0_init 51 = .ok (.bipush 30, 2) := dk_o16 (a := 30) (by decide +kernel)
theorem dX0_init_53 : decode cX0_init 53 = .ok (.iastore, 1) := dk_o79 (by decide +kernel)
theorem dX0_init_54 : decode cX0_init 54 = .ok (.aload_n 0, 1) := dk_o42 (by decide +kernel)
theorem dX0_init_55 : decode cX0_init 55 = .ok (.getfield 11, 3) := dk_o180 (a := 0) (b := 11) (by decide +kernel)
theorem dX0_init_58 : decode cX0_init 58 = .ok (.bipush 67, 2) := dk_o16 (a := 67) (by decide +kernel)
theorem dX0_init_60 : decode cX0_init 60 = .ok (.iload_n 1, 1) := dk_o27 (by decide +kernel)
theorem dX0_init_61 : decode cX0_init 61 = .ok (.iadd, 1) := dk_o96 (by decide +kernel)
theorem dX0_init_62 : decode cX0_init 62 = .ok (.iconst 1, 1) := dk_o4 (by decide +kernel)
theorem dX0_init_63 : decode cX0_init 63 = .ok (.iastore, 1) := dk_o79 (by decide +kernel)
theorem dX0_init_64 : decode cX0_init 64 = .ok (.iinc 1 1, 3) := dk_o132 (b := 1) (by decide +kernel)
theorem dX0_init_67 : decode cX0_init 67 = .ok (.goto (-26), 3) := dk_o167 (a := 255) (b := 230) (by decide +kernel)
theorem dX0_init_70 : decode cX0_init 70 = .ok (.aload_n 0, 1) := dk_o42 (by decide +kernel)
theorem dX0_init_71 : decode cX0_init 71 = .ok (.getfield 11, 3) := dk_o180 (a := 0) (b := 11) (by decide +kernel)
theorem dX0_init_74 : decode cX0_init 74 = .ok (.bipush 70, 2) := dk_o16 (a := 70) (by decide +kernel)
theorem dX0_init_76 : decode cX0_init 76 = .ok (.iconst 3, 1) := dk_o6 (by decide +kernel)
theorem dX0_init_77 : decode cX0_init 77 = .ok (.iastore, 1) := dk_o79 (by decide +kernel)
theorem dX0_init_78 : decode cX0_init 78 = .ok (.return_, 1) := dk_o177 (by decide +kernel)
theorem dX1_init_0 : decode cX1_init 0 = .ok (.aload_n 0, 1) := dk_o42 (by decide +kernel)
theorem dX1_init_1 : decode cX1_init 1 = .ok (.invokespecial 1, 3) := dk_o183 (a := 0) (b := 1) (by decide +kernel)
theorem dX1_init_4 : decode cX1_init 4 = .ok (.aload_n 0, 1) := dk_o42 (by decide +kernel)
theorem dX1_init_5 : decode cX1_init 5 = .ok (.bipush 40, 2) := dk_o16 (a := 40) (by decide +kernel)
theorem dX1_init_7 : decode cX1_init 7 = .ok (.newarray .int, 2) := by decide +kernel
theorem dX1_init_9 : decode cX1_init 9 = .ok (.putfield 9, 3) := dk_o181 (a := 0) (b := 9) (by decide +kernel)
theorem dX1_init_12 : decode cX1_init 12 = .ok (.aload_n 0, 1) := dk_o42 (by decide +kernel)
theorem dX1_init_13 : decode cX1_init 13 = .ok (.bipush 40, 2) := dk_o16 (a := 40) (by decide +kernel)
theorem dX1_init_15 : decode cX1_init 15 = .ok (.newarray .int, 2) := by decide +kernel
theorem dX1_init_17 : decode cX1_init 17 = .ok (.putfield 13, 3) := dk_o181 (a := 0) (b := 13) (by decide +kernel)
theorem dX1_init_20 : decode cX1_init 20 = .ok (.aload_n 0, 1) := dk_o42 (by decide +kernel)
theorem dX1_init_21 : decode cX1_init 21 = .ok (.bipush 40, 2) := dk_o16 (a := 40) (by decide +kernel)
theorem dX1_init_23 : decode cX1_init 23 = .ok (.newarray .int, 2) := by decide +kernel
theorem dX1_init_25 : decode cX1_init 25 = .ok (.putfield 16, 3) := dk_o181 (a := 0) (b := 16) (by decide +kernel)
theorem dX1_init_28 : decode cX1_init 28 = .ok (.return_, 1) := dk_o177 (by decide +kernel)
theorem dX2_init_0 : decode cX2_init 0 = .ok (.aload_n 0, 1) := dk_o42 (by decide +kernel)
theorem dX2_init_1 : decode cX2_init 1 = .ok (.invokespecial 3, 3) := dk_o183 (a := 0) (b := 3) (by decide +kernel)
theorem dX2_init_4 : decode cX2_init 4 = .ok (.aload_n 0, 1) := dk_o42 (by decide +kernel)
theorem dX2_init_5 : decode cX2_init 5 = .ok (.iconst 5, 1) := dk_o8 (by decide +kernel)
theorem dX2_init_6 : decode cX2_init 6 = .ok (.newarray .int, 2) := by decide +kernel
theorem dX2_init_8 : decode cX2_init 8 = .ok (.putfield 11, 3) := dk_o181 (a := 0) (b := 11) (by decide +kernel)
theorem dX2_init_11 : decode cX2_init 11 = .ok (.aload_n 0, 1) := dk_o42 (by decide +kernel)
theorem dX2_init_12 : decode cX2_init 12 = .ok (.iconst 5, 1) := dk_o8 (by decide +kernel)
theorem dX2_init_13 : decode cX2_init 13 = .ok (.newarray .int, 2) := by decide +kernel
theorem dX2_init_15 : decode cX2_init 15 = .ok (.putfield 15, 3) := dk_o181 (a := 0) (b := 15) (by decide +kernel)
theorem dX2_init_18 : decode cX2_init 18 = .ok (.aload_n 0, 1) := dk_o42 (by decide +kernel)
theorem dX2_init_19 : decode cX2_init 19 = .ok (.iconst 3, 1) := dk_o6 (by decide +kernel)
theorem dX2_init_20 : decode cX2_init 20 = .ok (.newarray .int, 2) := by decide +kernel
theorem dX2_init_22 : decode cX2_init 22 = .ok (.putfield 18, 3) := dk_o181 (a := 0) (b := 18) (by decide +kernel)
theorem dX2_init_25 : decode cX2_init 25 = .ok (.aload_n 0, 1) := dk_o42 (by decide +kernel)
theorem dX2_init_26 : decode cX2_init 26 = .ok (.aload_n 1, 1) := dk_o43 (by decide +kernel)
theorem dX2_init_27 : decode cX2_init 27 = .ok (.putfield 21, 3) := dk_o181 (a := 0) (b := 21) (by decide +kernel)
theorem dX2_init_30 : decode cX2_init 30 = .ok (.aload_n 0, 1) := dk_o42 (by decide +kernel)
theorem dX2_init_31 : decode cX2_init 31 = .ok (.aload_n 2, 1) := dk_o44 (by decide +kernel)
theorem dX2_init_32 : decode cX2_init 32 = .ok (.putfield 25, 3) := dk_o181 (a := 0) (b := 25) (by decide +kernel)
theorem dX2_init_35 : decode cX2_init 35 = .ok (.aload_n 0, 1) := dk_o42 (by decide +kernel)
theorem dX2_init_36 : decode cX2_init 36 = .ok (.getfield 11, 3) := dk_o180 (a := 0) (b := 11) (by decide +kernel)
theorem dX2_init_39 : decode cX2_init 39 = .ok (.iconst 4, 1) := dk_o7 (by decide +kernel)
theorem dX2_init_40 : decode cX2_init 40 = .ok (.bipush (-2), 2) := dk_o16 (a := 254) (by decide +kernel)
theorem dX2_init_42 : decode cX2_init 42 = .ok (.iastore, 1) := dk_o79 (by decide +kernel)
theorem dX2_init_43 : decode cX2_init 43 = .ok (.return_, 1) := dk_o177 (by decide +kernel)
theorem dX3_init_0 : decode cX3_init 0 = .ok (.aload_n 0, 1) := dk_o42 (by decide +kernel)
theorem dX3_init_1 : decode cX3_init 1 = .ok (.invokespecial 3, 3) := dk_o183 (a := 0) (b := 3) (by decide +kernel)
theorem dX3_init_4 : decode cX3_init 4 = .ok (.aload_n 0, 1) := dk_o42 (by decide +kernel)
theorem dX3_init_5 : decode cX3_init 5 = .ok (.bipush 50, 2) := dk_o16 (a := 50) (by decide +kernel)
theorem dX3_init_7 : decode cX3_init 7 = .ok (.newarray .int, 2) := by decide +kernel
theorem dX3_init_9 : decode cX3_init 9 = .ok (.putfield 9, 3) := dk_o181 (a := 0) (b := 9) (by decide +kernel)
theorem dX3_init_12 : decode cX3_init 12 = .ok (.aload_n 0, 1) := dk_o42 (by decide +kernel)
theorem dX3_init_13 : decode cX3_init 13 = .ok (.bipush 24, 2) := dk_o16 (a := 24) (by decide +kernel)
theorem dX3_init_15 : decode cX3_init 15 = .ok (.newarray .int, 2) := by decide +kernel
theorem dX3_init_17 : decode cX3_init 17 = .ok (.putfield 15, 3) := dk_o181 (a := 0) (b := 15) (by decide +kernel)
theorem dX3_init_20 : decode cX3_init 20 = .ok (.return_, 1) := dk_o177 (by decide +kernel)
theorem dX4_init_0 : decode cX4_init 0 = .ok (.aload_n 0, 1) := dk_o42 (by decide +kernel)
theorem dX4_init_1 : decode cX4_init 1 = .ok (.invokespecial 3, 3) := dk_o183 (a := 0) (b := 3) (by decide +kernel)
theorem dX4_init_4 : decode cX4_init 4 = .ok (.aload_n 0, 1) := dk_o42 (by decide +kernel)
theorem dX4_init_5 : decode cX4_init 5 = .ok (.iconst 3, 1) := dk_o6 (by decide +kernel)
theorem dX4_init_6 : decode cX4_init 6 = .ok (.newarray .int, 2) := by decide +kernel
theorem dX4_init_8 : decode cX4_init 8 = .ok (.putfield 9, 3) := dk_o181 (a := 0) (b := 9) (by decide +kernel)
theorem dX4_init_11 : decode cX4_init 11 = .ok (.aload_n 0, 1) := dk_o42 (by decide +kernel)
theorem dX4_init_12 : decode cX4_init 12 = .ok (.iconst 3, 1) := dk_o6 (by decide +kernel)
theorem dX4_init_13 : decode cX4_init 13 = .ok (.newarray .int, 2) := by decide +kernel
theorem dX4_init_15 : decode cX4_init 15 = .ok (.putfield 15, 3) := dk_o181 (a := 0) (b := 15) (by decide +kernel)
theorem dX4_init_18 : decode cX4_init 18 = .ok (.aload_n 0, 1) := dk_o42 (by decide +kernel)
theorem dX4_init_19 : decode cX4_init 19 = .ok (.bipush 8, 2) := dk_o16 (a := 8) (by decide +kernel)
theorem dX4_init_21 : decode cX4_init 21 = .ok (.newarray .int, 2) := by decide +kernel
theorem dX4_init_23 : decode cX4_init 23 = .ok (.putfield 18, 3) := dk_o181 (a := 0) (b := 18) (by decide +kernel)
theorem dX4_init_26 : decode cX4_init 26 = .ok (.aload_n 0, 1) := dk_o42 (by decide +kernel)
theorem dX4_init_27 : decode cX4_init 27 = .ok (.iconst (-1), 1) := dk_o2 (by decide +kernel)
theorem dX4_init_28 : decode cX4_init 28 = .ok (.putfield 21, 3) := dk_o181 (a := 0) (b := 21) (by decide +kernel)
theorem dX4_init_31 : decode cX4_init 31 = .ok (.aload_n 0, 1) := dk_o42 (by decide +kernel)
theorem dX4_init_32 : decode cX4_init 32 = .ok (.iconst (-1), 1) := dk_o2 (by decide +kernel)
theorem dX4_init_33 : decode cX4_init 33 = .ok (.putfield 25, 3) := dk_o181 (a := 0) (b := 25) (by decide +kernel)
theorem dX4_init_36 : decode cX4_init 36 = .ok (.aload_n 0, 1) := dk_o42 (by decide +kernel)
theorem dX4_init_37 : decode cX4_init 37 = .ok (.aload_n 1, 1) := dk_o43 (by decide +kernel)
theorem dX4_init_38 : decode cX4_init 38 = .ok (.putfield 28, 3) := dk_o181 (a := 0) (b := 28) (by decide +kernel)
theorem dX4_init_41 : decode cX4_init 41 = .ok (.aload_n 0, 1) := dk_o42 (by decide +kernel)
theorem dX4_init_42 : decode cX4_init 42 = .ok (.aload_n 2, 1) := dk_o44 (by decide +kernel)
theorem dX4_init_43 : decode cX4_init 43 = .ok (.putfield 32, 3) := dk_o181 (a := 0) (b := 32) (by decide +kernel)
theorem dX4_init_46 : decode cX4_init 46 = .ok (.return_, 1) := dk_o177 (by decide +kernel)
theorem dX5_init_0 : decode cX5_init 0 = .ok (.aload_n 0, 1) := dk_o42 (by decide +kernel)
theorem dX5_init_1 : decode cX5_init 1 = .ok (.invokespecial 3, 3) := dk_o183 (a := 0) (b := 3) (by decide +kernel)
theorem dX5_init_4 : decode cX5_init 4 = .ok (.aload_n 0, 1) := dk_o42 (by decide +kernel)
theorem dX5_init_5 : decode cX5_init 5 = .ok (.bipush 120, 2) := dk_o16 (a := 120) (by decide +kernel)
theorem dX5_init_7 : decode cX5_init 7 = .ok (.newarray .int, 2) := by decide +kernel
theorem dX5_init_9 : decode cX5_init 9 = .ok (.putfield 11, 3) := dk_o181 (a := 0) (b := 11) (by decide +kernel)
theorem dX5_init_12 : decode cX5_init 12 = .ok (.aload_n 0, 1) := dk_o42 (by decide +kernel)
theorem dX5_init_13 : decode cX5_init 13 = .ok (.bipush 121, 2) := dk_o16 (a := 121) (by decide +kernel)
theorem dX5_init_15 : decode cX5_init 15 = .ok (.newarray .int, 2) := by decide +kernel
theorem dX5_init_17 : decode cX5_init 17 = .ok (.putfield 15, 3) := dk_o181 (a := 0) (b := 15) (by decide +kernel)
theorem dX5_init_20 : decode cX5_init 20 = .ok (.aload_n 0, 1) := dk_o42 (by decide +kernel)
theorem dX5_init_21 : decode cX5_init 21 = .ok (.bipush 121, 2) := dk_o16 (a := 121) (by decide +kernel)
theorem dX5_init_23 : decode cX5_init 23 = .ok (.newarray .int, 2) := by decide +kernel
theorem dX5_init_25 : decode cX5_init 25 = .ok (.putfield 18, 3) := dk_o181 (a := 0) (b := 18) (by decide +kernel)
theorem dX5_init_28 : decode cX5_init 28 = .ok (.aload_n 0, 1) := dk_o42 (by decide +kernel)
theorem dX5_init_29 : decode cX5_init 29 = .ok (.bipush 122, 2) := dk_o16 (a := 122) (by decide +kernel)
theorem dX5_init_31 : decode cX5_init 31 = .ok (.newarray .int, 2) := by decide +kernel
theorem dX5_init_33 : decode cX5_init 33 = .ok (.putfield 21, 3) := dk_o181 (a := 0) (b := 21) (by decide +kernel)
theorem dX5_init_36 : decode cX5_init 36 = .ok (.return_, 1) := dk_o177 (by decide +kernel)
theorem dX6_init_0 : decode cX6_init 0 = .ok (.aload_n 0, 1) := dk_o42 (by decide +kernel)
theorem dX6_init_1 : decode cX6_init 1 = .ok (.invokespecial 3, 3) := dk_o183 (a := 0) (b := 3) (by decide +kernel)
theorem dX6_init_4 : decode cX6_init 4 = .ok (.aload_n 0, 1) := dk_o42 (by decide +kernel)
theorem dX6_init_5 : decode cX6_init 5 = .ok (.aload_n 1, 1) := dk_o43 (by decide +kernel)
theorem dX6_init_6 : decode cX6_init 6 = .ok (.putfield 9, 3) := dk_o181 (a := 0) (b := 9) (by decide +kernel)
theorem dX6_init_9 : decode cX6_init 9 = .ok (.return_, 1) := dk_o177 (by decide +kernel)
theorem dX7_init_0 : decode cX7_init 0 = .ok (.aload_n 0, 1) := dk_o42 (by decide +kernel)
theorem dX7_init_1 : decode cX7_init 1 = .ok (.invokespecial 3, 3) := dk_o183 (a := 0) (b := 3) (by decide +kernel)
theorem dX7_init_4 : decode cX7_init 4 = .ok (.aload_n 0, 1) := dk_o42 (by decide +kernel)
theorem dX7_init_5 : decode cX7_init 5 = .ok (.bipush 60, 2) := dk_o16 (a := 60) (by decide +kernel)
theorem dX7_init_7 : decode cX7_init 7 = .ok (.newarray .long, 2) := by decide +kernel
theorem dX7_init_9 : decode cX7_init 9 = .ok (.putfield 9, 3) := dk_o181 (a := 0) (b := 9) (by decide +kernel)
theorem dX7_init_12 : decode cX7_init 12 = .ok (.aload_n 0, 1) := dk_o42 (by decide +kernel)
theorem dX7_init_13 : decode cX7_init 13 = .ok (.iconst (-1), 1) := dk_o2 (by decide +kernel)
theorem dX7_init_14 : decode cX7_init 14 = .ok (.putfield 15, 3) := dk_o181 (a := 0) (b := 15) (by decide +kernel)
theorem dX7_init_17 : decode cX7_init 17 = .ok (.return_, 1) := dk_o177 (by decide +kernel)
theorem dX8_init_0 : decode cX8_init 0 = .ok (.aload_n 0, 1) := dk_o42 (by decide +kernel)
theorem dX8_init_1 : decode cX8_init 1 = .ok (.invokespecial 3, 3) := dk_o183 (a := 0) (b := 3) (by decide +kernel)
theorem dX8_init_4 : decode cX8_init 4 = .ok (.aload_n 0, 1) := dk_o42 (by decide +kernel)
theorem dX8_init_5 : decode cX8_init 5 = .ok (.bipush 61, 2) := dk_o16 (a := 61) (by decide +kernel)
theorem dX8_init_7 : decode cX8_init 7 = .ok (.newarray .int, 2) := by decide +kernel
theorem dX8_init_9 : decode cX8_init 9 = .ok (.putfield 9, 3) := dk_o181 (a := 0) (b := 9) (by decide +kernel)
theorem dX8_init_12 : decode cX8_init 12 = .ok (.aload_n 0, 1) := dk_o42 (by decide +kernel)
theorem dX8_init_13 : decode cX8_init 13 = .ok (.bipush 61, 2) := dk_o16 (a := 61) (by decide +kernel)
theorem dX8_init_15 : decode cX8_init 15 = .ok (.newarray .boolean, 2) := by decide +kernel
theorem dX8_init_17 : decode cX8_init 17 = .ok (.putfield 15, 3) := dk_o181 (a := 0) (b := 15) (by decide +kernel)
theorem dX8_init_20 : decode cX8_init 20 = .ok (.aload_n 0, 1) := dk_o42 (by decide +kernel)
theorem dX8_init_21 : decode cX8_init 21 = .ok (.bipush 8, 2) := dk_o16 (a := 8) (by decide +kernel)
theorem dX8_init_23 : decode cX8_init 23 = .ok (.newarray .int, 2) := by decide +kernel
theorem dX8_init_25 : decode cX8_init 25 = .ok (.putfield 19, 3) := dk_o181 (a := 0) (b := 19) (by decide +kernel)
theorem dX8_init_28 : decode cX8_init 28 = .ok (.aload_n 0, 1) := dk_o42 (by decide +kernel)
theorem dX8_init_29 : decode cX8_init 29 = .ok (.sipush 256, 3) := dk_o17 (a := 1) (b := 0) (by decide +kernel)
theorem dX8_init_32 : decode cX8_init 32 = .ok (.newarray .int, 2) := by decide +kernel
theorem dX8_init_34 : decode cX8_init 34 = .ok (.putfield 22, 3) := dk_o181 (a := 0) (b := 22) (by decide +kernel)
theorem dX8_init_37 : decode cX8_init 37 = .ok (.aload_n 0, 1) := dk_o42 (by decide +kernel)
theorem dX8_init_38 : decode cX8_init 38 = .ok (.sipush 256, 3) := dk_o17 (a := 1) (b := 0) (by decide +kernel)
theorem dX8_init_41 : decode cX8_init 41 = .ok (.newarray .int, 2) := by decide +kernel
theorem dX8_init_43 : decode cX8_init 43 = .ok (.putfield 25, 3) := dk_o181 (a := 0) (b := 25) (by decide +kernel)
theorem dX8_init_46 : decode cX8_init 46 = .ok (.aload_n 0, 1) := dk_o42 (by decide +kernel)
theorem dX8_init_47 : decode cX8_init 47 = .ok (.iconst 3, 1) := dk_o6 (by decide +kernel)
theorem dX8_init_48 : decode cX8_init 48 = .ok (.newarray .int, 2) := by decide +kernel
theorem dX8_init_50 : decode cX8_init 50 = .ok (.putfield 28, 3) := dk_o181 (a := 0) (b := 28) (by decide +kernel)
theorem dX8_init_53 : decode cX8_init 53 = .ok (.aload_n 0, 1) := dk_o42 (by decide +kernel)
theorem dX8_init_54 : decode cX8_init 54 = .ok (.iconst 3, 1) := dk_o6 (by decide +kernel)
theorem dX8_init_55 : decode cX8_init 55 = .ok (.newarray .int, 2) := by decide +kernel
theorem dX8_init_57 : decode cX8_init 57 = .ok (.putfield 31, 3) := dk_o181 (a := 0) (b := 31) (by decide +kernel)
theorem dX8_init_60 : decode cX8_init 60 = .ok (.aload_n 0, 1) := dk_o42 (by decide +kernel)
theorem dX8_init_61 : decode cX8_init 61 = .ok (.aload_n 1, 1) := dk_o43 (by decide +kernel)
theorem dX8_init_62 : decode cX8_init 62 = .ok (.putfield 34, 3) := dk_o181 (a := 0) (b := 34) (by decide +kernel)
theorem dX8_init_65 : decode cX8_init 65 = .ok (.aload_n 0, 1) := dk_o42 (by decide +kernel)
theorem dX8_init_66 : decode cX8_init 66 = .ok (.aload_n 2, 1) := dk_o44 (by decide +kernel)
theorem dX8_init_67 : decode cX8_init 67 = .ok (.putfield 38, 3) := dk_o181 (a := 0) (b := 38) (by decide +kernel)
theorem dX8_init_70 : decode cX8_init 70 = .ok (.return_, 1) := dk_o177 (by decide +kernel)
theorem dX9_init_0 : decode cX9_init 0 = .ok (.aload_n 0, 1) := dk_o42 (by decide +kernel)
theorem dX9_init_1 : decode cX9_init 1 = .ok (.invokespecial 3, 3) := dk_o183 (a := 0) (b := 3) (by decide +kernel)
theorem dX9_init_4 : decode cX9_init 4 = .ok (.aload_n 0, 1) := dk_o42 (by decide +kernel)
theorem dX9_init_5 : decode cX9_init 5 = .ok (.sipush 1342, 3) := dk_o17 (a := 5) (b := 62) (by decide +kernel)
theorem dX9_init_8 : decode cX9_init 8 = .ok (.newarray .int, 2) := by decide +kernel
theorem dX9_init_10 : decode cX9_init 10 = .ok (.putfield 9, 3) := dk_o181 (a := 0) (b := 9) (by decide +kernel)
theorem dX9_init_13 : decode cX9_init 13 = .ok (.aload_n 0, 1) := dk_o42 (by decide +kernel)
theorem dX9_init_14 : decode cX9_init 14 = .ok (.aload_n 1, 1) := dk_o43 (by decide +kernel)
theorem dX9_init_15 : decode cX9_init 15 = .ok (.putfield 15, 3) := dk_o181 (a := 0) (b := 15) (by decide +kernel)
theorem dX9_init_18 : decode cX9_init 18 = .ok (.aload_n 0, 1) := dk_o42 (by decide +kernel)
theorem dX9_init_19 : decode cX9_init 19 = .ok (.aload_n 2, 1) := dk_o44 (by decide +kernel)
theorem dX9_init_20 : decode cX9_init 20 = .ok (.putfield 19, 3) := dk_o181 (a := 0) (b := 19) (by decide +kernel)
theorem dX9_init_23 : decode cX9_init 23 = .ok (.return_, 1) := dk_o177 (by decide +kernel)
theorem dX10_init_0 : decode cX10_init 0 = .ok (.aload_n 0, 1) := dk_o42 (by decide +kernel)
theorem dX10_init_1 : decode cX10_init 1 = .ok (.invokespecial 3, 3) := dk_o183 (a := 0) (b := 3) (by decide +kernel)
theorem dX10_init_4 : decode cX10_init 4 = .ok (.aload_n 0, 1) := dk_o42 (by decide +kernel)
theorem dX10_init_5 : decode cX10_init 5 = .ok (.bipush 21, 2) := dk_o16 (a := 21) (by decide +kernel)
theorem dX10_init_7 : decode cX10_init 7 = .ok (.newarray .int, 2) := by decide +kernel
theorem dX10_init_9 : decode cX10_init 9 = .ok (.putfield 9, 3) := dk_o181 (a := 0) (b := 9) (by decide +kernel)
theorem dX10_init_12 : decode cX10_init 12 = .ok (.aload_n 0, 1) := dk_o42 (by decide +kernel)
theorem dX10_init_13 : decode cX10_init 13 = .ok (.bipush 8, 2) := dk_o16 (a := 8) (by decide +kernel)
theorem dX10_init_15 : decode cX10_init 15 = .ok (.newarray .int, 2) := by decide +kernel
theorem dX10_init_17 : decode cX10_init 17 = .ok (.putfield 15, 3) := dk_o181 (a := 0) (b := 15) (by decide +kernel)
theorem dX10_init_20 : decode cX10_init 20 = .ok (.return_, 1) := dk_o177 (by decide +kernel)
theorem dX11_init_0 : decode cX11_init 0 = .ok (.aload_n 0, 1) := dk_o42 (by decide +kernel)
theorem dX11_init_1 : decode cX11_init 1 = .ok (.invokespecial 3, 3) := dk_o183 (a := 0) (b := 3) (by decide +kernel)
theorem dX11_init_4 : decode cX11_init 4 = .ok (.aload_n 0, 1) := dk_o42 (by decide +kernel)
theorem dX11_init_5 : decode cX11_init 5 = .ok (.new 9, 3) := dk_o187 (a := 0) (b := 9) (by decide +kernel)
theorem dX11_init_8 : decode cX11_init 8 = .ok (.dup, 1) := dk_o89 (by decide +kernel)
theorem dX11_init_9 : decode cX11_init 9 = .ok (.invokespecial 11, 3) := dk_o183 (a := 0) (b := 11) (by decide +kernel)
theorem dX11_init_12 : decode cX11_init 12 = .ok (.putfield 12, 3) := dk_o181 (a := 0) (b := 12) (by decide +kernel)
theorem dX11_init_15 : decode cX11_init 15 = .ok (.aload_n 0, 1) := dk_o42 (by decide +kernel)
theorem dX11_init_16 : decode cX11_init 16 = .ok (.new 16, 3) := dk_o187 (a := 0) (b := 16) (by decide +kernel)
theorem dX11_init_19 : decode cX11_init 19 = .ok (.dup, 1) := dk_o89 (by decide +kernel)
theorem dX11_init_20 : decode cX11_init 20 = .ok (.invokespecial 18, 3) := dk_o183 (a := 0) (b := 18) (by decide +kernel)
theorem dX11_init_23 : decode cX11_init 23 = .ok (.putfield 19, 3) := dk_o181 (a := 0) (b := 19) (by decide +kernel)
theorem dX11_init_26 : decode cX11_init 26 = .ok (.aload_n 0, 1) := dk_o42 (by decide +kernel)
theorem dX11_init_27 : decode cX11_init 27 = .ok (.new 23, 3) := dk_o187 (a := 0) (b := 23) (by decide +kernel)
theorem dX11_init_30 : decode cX11_init 30 = .ok (.dup, 1) := dk_o89 (by decide +kernel)
theorem dX11_init_31 : decode cX11_init 31 = .ok (.aload_n 0, 1) := dk_o42 (by decide +kernel)
theorem dX11_init_32 : decode cX11_init 32 = .ok (.getfield 12, 3) := dk_o180 (a := 0) (b := 12) (by decide +kernel)
theorem dX11_init_35 : decode cX11_init 35 = .ok (.aload_n 0, 1) := dk_o42 (by decide +kernel)
theorem dX11_init_36 : decode cX11_init 36 = .ok (.getfield 19, 3) := dk_o180 (a := 0) (b := 19) (by decide +kernel)
theorem dX11_init_39 : decode cX11_init 39 = .ok (.invokespecial 25, 3) := dk_o183 (a := 0) (b := 25) (by decide +kernel)
theorem dX11_init_42 : decode cX11_init 42 = .ok (.putfield 28, 3) := dk_o181 (a := 0) (b := 28) (by decide +kernel)
theorem dX11_init_45 : decode cX11_init 45 = .ok (.aload_n 0, 1) := dk_o42 (by decide +kernel)
theorem dX11_init_46 : decode cX11_init 46 = .ok (.new 32, 3) := dk_o187 (a := 0) (b := 32) (by decide +kernel)
theorem dX11_init_49 : decode cX11_init 49 = .ok (.dup, 1) := dk_o89 (by decide +kernel)
theorem dX11_init_50 : decode cX11_init 50 = .ok (.aload_n 0, 1) := dk_o42 (by decide +kernel)
theorem dX11_init_51 : decode cX11_init 51 = .ok (.getfield 12, 3) := dk_o180 (a := 0) (b := 12) (by decide +kernel)
theorem dX11_init_54 : decode cX11_init 54 = .ok (.aload_n 0, 1) := dk_o42 (by decide +kernel)
theorem dX11_init_55 : decode cX11_init 55 = .ok (.getfield 19, 3) := dk_o180 (a := 0) (b := 19) (by decide +kernel)
theorem dX11_init_58 : decode cX11_init 58 = .ok (.invokespecial 34, 3) := dk_o183 (a := 0) (b := 34) (by decide +kernel)
theorem dX11_init_61 : decode cX11_init 61 = .ok (.putfield 35, 3) := dk_o181 (a := 0) (b := 35) (by decide +kernel)
theorem dX11_init_64 : decode cX11_init 64 = .ok (.aload_n 0, 1) := dk_o42 (by decide +kernel)
theorem dX11_init_65 : decode cX11_init 65 = .ok (.new 39, 3) := dk_o187 (a := 0) (b := 39) (by decide +kernel)
theorem dX11_init_68 : decode cX11_init 68 = .ok (.dup, 1) := dk_o89 (by decide +kernel)
theorem dX11_init_69 : decode cX11_init 69 = .ok (.aload_n 0, 1) := dk_o42 (by decide +kernel)
theorem dX11_init_70 : decode cX11_init 70 = .ok (.getfield 12, 3) := dk_o180 (a := 0) (b := 12) (by decide +kernel)
theorem dX11_init_73 : decode cX11_init 73 = .ok (.aload_n 0, 1) := dk_o42 (by decide +kernel)
theorem dX11_init_74 : decode cX11_init 74 = .ok (.getfield 19, 3) := dk_o180 (a := 0) (b := 19) (by decide +kernel)
theorem dX11_init_77 : decode cX11_init 77 = .ok (.invokespecial 41, 3) := dk_o183 (a := 0) (b := 41) (by decide +kernel)
theorem dX11_init_80 : decode cX11_init 80 = .ok (.putfield 42, 3) := dk_o181 (a := 0) (b := 42) (by decide +kernel)
theorem dX11_init_83 : decode cX11_init 83 = .ok (.aload_n 0, 1) := dk_o42 (by decide +kernel)
theorem dX11_init_84 : decode cX11_init 84 = .ok (.new 46, 3) := dk_o187 (a := 0) (b := 46) (by decide +kernel)
theorem dX11_init_87 : decode cX11_init 87 = .ok (.dup, 1) := dk_o89 (by decide +kernel)
theorem dX11_init_88 : decode cX11_init 88 = .ok (.aload_n 0, 1) := dk_o42 (by decide +kernel)
theorem dX11_init_89 : decode cX11_init 89 = .ok (.getfield 12, 3) := dk_o180 (a := 0) (b := 12) (by decide +kernel)
theorem dX11_init_92 : decode cX11_init 92 = .ok (.invokespecial 48, 3) := dk_o183 (a := 0) (b := 48) (by decide +kernel)
theorem dX11_init_95 : decode cX11_init 95 = .ok (.putfield 51, 3) := dk_o181 (a := 0) (b := 51) (by decide +kernel)
theorem dX11_init_98 : decode cX11_init 98 = .ok (.aload_n 0, 1) := dk_o42 (by decide +kernel)
theorem dX11_init_99 : decode cX11_init 99 = .ok (.new 55, 3) := dk_o187 (a := 0) (b := 55) (by decide +kernel)
theorem dX11_init_102 : decode cX11_init 102 = .ok (.dup, 1) := dk_o89 (by decide +kernel)
theorem dX11_init_103 : decode cX11_init 103 = .ok (.aload_n 0, 1) := dk_o42 (by decide +kernel)
theorem dX11_init_104 : decode cX11_init 104 = .ok (.getfield 12, 3) := dk_o180 (a := 0) (b := 12) (by decide +kernel)
theorem dX11_init_107 : decode cX11_init 107 = .ok (.aload_n 0, 1) := dk_o42 (by decide +kernel)
theorem dX11_init_108 : decode cX11_init 108 = .ok (.getfield 28, 3) := dk_o180 (a := 0) (b := 28) (by decide +kernel)
theorem dX11_init_111 : decode cX11_init 111 = .ok (.invokespecial 57, 3) := dk_o183 (a := 0) (b := 57) (by decide +kernel)
theorem dX11_init_114 : decode cX11_init 114 = .ok (.putfield 60, 3) := dk_o181 (a := 0) (b := 60) (by decide +kernel)
theorem dX11_init_117 : decode cX11_init 117 = .ok (.aload_n 0, 1) := dk_o42 (by decide +kernel)
theorem dX11_init_118 : decode cX11_init 118 = .ok (.new 64, 3) := dk_o187 (a := 0) (b := 64) (by decide +kernel)
theorem dX11_init_121 : decode cX11_init 121 = .ok (.dup, 1) := dk_o89 (by decide +kernel)
theorem dX11_init_122 : decode cX11_init 122 = .ok (.invokespecial 66, 3) := dk_o183 (a := 0) (b := 66) (by decide +kernel)
theorem dX11_init_125 : decode cX11_init 125 = .ok (.putfield 67, 3) := dk_o181 (a := 0) (b := 67) (by decide +kernel)
theorem dX11_init_128 : decode cX11_init 128 = .ok (.aload_n 0, 1) := dk_o42 (by decide +kernel)
theorem dX11_init_129 : decode cX11_init 129 = .ok (.new 71, 3) := dk_o187 (a := 0) (b := 71) (by decide +kernel)
theorem dX11_init_132 : decode cX11_init 132 = .ok (.dup, 1) := dk_o89 (by decide +kernel)
theorem dX11_init_133 : decode cX11_init 133 = .ok (.invokespecial 73, 3) := dk_o183 (a := 0) (b := 73) (by decide +kernel)
theorem dX11_init_136 : decode cX11_init 136 = .ok (.putfield 74, 3) := dk_o181 (a := 0) (b := 74) (by decide +kernel)
theorem dX11_init_139 : decode cX11_init 139 = .ok (.aload_n 0, 1) := dk_o42 (by decide +kernel)
theorem dX11_init_140 : decode cX11_init 140 = .ok (.bipush 6, 2) := dk_o16 (a := 6) (by decide +kernel)
theorem dX11_init_142 : decode cX11_init 142 = .ok (.anewarray 78, 3) := dk_o189 (a := 0) (b := 78) (by decide +kernel)
theorem dX11_init_145 : decode cX11_init 145 = .ok (.putfield 80, 3) := dk_o181 (a := 0) (b := 80) (by decide +kernel)
theorem dX11_init_148 : decode cX11_init 148 = .ok (.iconst 0, 1) := dk_o3 (by decide +kernel)
theorem dX11_init_149 : decode cX11_init 149 = .ok (.istore_n 1, 1) := dk_o60 (by decide +kernel)
theorem dX11_init_150 : decode cX11_init 150 = .ok (.iload_n 1, 1) := dk_o27 (by decide +kernel)
theorem dX11_init_151 : decode cX11_init 151 = .ok (.bipush 6, 2) := dk_o16 (a := 6) (by decide +kernel)
theorem dX11_init_153 : decode cX11_init 153 = .ok (.if_icmp .ge 22, 3) := dk_o162 (a := 0) (b := 22) (by decide +kernel)
theorem dX11_init_156 : decode cX11_init 156 = .ok (.aload_n 0, 1) := dk_o42 (by decide +kernel)
theorem dX11_init_157 : decode cX11_init 157 = .ok (.getfield 80, 3) := dk_o180 (a := 0) (b := 80) (by decide +kernel)
theorem dX11_init_160 : decode cX11_init 160 = .ok (.iload_n 1, 1) := dk_o27 (by decide +kernel)
theorem dX11_init_161 : decode cX11_init 161 = .ok (.new 78, 3) := dk_o187 (a := 0) (b := 78) (by decide +kernel)
theorem dX11_init_164 : decode cX11_init 164 = .ok (.dup, 1) := dk_o89 (by decide +kernel)
theorem dX11_init_165 : decode cX11_init 165 = .ok (.invokespecial 84, 3) := dk_o183 (a := 0) (b := 84) (by decide +kernel)
theorem dX11_init_168 : decode cX11_init 168 = .ok (.aastore, 1) := dk_o83 (by decide +kernel)
theorem dX11_init_169 : decode cX11_init 169 = .ok (.iinc 1 1, 3) := dk_o132 (b := 1) (by decide +kernel)
theorem dX11_init_172 : decode cX11_init 172 = .ok (.goto (-22), 3) := dk_o167 (a := 255) (b := 234) (by decide +kernel)
theorem dX11_init_175 : decode cX11_init 175 = .ok (.return_, 1) := dk_o177 (by decide +kernel)
theorem dX12_init_0 : decode cX12_init 0 = .ok (.aload_n 0, 1) := dk_o42 (by decide +kernel)
theorem dX12_init_1 : decode cX12_init 1 = .ok (.invokespecial 3, 3) := dk_o183 (a := 0) (b := 3) (by decide +kernel)
theorem dX12_init_4 : decode cX12_init 4 = .ok (.aload_n 0, 1) := dk_o42 (by decide +kernel)
theorem dX12_init_5 : decode cX12_init 5 = .ok (.bipush 71, 2) := dk_o16 (a := 71) (by decide +kernel)
theorem dX12_init_7 : decode cX12_init 7 = .ok (.newarray .int, 2) := by decide +kernel
theorem dX12_init_9 : decode cX12_init 9 = .ok (.putfield 9, 3) := dk_o181 (a := 0) (b := 9) (by decide +kernel)
theorem dX12_init_12 : decode cX12_init 12 = .ok (.aload_n 0, 1) := dk_o42 (by decide +kernel)
theorem dX12_init_13 : decode cX12_init 13 = .ok (.bipush 40, 2) := dk_o16 (a := 40) (by decide +kernel)
theorem dX12_init_15 : decode cX12_init 15 = .ok (.newarray .int, 2) := by decide +kernel
theorem dX12_init_17 : decode cX12_init 17 = .ok (.putfield 13, 3) := dk_o181 (a := 0) (b := 13) (by decide +kernel)
theorem dX12_init_20 : decode cX12_init 20 = .ok (.aload_n 0, 1) := dk_o42 (by decide +kernel)
theorem dX12_init_21 : decode cX12_init 21 = .ok (.bipush 40, 2) := dk_o16 (a := 40) (by decide +kernel)
theorem dX12_init_23 : decode cX12_init 23 = .ok (.newarray .int, 2) := by decide +kernel
theorem dX12_init_25 : decode cX12_init 25 = .ok (.putfield 16, 3) := dk_o181 (a := 0) (b := 16) (by decide +kernel)
theorem dX12_init_28 : decode cX12_init 28 = .ok (.aload_n 0, 1) := dk_o42 (by decide +kernel)
theorem dX12_init_29 : decode cX12_init 29 = .ok (.bipush 40, 2) := dk_o16 (a := 40) (by decide +kernel)
theorem dX12_init_31 : decode cX12_init 31 = .ok (.newarray .int, 2) := by decide +kernel
theorem dX12_init_33 : decode cX12_init 33 = .ok (.putfield 19, 3) := dk_o181 (a := 0) (b := 19) (by decide +kernel)
theorem dX12_init_36 : decode cX12_init 36 = .ok (.aload_n 0, 1) := dk_o42 (by decide +kernel)
theorem dX12_init_37 : decode cX12_init 37 = .ok (.iconst 3, 1) := dk_o6 (by decide +kernel)
theorem dX12_init_38 : decode cX12_init 38 = .ok (.newarray .int, 2) := by decide +kernel
theorem dX12_init_40 : decode cX12_init 40 = .ok (.putfield 22, 3) := dk_o181 (a := 0) (b := 22) (by decide +kernel)
theorem dX12_init_43 : decode cX12_init 43 = .ok (.aload_n 0, 1) := dk_o42 (by decide +kernel)
theorem dX12_init_44 : decode cX12_init 44 = .ok (.bipush 120, 2) := dk_o16 (a := 120) (by decide +kernel)
theorem dX12_init_46 : decode cX12_init 46 = .ok (.newarray .int, 2) := by decide +kernel
theorem dX12_init_48 : decode cX12_init 48 = .ok (.putfield 25, 3) := dk_o181 (a := 0) (b := 25) (by decide +kernel)
theorem dX12_init_51 : decode cX12_init 51 = .ok (.aload_n 0, 1) := dk_o42 (by decide +kernel)
theorem dX12_init_52 : decode cX12_init 52 = .ok (.bipush 120, 2) := dk_o16 (a := 120) (by decide +kernel)
theorem dX12_init_54 : decode cX12_init 54 = .ok (.newarray .int, 2) := by decide +kernel
theorem dX12_init_56 : decode cX12_init 56 = .ok (.putfield 28, 3) := dk_o181 (a := 0) (b := 28) (by decide +kernel)
theorem dX12_init_59 : decode cX12_init 59 = .ok (.aload_n 0, 1) := dk_o42 (by decide +kernel)
theorem dX12_init_60 : decode cX12_init 60 = .ok (.bipush 6, 2) := dk_o16 (a := 6) (by decide +kernel)
theorem dX12_init_62 : decode cX12_init 62 = .ok (.newarray .int, 2) := by decide +kernel
theorem dX12_init_64 : decode cX12_init 64 = .ok (.putfield 31, 3) := dk_o181 (a := 0) (b := 31) (by decide +kernel)
theorem dX12_init_67 : decode cX12_init 67 = .ok (.aload_n 0, 1) := dk_o42 (by decide +kernel)
theorem dX12_init_68 : decode cX12_init 68 = .ok (.sipush 1281, 3) := dk_o17 (a := 5) (b := 1) (by decide +kernel)
theorem dX12_init_71 : decode cX12_init 71 = .ok (.newarray .int, 2) := by decide +kernel
theorem dX12_init_73 : decode cX12_init 73 = .ok (.putfield 34, 3) := dk_o181 (a := 0) (b := 34) (by decide +kernel)
theorem dX12_init_76 : decode cX12_init 76 = .ok (.aload_n 0, 1) := dk_o42 (by decide +kernel)
theorem dX12_init_77 : decode cX12_init 77 = .ok (.sipush 1342, 3) := dk_o17 (a := 5) (b := 62) (by decide +kernel)
theorem dX12_init_80 : decode cX12_init 80 = .ok (.newarray .int, 2) := by decide +kernel
theorem dX12_init_82 : decode cX12_init 82 = .ok (.putfield 37, 3) := dk_o181 (a := 0) (b := 37) (by decide +kernel)
theorem dX12_init_85 : decode cX12_init 85 = .ok (.aload_n 0, 1) := dk_o42 (by decide +kernel)
theorem dX12_init_86 : decode cX12_init 86 = .ok (.bipush 21, 2) := dk_o16 (a := 21) (by decide +kernel)
theorem dX12_init_88 : decode cX12_init 88 = .ok (.newarray .boolean, 2) := by decide +kernel
theorem dX12_init_90 : decode cX12_init 90 = .ok (.putfield 40, 3) := dk_o181 (a := 0) (b := 40) (by decide +kernel)
theorem dX12_init_93 : decode cX12_init 93 = .ok (.aload_n 0, 1) := dk_o42 (by decide +kernel)
theorem dX12_init_94 : decode cX12_init 94 = .ok (.iconst 3, 1) := dk_o6 (by decide +kernel)
theorem dX12_init_95 : decode cX12_init 95 = .ok (.newarray .int, 2) := by decide +kernel
theorem dX12_init_97 : decode cX12_init 97 = .ok (.putfield 44, 3) := dk_o181 (a := 0) (b := 44) (by decide +kernel)
theorem dX12_init_100 : decode cX12_init 100 = .ok (.aload_n 0, 1) := dk_o42 (by decide +kernel)
theorem dX12_init_101 : decode cX12_init 101 = .ok (.bipush 66, 2) := dk_o16 (a := 66) (by decide +kernel)
theorem dX12_init_103 : decode cX12_init 103 = .ok (.newarray .int, 2) := by decide +kernel
theorem dX12_init_105 : decode cX12_init 105 = .ok (.putfield 47, 3) := dk_o181 (a := 0) (b := 47) (by decide +kernel)
theorem dX12_init_108 : decode cX12_init 108 = .ok (.aload_n 0, 1) := dk_o42 (by decide +kernel)
theorem dX12_init_109 : decode cX12_init 109 = .ok (.sipush 488, 3) := dk_o17 (a := 1) (b := 232) (by decide +kernel)
theorem dX12_init_112 : decode cX12_init 112 = .ok (.newarray .int, 2) := by decide +kernel
theorem dX12_init_114 : decode cX12_init 114 = .ok (.putfield 50, 3) := dk_o181 (a := 0) (b := 50) (by decide +kernel)
theorem dX12_init_117 : decode cX12_init 117 = .ok (.aload_n 0, 1) := dk_o42 (by decide +kernel)
theorem dX12_init_118 : decode cX12_init 118 = .ok (.bipush 8, 2) := dk_o16 (a := 8) (by decide +kernel)
theorem dX12_init_120 : decode cX12_init 120 = .ok (.newarray .int, 2) := by decide +kernel
theorem dX12_init_122 : decode cX12_init 122 = .ok (.putfield 53, 3) := dk_o181 (a := 0) (b := 53) (by decide +kernel)
theorem dX12_init_125 : decode cX12_init 125 = .ok (.aload_n 0, 1) := dk_o42 (by decide +kernel)
theorem dX12_init_126 : decode cX12_init 126 = .ok (.bipush 8, 2) := dk_o16 (a := 8) (by decide +kernel)
theorem dX12_init_128 : decode cX12_init 128 = .ok (.newarray .int, 2) := by decide +kernel
theorem dX12_init_130 : decode cX12_init 130 = .ok (.putfield 56, 3) := dk_o181 (a := 0) (b := 56) (by decide +kernel)
theorem dX12_init_133 : decode cX12_init 133 = .ok (.aload_n 0, 1) := dk_o42 (by decide +kernel)
theorem dX12_init_134 : decode cX12_init 134 = .ok (.sipush 793, 3) := dk_o17 (a := 3) (b := 25) (by decide +kernel)
theorem dX12_init_137 : decode cX12_init 137 = .ok (.newarray .boolean, 2) := by decide +kernel
theorem dX12_init_139 : decode cX12_init 139 = .ok (.putfield 59, 3) := dk_o181 (a := 0) (b := 59) (by decide +kernel)
theorem dX12_init_142 : decode cX12_init 142 = .ok (.aload_n 0, 1) := dk_o42 (by decide +kernel)
theorem dX12_init_143 : decode cX12_init 143 = .ok (.sipush 793, 3) := dk_o17 (a := 3) (b := 25) (by decide +kernel)
theorem dX12_init_146 : decode cX12_init 146 = .ok (.newarray .boolean, 2) := by decide +kernel
theorem dX12_init_148 : decode cX12_init 148 = .ok (.putfield 62, 3) := dk_o181 (a := 0) (b := 62) (by decide +kernel)
theorem dX12_init_151 : decode cX12_init 151 = .ok (.aload_n 0, 1) := dk_o42 (by decide +kernel)
theorem dX12_init_152 : decode cX12_init 152 = .ok (.bipush 8, 2) := dk_o16 (a := 8) (by decide +kernel)
theorem dX12_init_154 : decode cX12_init 154 = .ok (.newarray .int, 2) := by decide +kernel
theorem dX12_init_156 : decode cX12_init 156 = .ok (.putfield 65, 3) := dk_o181 (a := 0) (b := 65) (by decide +kernel)
theorem dX12_init_159 : decode cX12_init 159 = .ok (.aload_n 0, 1) := dk_o42 (by decide +kernel)
theorem dX12_init_160 : decode cX12_init 160 = .ok (.bipush 50, 2) := dk_o16 (a := 50) (by decide +kernel)
theorem dX12_init_162 : decode cX12_init 162 = .ok (.newarray .int, 2) := by decide +kernel
theorem dX12_init_164 : decode cX12_init 164 = .ok (.putfield 68, 3) := dk_o181 (a := 0) (b := 68) (by decide +kernel)
theorem dX12_init_167 : decode cX12_init 167 = .ok (.aload_n 0, 1) := dk_o42 (by decide +kernel)
theorem dX12_init_168 : decode cX12_init 168 = .ok (.bipush 24, 2) := dk_o16 (a := 24) (by decide +kernel)
theorem dX12_init_170 : decode cX12_init 170 = .ok (.newarray .int, 2) := by decide +kernel
theorem dX12_init_172 : decode cX12_init 172 = .ok (.putfield 71, 3) := dk_o181 (a := 0) (b := 71) (by decide +kernel)
theorem dX12_init_175 : decode cX12_init 175 = .ok (.aload_n 0, 1) := dk_o42 (by decide +kernel)
theorem dX12_init_176 : decode cX12_init 176 = .ok (.bipush 6, 2) := dk_o16 (a := 6) (by decide +kernel)
theorem dX12_init_178 : decode cX12_init 178 = .ok (.newarray .int, 2) := by decide +kernel
theorem dX12_init_180 : decode cX12_init 180 = .ok (.putfield 74, 3) := dk_o181 (a := 0) (b := 74) (by decide +kernel)
theorem dX12_init_183 : decode cX12_init 183 = .ok (.aload_n 0, 1) := dk_o42 (by decide +kernel)
theorem dX12_init_184 : decode cX12_init 184 = .ok (.bipush 6, 2) := dk_o16 (a := 6) (by decide +kernel)
theorem dX12_init_186 : decode cX12_init 186 = .ok (.newarray .int, 2) := by decide +kernel
theorem dX12_init_188 : decode cX12_init 188 = .ok (.putfield 77, 3) := dk_o181 (a := 0) (b := 77) (by decide +kernel)
theorem dX12_init_191 : decode cX12_init 191 = .ok (.aload_n 0, 1) := dk_o42 (by decide +kernel)
theorem dX12_init_192 : decode cX12_init 192 = .ok (.sipush 360, 3) := dk_o17 (a := 1) (b := 104) (by decide +kernel)
theorem dX12_init_195 : decode cX12_init 195 = .ok (.newarray .long, 2) := by decide +kernel
theorem dX12_init_197 : decode cX12_init 197 = .ok (.putfield 80, 3) := dk_o181 (a := 0) (b := 80) (by decide +kernel)
theorem dX12_init_200 : decode cX12_init 200 = .ok (.aload_n 0, 1) := dk_o42 (by decide +kernel)
theorem dX12_init_201 : decode cX12_init 201 = .ok (.bipush 60, 2) := dk_o16 (a := 60) (by decide +kernel)
theorem dX12_init_203 : decode cX12_init 203 = .ok (.newarray .long, 2) := by decide +kernel
theorem dX12_init_205 : decode cX12_init 205 = .ok (.putfield 84, 3) := dk_o181 (a := 0) (b := 84) (by decide +kernel)
theorem dX12_init_208 : decode cX12_init 208 = .ok (.iconst 0, 1) := dk_o3 (by decide +kernel)
theorem dX12_init_209 : decode cX12_init 209 = .ok (.istore_n 1, 1) := dk_o60 (by decide +kernel)
theorem dX12_init_210 : decode cX12_init 210 = .ok (.iload_n 1, 1) := dk_o27 (by decide +kernel)
theorem dX12_init_211 : decode cX12_init 211 = .ok (.bipush 6, 2) := dk_o16 (a := 6) (by decide +kernel)
theorem dX12_init_213 : decode cX12_init 213 = .ok (.if_icmp .ge 16, 3) := dk_o162 (a := 0) (b := 16) (by decide +kernel)
theorem dX12_init_216 : decode cX12_init 216 = .ok (.aload_n 0, 1) := dk_o42 (by decide +kernel)
theorem dX12_init_217 : decode cX12_init 217 = .ok (.getfield 74, 3) := dk_o180 (a := 0) (b := 74) (by decide +kernel)
theorem dX12_init_220 : decode cX12_init 220 = .ok (.iload_n 1, 1) := dk_o27 (by decide +kernel)
theorem dX12_init_221 : decode cX12_init 221 = .ok (.iconst (-1), 1) := dk_o2 (by decide +kernel)
theorem dX12_init_222 : decode cX12_init 222 = .ok (.iastore, 1) := dk_o79 (by decide +kernel)
theorem dX12_init_223 : decode cX12_init 223 = .ok (.iinc 1 1, 3) := dk_o132 (b := 1) (by decide +kernel)
theorem dX12_init_226 : decode cX12_init 226 = .ok (.goto (-16), 3) := dk_o167 (a := 255) (b := 240) (by decide +kernel)
theorem dX12_init_229 : decode cX12_init 229 = .ok (.aload_n 0, 1) := dk_o42 (by decide +kernel)
theorem dX12_init_230 : decode cX12_init 230 = .ok (.iconst (-1), 1) := dk_o2 (by decide +kernel)
theorem dX12_init_231 : decode cX12_init 231 = .ok (.putfield 87, 3) := dk_o181 (a := 0) (b := 87) (by decide +kernel)
theorem dX12_init_234 : decode cX12_init 234 = .ok (.iconst 0, 1) := dk_o3 (by decide +kernel)
theorem dX12_init_235 : decode cX12_init 235 = .ok (.istore_n 1, 1) := dk_o60 (by decide +kernel)
theorem dX12_init_236 : decode cX12_init 236 = .ok (.iload_n 1, 1) := dk_o27 (by decide +kernel)
theorem dX12_init_237 : decode cX12_init 237 = .ok (.iconst 3, 1) := dk_o6 (by decide +kernel)
theorem dX12_init_238 : decode cX12_init 238 = .ok (.if_icmp .ge 27, 3) := dk_o162 (a := 0) (b := 27) (by decide +kernel)
theorem dX12_init_241 : decode cX12_init 241 = .ok (.aload_n 0, 1) := dk_o42 (by decide +kernel)
theorem dX12_init_242 : decode cX12_init 242 = .ok (.getfield 9, 3) := dk_o180 (a := 0) (b := 9) (by decide +kernel)
theorem dX12_init_245 : decode cX12_init 245 = .ok (.bipush 67, 2) := dk_o16 (a := 67) (by decide +kernel)
theorem dX12_init_247 : decode cX12_init 247 = .ok (.iload_n 1, 1) := dk_o27 (by decide +kernel)
theorem dX12_init_248 : decode cX12_init 248 = .ok (.iadd, 1) := dk_o96 (by decide +kernel)
theorem dX12_init_249 : decode cX12_init 249 = .ok (.iconst 1, 1) := dk_o4 (by decide +kernel)
theorem dX12_init_250 : decode cX12_init 250 = .ok (.iastore, 1) := dk_o79 (by decide +kernel)
theorem dX12_init_251 : decode cX12_init 251 = .ok (.aload_n 0, 1) := dk_o42 (by decide +kernel)
theorem dX12_init_252 : decode cX12_init 252 = .ok (.getfield 22, 3) := dk_o180 (a := 0) (b := 22) (by decide +kernel)
theorem dX12_init_255 : decode cX12_init 255 = .ok (.iload_n 1, 1) := dk_o27 (by decide +kernel)
theorem dX12_init_256 : decode cX12_init 256 = .ok (.bipush 30, 2) := dk_o16 (a := 30) (by decide +kernel)
theorem dX12_init_258 : decode cX12_init 258 = .ok (.iastore, 1) := dk_o79 (by decide +kernel)
theorem dX12_init_259 : decode cX12_init 259 = .ok (.iinc 1 1, 3) := dk_o132 (b := 1) (by decide +kernel)
theorem dX12_init_262 : decode cX12_init 262 = .ok (.goto (-26), 3) := dk_o167 (a := 255) (b := 230) (by decide +kernel)
theorem dX12_init_265 : decode cX12_init 265 = .ok (.aload_n 0, 1) := dk_o42 (by decide +kernel)
theorem dX12_init_266 : decode cX12_init 266 = .ok (.getfield 9, 3) := dk_o180 (a := 0) (b := 9) (by decide +kernel)
theorem dX12_init_269 : decode cX12_init 269 = .ok (.bipush 70, 2) := dk_o16 (a := 70) (by decide +kernel)
theorem dX12_init_271 : decode cX12_init 271 = .ok (.iconst 3, 1) := dk_o6 (by decide +kernel)
theorem dX12_init_272 : decode cX12_init 272 = .ok (.iastore, 1) := dk_o79 (by decide +kernel)
theorem dX12_init_273 : decode cX12_init 273 = .ok (.aload_n 0, 1) := dk_o42 (by decide +kernel)
theorem dX12_init_274 : decode cX12_init 274 = .ok (.bipush (-2), 2) := dk_o16 (a := 254) (by decide +kernel)
theorem dX12_init_276 : decode cX12_init 276 = .ok (.putfield 91, 3) := dk_o181 (a := 0) (b := 91) (by decide +kernel)
theorem dX12_init_279 : decode cX12_init 279 = .ok (.aload_n 0, 1) := dk_o42 (by decide +kernel)
theorem dX12_init_280 : decode cX12_init 280 = .ok (.iconst (-1), 1) := dk_o2 (by decide +kernel)
theorem dX12_init_281 : decode cX12_init 281 = .ok (.putfield 94, 3) := dk_o181 (a := 0) (b := 94) (by decide +kernel)
theorem dX12_init_284 : decode cX12_init 284 = .ok (.aload_n 0, 1) := dk_o42 (by decide +kernel)
theorem dX12_init_285 : decode cX12_init 285 = .ok (.iconst (-1), 1) := dk_o2 (by decide +kernel)
theorem dX12_init_286 : decode cX12_init 286 = .ok (.putfield 97, 3) := dk_o181 (a := 0) (b := 97) (by decide +kernel)
theorem dX12_init_289 : decode cX12_init 289 = .ok (.return_, 1) := dk_o177 (by decide +kernel)
theorem dL_law_0 : decode cL_law 0 = .ok (.new 7, 3) := dk_o187 (a := 0) (b := 7) (by decide +kernel)
theorem dL_law_3 : decode cL_law 3 = .ok (.dup, 1) := dk_o89 (by decide +kernel)
theorem dL_law_4 : decode cL_law 4 = .ok (.invokespecial 9, 3) := dk_o183 (a := 0) (b := 9) (by decide +kernel)
theorem dL_law_7 : decode cL_law 7 = .ok (.astore_n 1, 1) := dk_o76 (by decide +kernel)
theorem dL_law_8 : decode cL_law 8 = .ok (.new 10, 3) := dk_o187 (a := 0) (b := 10) (by decide +kernel)
theorem dL_law_11 : decode cL_law 11 = .ok (.dup, 1) := dk_o89 (by decide +kernel)
theorem dL_law_12 : decode cL_law 12 = .ok (.invokespecial 12, 3) := dk_o183 (a := 0) (b := 12) (by decide +kernel)
theorem dL_law_15 : decode cL_law 15 = .ok (.astore_n 2, 1) := dk_o77 (by decide +kernel)
theorem dL_law_16 : decode cL_law 16 = .ok (.iconst 0, 1) := dk_o3 (by decide +kernel)
theorem dL_law_17 : decode cL_law 17 = .ok (.istore_n 3, 1) := dk_o62 (by decide +kernel)
theorem dL_law_18 : decode cL_law 18 = .ok (.iload_n 3, 1) := dk_o29 (by decide +kernel)
theorem dL_law_19 : decode cL_law 19 = .ok (.aload_n 0, 1) := dk_o42 (by decide +kernel)
theorem dL_law_20 : decode cL_law 20 = .ok (.arraylength, 1) := dk_o190 (by decide +kernel)
theorem dL_law_21 : decode cL_law 21 = .ok (.bipush 6, 2) := dk_o16 (a := 6) (by decide +kernel)
theorem dL_law_23 : decode cL_law 23 = .ok (.isub, 1) := dk_o100 (by decide +kernel)
theorem dL_law_24 : decode cL_law 24 = .ok (.if_icmp .gt 1560, 3) := dk_o163 (a := 6) (b := 24) (by decide +kernel)
theorem dL_law_27 : decode cL_law 27 = .ok (.aload_n 0, 1) := dk_o42 (by decide +kernel)
theorem dL_law_28 : decode cL_law 28 = .ok (.iload_n 3, 1) := dk_o29 (by decide +kernel)
theorem dL_law_29 : decode cL_law 29 = .ok (.iaload, 1) := dk_o46 (by decide +kernel)
theorem dL_law_30 : decode cL_law 30 = .ok (.bipush 63, 2) := dk_o16 (a := 63) (by decide +kernel)
theorem dL_law_32 : decode cL_law 32 = .ok (.iand, 1) := dk_o126 (by decide +kernel)
theorem dL_law_33 : decode cL_law 33 = .ok (.tableswitch 1545 0 39 #[175, 208, 251, 294, 327, 350, 363, 406, 449, 492, 525, 568, 611, 644, 687, 730, 773, 796, 839, 882, 925, 958, 1011, 1034, 1067, 1080, 1103, 1116, 1129, 1142, 1155, 1178, 1221, 1244, 1277, 1320, 1393, 1426, 1489, 1522], 175) := by decide +kernel
theorem dL_law_208 : decode cL_law 208 = .ok (.aload_n 1, 1) := dk_o43 (by decide +kernel)
theorem dL_law_209 : decode cL_law 209 = .ok (.aload_n 0, 1) := dk_o42 (by decide +kernel)
theorem dL_law_210 : decode cL_law 210 = .ok (.iload_n 3, 1) := dk_o29 (by decide +kernel)
theorem dL_law_211 : decode cL_law 211 = .ok (.iconst 1, 1) := dk_o4 (by decide +kernel)
theorem dL_law_212 : decode cL_law 212 = .ok (.iadd, 1) := dk_o96 (by decide +kernel)
theorem dL_law_213 : decode cL_law 213 = .ok (.iaload, 1) := dk_o46 (by decide +kernel)
theorem dL_law_214 : decode cL_law 214 = .ok (.aload_n 0, 1) := dk_o42 (by decide +kernel)
theorem dL_law_215 : decode cL_law 215 = .ok (.iload_n 3, 1) := dk_o29 (by decide +kernel)
theorem dL_law_216 : decode cL_law 216 = .ok (.iconst 2, 1) := dk_o5 (by decide +kernel)
theorem dL_law_217 : decode cL_law 217 = .ok (.iadd, 1) := dk_o96 (by decide +kernel)
theorem dL_law_218 : decode cL_law 218 = .ok (.iaload, 1) := dk_o46 (by decide +kernel)
theorem dL_law_219 : decode cL_law 219 = .ok (.invokevirtual 13, 3) := dk_o182 (a := 0) (b := 13) (by decide +kernel)
theorem dL_law_222 : decode cL_law 222 = .ok (.pop, 1) := dk_o87 (by decide +kernel)
theorem dL_law_223 : decode cL_law 223 = .ok (.aload_n 2, 1) := dk_o44 (by decide +kernel)
theorem dL_law_224 : decode cL_law 224 = .ok (.aload_n 0, 1) := dk_o42 (by decide +kernel)
theorem dL_law_225 : decode cL_law 225 = .ok (.iload_n 3, 1) := dk_o29 (by decide +kernel)
theorem dL_law_226 : decode cL_law 226 = .ok (.iconst 1, 1) := dk_o4 (by decide +kernel)
theorem dL_law_227 : decode cL_law 227 = .ok (.iadd, 1) := dk_o96 (by decide +kernel)
theorem dL_law_228 : decode cL_law 228 = .ok (.iaload, 1) := dk_o46 (by decide +kernel)
theorem dL_law_229 : decode cL_law 229 = .ok (.aload_n 0, 1) := dk_o42 (by decide +kernel)
theorem dL_law_230 : decode cL_law 230 = .ok (.iload_n 3, 1) := dk_o29 (by decide +kernel)
theorem dL_law_231 : decode cL_law 231 = .ok (.iconst 2, 1) := dk_o5 (by decide +kernel)
theorem dL_law_232 : decode cL_law 232 = .ok (.iadd, 1) := dk_o96 (by decide +kernel)
theorem dL_law_233 : decode cL_law 233 = .ok (.iaload, 1) := dk_o46 (by decide +kernel)
theorem dL_law_234 : decode cL_law 234 = .ok (.invokevirtual 17, 3) := dk_o182 (a := 0) (b := 17) (by decide +kernel)
theorem dL_law_237 : decode cL_law 237 = .ok (.pop, 1) := dk_o87 (by decide +kernel)
theorem dL_law_238 : decode cL_law 238 = .ok (.goto 1340, 3) := dk_o167 (a := 5) (b := 60) (by decide +kernel)
theorem dL_law_241 : decode cL_law 241 = .ok (.aload_n 1, 1) := dk_o43 (by decide +kernel)
theorem dL_law_242 : decode cL_law 242 = .ok (.aload_n 0, 1) := dk_o42 (by decide +kernel)
theorem dL_law_243 : decode cL_law 243 = .ok (.iload_n 3, 1) := dk_o29 (by decide +kernel)
theorem dL_law_244 : decode cL_law 244 = .ok (.iconst 1, 1) := dk_o4 (by decide +kernel)
theorem dL_law_245 : decode cL_law 245 = .ok (.iadd, 1) := dk_o96 (by decide +kernel)
theorem dL_law_246 : decode cL_law 246 = .ok (.iaload, 1) := dk_o46 (by decide +kernel)
theorem dL_law_247 : decode cL_law 247 = .ok (.aload_n 0, 1) := dk_o42 (by decide +kernel)
theorem dL_law_248 : decode cL_law 248 = .ok (.iload_n 3, 1) := dk_o29 (by decide +kernel)
theorem dL_law_249 : decode cL_law 249 = .ok (.iconst 2, 1) := dk_o5 (by decide +kernel)
theorem dL_law_250 : decode cL_law 250 = .ok (.iadd, 1) := dk_o96 (by decide +kernel)
theorem dL_law_251 : decode cL_law 251 = .ok (.iaload, 1) := dk_o46 (by decide +kernel)
theorem dL_law_252 : decode cL_law 252 = .ok (.aload_n 0, 1) := dk_o42 (by decide +kernel)
theorem dL_law_253 : decode cL_law 253 = .ok (.iload_n 3, 1) := dk_o29 (by decide +kernel)
theorem dL_law_254 : decode cL_law 254 = .ok (.iconst 3, 1) := dk_o6 (by decide +kernel)
theorem dL_law_255 : decode cL_law 255 = .ok (.iadd, 1) := dk_o96 (by decide +kernel)
theorem dL_law_256 : decode cL_law 256 = .ok (.iaload, 1) := dk_o46 (by decide +kernel)
theorem dL_law_257 : decode cL_law 257 = .ok (.invokevirtual 18, 3) := dk_o182 (a := 0) (b := 18) (by decide +kernel)
theorem dL_law_260 : decode cL_law 260 = .ok (.pop, 1) := dk_o87 (by decide +kernel)
theorem dL_law_261 : decode cL_law 261 = .ok (.aload_n 2, 1) := dk_o44 (by decide +kernel)
theorem dL_law_262 : decode cL_law 262 = .ok (.aload_n 0, 1) := dk_o42 (by decide +kernel)
theorem dL_law_263 : decode cL_law 263 = .ok (.iload_n 3, 1) := dk_o29 (by decide +kernel)
theorem dL_law_264 : decode cL_law 264 = .ok (.iconst 1, 1) := dk_o4 (by decide +kernel)
theorem dL_law_265 : decode cL_law 265 = .ok (.iadd, 1) := dk_o96 (by decide +kernel)
theorem dL_law_266 : decode cL_law 266 = .ok (.iaload, 1) := dk_o46 (by decide +kernel)
theorem dL_law_267 : decode cL_law 267 = .ok (.aload_n 0, 1) := dk_o42 (by decide +kernel)
theorem dL_law_268 : decode cL_law 268 = .ok (.iload_n 3, 1) := dk_o29 (by decide +kernel)
theorem dL_law_269 : decode cL_law 269 = .ok (.iconst 2, 1) := dk_o5 (by decide +kernel)
theorem dL_law_270 : decode cL_law 270 = .ok (.iadd, 1) := dk_o96 (by decide +kernel)
theorem dL_law_271 : decode cL_law 271 = .ok (.iaload, 1) := dk_o46 (by decide +kernel)
theorem dL_law_272 : decode cL_law 272 = .ok (.aload_n 0, 1) := dk_o42 (by decide +kernel)
theorem dL_law_273 : decode cL_law 273 = .ok (.iload_n 3, 1) := dk_o29 (by decide +kernel)
theorem dL_law_274 : decode cL_law 274 = .ok (.iconst 3, 1) := dk_o6 (by decide +kernel)
theorem dL_law_275 : decode cL_law 275 = .ok (.iadd, 1) := dk_o96 (by decide +kernel)
theorem dL_law_276 : decode cL_law 276 = .ok (.iaload, 1) := dk_o46 (by decide +kernel)
theorem dL_law_277 : decode cL_law 277 = .ok (.invokevirtual 22, 3) := dk_o182 (a := 0) (b := 22) (by decide +kernel)
theorem dL_law_280 : decode cL_law 280 = .ok (.pop, 1) := dk_o87 (by decide +kernel)
theorem dL_law_281 : decode cL_law 281 = .ok (.goto 1297, 3) := dk_o167 (a := 5) (b := 17) (by decide +kernel)
theorem dL_law_284 : decode cL_law 284 = .ok (.aload_n 1, 1) := dk_o43 (by decide +kernel)
theorem dL_law_285 : decode cL_law 285 = .ok (.aload_n 0, 1) := dk_o42 (by decide +kernel)
theorem dL_law_286 : decode cL_law 286 = .ok (.iload_n 3, 1) := dk_o29 (by decide +kernel)
theorem dL_law_287 : decode cL_law 287 = .ok (.iconst 1, 1) := dk_o4 (by decide +kernel)
theorem dL_law_288 : decode cL_law 288 = .ok (.iadd, 1) := dk_o96 (by decide +kernel)
theorem dL_law_289 : decode cL_law 289 = .ok (.iaload, 1) := dk_o46 (by decide +kernel)
theorem dL_law_290 : decode cL_law 290 = .ok (.aload_n 0, 1) := dk_o42 (by decide +kernel)
theorem dL_law_291 : decode cL_law 291 = .ok (.iload_n 3, 1) := dk_o29 (by decide +kernel)
theorem dL_law_292 : decode cL_law 292 = .ok (.iconst 2, 1) := dk_o5 (by decide +kernel)
theorem dL_law_293 : decode cL_law 293 = .ok (.iadd, 1) := dk_o96 (by decide +kernel)
theorem dL_law_294 : decode cL_law 294 = .ok (.iaload, 1) := dk_o46 (by decide +kernel)
theorem dL_law_295 : decode cL_law 295 = .ok (.aload_n 0, 1) := dk_o42 (by decide +kernel)
theorem dL_law_296 : decode cL_law 296 = .ok (.iload_n 3, 1) := dk_o29 (by decide +kernel)
theorem dL_law_297 : decode cL_law 297 = .ok (.iconst 3, 1) := dk_o6 (by decide +kernel)
theorem dL_law_298 : decode cL_law 298 = .ok (.iadd, 1) := dk_o96 (by decide +kernel)
theorem dL_law_299 : decode cL_law 299 = .ok (.iaload, 1) := dk_o46 (by decide +kernel)
theorem dL_law_300 : decode cL_law 300 = .ok (.invokevirtual 23, 3) := dk_o182 (a := 0) (b := 23) (by decide +kernel)
theorem dL_law_303 : decode cL_law 303 = .ok (.pop, 1) := dk_o87 (by decide +kernel)
theorem dL_law_304 : decode cL_law 304 = .ok (.aload_n 2, 1) := dk_o44 (by decide +kernel)
theorem dL_law_305 : decode cL_law 305 = .ok (.aload_n 0, 1) := dk_o42 (by decide +kernel)
theorem dL_law_306 : decode cL_law 306 = .ok (.iload_n 3, 1) := dk_o29 (by decide +kernel)
theorem dL_law_307 : decode cL_law 307 = .ok (.iconst 1, 1) := dk_o4 (by decide +kernel)
theorem dL_law_308 : decode cL_law 308 = .ok (.iadd, 1) := dk_o96 (by decide +kernel)
theorem dL_law_309 : decode cL_law 309 = .ok (.iaload, 1) := dk_o46 (by decide +kernel)
theorem dL_law_310 : decode cL_law 310 = .ok (.aload_n 0, 1) := dk_o42 (by decide +kernel)
theorem dL_law_311 : decode cL_law 311 = .ok (.iload_n 3, 1) := dk_o29 (by decide +kernel)
theorem dL_law_312 : decode cL_law 312 = .ok (.iconst 2, 1) := dk_o5 (by decide +kernel)
theorem dL_law_313 : decode cL_law 313 = .ok (.iadd, 1) := dk_o96 (by decide +kernel)
theorem dL_law_314 : decode cL_law 314 = .ok (.iaload, 1) := dk_o46 (by decide +kernel)
theorem dL_law_315 : decode cL_law 315 = .ok (.aload_n 0, 1) := dk_o42 (by decide +kernel)
theorem dL_law_316 : decode cL_law 316 = .ok (.iload_n 3, 1) := dk_o29 (by decide +kernel)
theorem dL_law_317 : decode cL_law 317 = .ok (.iconst 3, 1) := dk_o6 (by decide +kernel)
theorem dL_law_318 : decode cL_law 318 = .ok (.iadd, 1) := dk_o96 (by decide +kernel)
theorem dL_law_319 : decode cL_law 319 = .ok (.iaload, 1) := dk_o46 (by decide +kernel)
theorem dL_law_320 : decode cL_law 320 = .ok (.invokevirtual 26, 3) := dk_o182 (a := 0) (b := 26) (by decide +kernel)
theorem dL_law_323 : decode cL_law 323 = .ok (.pop, 1) := dk_o87 (by decide +kernel)
theorem dL_law_324 : decode cL_law 324 = .ok (.goto 1254, 3) := dk_o167 (a := 4) (b := 230) (by decide +kernel)
theorem dL_law_327 : decode cL_law 327 = .ok (.aload_n 1, 1) := dk_o43 (by decide +kernel)
theorem dL_law_328 : decode cL_law 328 = .ok (.aload_n 0, 1) := dk_o42 (by decide +kernel)
theorem dL_law_329 : decode cL_law 329 = .ok (.iload_n 3, 1) := dk_o29 (by decide +kernel)
theorem dL_law_330 : decode cL_law 330 = .ok (.iconst 1, 1) := dk_o4 (by decide +kernel)
theorem dL_law_331 : decode cL_law 331 = .ok (.iadd, 1) := dk_o96 (by decide +kernel)
theorem dL_law_332 : decode cL_law 332 = .ok (.iaload, 1) := dk_o46 (by decide +kernel)
theorem dL_law_333 : decode cL_law 333 = .ok (.aload_n 0, 1) := dk_o42 (by decide +kernel)
theorem dL_law_334 : decode cL_law 334 = .ok (.iload_n 3, 1) := dk_o29 (by decide +kernel)
theorem dL_law_335 : decode cL_law 335 = .ok (.iconst 2, 1) := dk_o5 (by decide +kernel)
theorem dL_law_336 : decode cL_law 336 = .ok (.iadd, 1) := dk_o96 (by decide +kernel)
theorem dL_law_337 : decode cL_law 337 = .ok (.iaload, 1) := dk_o46 (by decide +kernel)
theorem dL_law_338 : decode cL_law 338 = .ok (.invokevirtual 27, 3) := dk_o182 (a := 0) (b := 27) (by decide +kernel)
theorem dL_law_341 : decode cL_law 341 = .ok (.pop, 1) := dk_o87 (by decide +kernel)
theorem dL_law_342 : decode cL_law 342 = .ok (.aload_n 2, 1) := dk_o44 (by decide +kernel)
theorem dL_law_343 : decode cL_law 343 = .ok (.aload_n 0, 1) := dk_o42 (by decide +kernel)
theorem dL_law_344 : decode cL_law 344 = .ok (.iload_n 3, 1) := dk_o29 (by decide +kernel)
theorem dL_law_345 : decode cL_law 345 = .ok (.iconst 1, 1) := dk_o4 (by decide +kernel)
theorem dL_law_346 : decode cL_law 346 = .ok (.iadd, 1) := dk_o96 (by decide +kernel)
theorem dL_law_347 : decode cL_law 347 = .ok (.iaload, 1) := dk_o46 (by decide +kernel)
theorem dL_law_348 : decode cL_law 348 = .ok (.aload_n 0, 1) := dk_o42 (by decide +kernel)
theorem dL_law_349 : decode cL_law 349 = .ok (.iload_n 3, 1) := dk_o29 (by decide +kernel)
theorem dL_law_350 : decode cL_law 350 = .ok (.iconst 2, 1) := dk_o5 (by decide +kernel)
theorem dL_law_351 : decode cL_law 351 = .ok (.iadd, 1) := dk_o96 (by decide +kernel)
theorem dL_law_352 : decode cL_law 352 = .ok (.iaload, 1) := dk_o46 (by decide +kernel)
theorem dL_law_353 : decode cL_law 353 = .ok (.invokevirtual 30, 3) := dk_o182 (a := 0) (b := 30) (by decide +kernel)
theorem dL_law_356 : decode cL_law 356 = .ok (.pop, 1) := dk_o87 (by decide +kernel)
theorem dL_law_357 : decode cL_law 357 = .ok (.goto 1221, 3) := dk_o167 (a := 4) (b := 197) (by decide +kernel)
theorem dL_law_360 : decode cL_law 360 = .ok (.aload_n 1, 1) := dk_o43 (by decide +kernel)
theorem dL_law_361 : decode cL_law 361 = .ok (.aload_n 0, 1) := dk_o42 (by decide +kernel)
theorem dL_law_362 : decode cL_law 362 = .ok (.iload_n 3, 1) := dk_o29 (by decide +kernel)
theorem dL_law_363 : decode cL_law 363 = .ok (.iconst 1, 1) := dk_o4 (by decide +kernel)
theorem dL_law_364 : decode cL_law 364 = .ok (.iadd, 1) := dk_o96 (by decide +kernel)
theorem dL_law_365 : decode cL_law 365 = .ok (.iaload, 1) := dk_o46 (by decide +kernel)
theorem dL_law_366 : decode cL_law 366 = .ok (.invokevirtual 31, 3) := dk_o182 (a := 0) (b := 31) (by decide +kernel)
theorem dL_law_369 : decode cL_law 369 = .ok (.pop, 1) := dk_o87 (by decide +kernel)
theorem dL_law_370 : decode cL_law 370 = .ok (.aload_n 2, 1) := dk_o44 (by decide +kernel)
theorem dL_law_371 : decode cL_law 371 = .ok (.aload_n 0, 1) := dk_o42 (by decide +kernel)
theorem dL_law_372 : decode cL_law 372 = .ok (.iload_n 3, 1) := dk_o29 (by decide +kernel)
theorem dL_law_373 : decode cL_law 373 = .ok (.iconst 1, 1) := dk_o4 (by decide +kernel)
theorem dL_law_374 : decode cL_law 374 = .ok (.iadd, 1) := dk_o96 (by decide +kernel)
theorem dL_law_375 : decode cL_law 375 = .ok (.iaload, 1) := dk_o46 (by decide +kernel)
theorem dL_law_376 : decode cL_law 376 = .ok (.invokevirtual 35, 3) := dk_o182 (a := 0) (b := 35) (by decide +kernel)
theorem dL_law_379 : decode cL_law 379 = .ok (.pop, 1) := dk_o87 (by decide +kernel)
theorem dL_law_380 : decode cL_law 380 = .ok (.goto 1198, 3) := dk_o167 (a := 4) (b := 174) (by decide +kernel)
theorem dL_law_383 : decode cL_law 383 = .ok (.aload_n 1, 1) := dk_o43 (by decide +kernel)
theorem dL_law_384 : decode cL_law 384 = .ok (.invokevirtual 36, 3) := dk_o182 (a := 0) (b := 36) (by decide +kernel)
theorem dL_law_387 : decode cL_law 387 = .ok (.pop, 1) := dk_o87 (by decide +kernel)
theorem dL_law_388 : decode cL_law 388 = .ok (.aload_n 2, 1) := dk_o44 (by decide +kernel)
theorem dL_law_389 : decode cL_law 389 = .ok (.invokevirtual 40, 3) := dk_o182 (a := 0) (b := 40) (by decide +kernel)
theorem dL_law_392 : decode cL_law 392 = .ok (.pop, 1) := dk_o87 (by decide +kernel)
theorem dL_law_393 : decode cL_law 393 = .ok (.goto 1185, 3) := dk_o167 (a := 4) (b := 161) (by decide +kernel)
theorem dL_law_396 : decode cL_law 396 = .ok (.aload_n 1, 1) := dk_o43 (by decide +kernel)
theorem dL_law_397 : decode cL_law 397 = .ok (.aload_n 0, 1) := dk_o42 (by decide +kernel)
theorem dL_law_398 : decode cL_law 398 = .ok (.iload_n 3, 1) := dk_o29 (by decide +kernel)
theorem dL_law_399 : decode cL_law 399 = .ok (.iconst 1, 1) := dk_o4 (by decide +kernel)
theorem dL_law_400 : decode cL_law 400 = .ok (.iadd, 1) := dk_o96 (by decide +kernel)
theorem dL_law_401 : decode cL_law 401 = .ok (.iaload, 1) := dk_o46 (by decide +kernel)
theorem dL_law_402 : decode cL_law 402 = .ok (.aload_n 0, 1) := dk_o42 (by decide +kernel)
theorem dL_law_403 : decode cL_law 403 = .ok (.iload_n 3, 1) := dk_o29 (by decide +kernel)
theorem dL_law_404 : decode cL_law 404 = .ok (.iconst 2, 1) := dk_o5 (by decide +kernel)
theorem dL_law_405 : decode cL_law 405 = .ok (.iadd, 1) := dk_o96 (by decide +kernel)
theorem dL_law_406 : decode cL_law 406 = .ok (.iaload, 1) := dk_o46 (by decide +kernel)
theorem dL_law_407 : decode cL_law 407 = .ok (.aload_n 0, 1) := dk_o42 (by decide +kernel)
theorem dL_law_408 : decode cL_law 408 = .ok (.iload_n 3, 1) := dk_o29 (by decide +kernel)
theorem dL_law_409 : decode cL_law 409 = .ok (.iconst 3, 1) := dk_o6 (by decide +kernel)
theorem dL_law_410 : decode cL_law 410 = .ok (.iadd, 1) := dk_o96 (by decide +kernel)
theorem dL_law_411 : decode cL_law 411 = .ok (.iaload, 1) := dk_o46 (by decide +kernel)
theorem dL_law_412 : decode cL_law 412 = .ok (.invokevirtual 41, 3) := dk_o182 (a := 0) (b := 41) (by decide +kernel)
theorem dL_law_415 : decode cL_law 415 = .ok (.pop, 1) := dk_o87 (by decide +kernel)
theorem dL_law_416 : decode cL_law 416 = .ok (.aload_n 2, 1) := dk_o44 (by decide +kernel)
theorem dL_law_417 : decode cL_law 417 = .ok (.aload_n 0, 1) := dk_o42 (by decide +kernel)
theorem dL_law_418 : decode cL_law 418 = .ok (.iload_n 3, 1) := dk_o29 (by decide +kernel)
theorem dL_law_419 : decode cL_law 419 = .ok (.iconst 1, 1) := dk_o4 (by decide +kernel)
theorem dL_law_420 : decode cL_law 420 = .ok (.iadd, 1) := dk_o96 (by decide +kernel)
theorem dL_law_421 : decode cL_law 421 = .ok (.iaload, 1) := dk_o46 (by decide +kernel)
theorem dL_law_422 : decode cL_law 422 = .ok (.aload_n 0, 1) := dk_o42 (by decide +kernel)
theorem dL_law_423 : decode cL_law 423 = .ok (.iload_n 3, 1) := dk_o29 (by decide +kernel)
theorem dL_law_424 : decode cL_law 424 = .ok (.iconst 2, 1) := dk_o5 (by decide +kernel)
theorem dL_law_425 : decode cL_law 425 = .ok (.iadd, 1) := dk_o96 (by decide +kernel)
theorem dL_law_426 : decode cL_law 426 = .ok (.iaload, 1) := dk_o46 (by decide +kernel)
theorem dL_law_427 : decode cL_law 427 = .ok (.aload_n 0, 1) := dk_o42 (by decide +kernel)
theorem dL_law_428 : decode cL_law 428 = .ok (.iload_n 3, 1) := dk_o29 (by decide +kernel)
theorem dL_law_429 : decode cL_law 429 = .ok (.iconst 3, 1) := dk_o6 (by decide +kernel)
theorem dL_law_430 : decode cL_law 430 = .ok (.iadd, 1) := dk_o96 (by decide +kernel)
theorem dL_law_431 : decode cL_law 431 = .ok (.iaload, 1) := dk_o46 (by decide +kernel)
theorem dL_law_432 : decode cL_law 432 = .ok (.invokevirtual 44, 3) := dk_o182 (a := 0) (b := 44) (by decide +kernel)
theorem dL_law_435 : decode cL_law 435 = .ok (.pop, 1) := dk_o87 (by decide +kernel)
theorem dL_law_436 : decode cL_law 436 = .ok (.goto 1142, 3) := dk_o167 (a := 4) (b := 118) (by decide +kernel)
theorem dL_law_439 : decode cL_law 439 = .ok (.aload_n 1, 1) := dk_o43 (by decide +kernel)
theorem dL_law_440 : decode cL_law 440 = .ok (.aload_n 0, 1) := dk_o42 (by decide +kernel)
theorem dL_law_441 : decode cL_law 441 = .ok (.iload_n 3, 1) := dk_o29 (by decide +kernel)
theorem dL_law_442 : decode cL_law 442 = .ok (.iconst 1, 1) := dk_o4 (by decide +kernel)
theorem dL_law_443 : decode cL_law 443 = .ok (.iadd, 1) := dk_o96 (by decide +kernel)
theorem dL_law_444 : decode cL_law 444 = .ok (.iaload, 1) := dk_o46 (by decide +kernel)
theorem dL_law_445 : decode cL_law 445 = .ok (.aload_n 0, 1) := dk_o42 (by decide +kernel)
theorem dL_law_446 : decode cL_law 446 = .ok (.iload_n 3, 1) := dk_o29 (by decide +kernel)
theorem dL_law_447 : decode cL_law 447 = .ok (.iconst 2, 1) := dk_o5 (by decide +kernel)
theorem dL_law_448 : decode cL_law 448 = .ok (.iadd, 1) := dk_o96 (by decide +kernel)
theorem dL_law_449 : decode cL_law 449 = .ok (.iaload, 1) := dk_o46 (by decide +kernel)
theorem dL_law_450 : decode cL_law 450 = .ok (.aload_n 0, 1) := dk_o42 (by decide +kernel)
theorem dL_law_451 : decode cL_law 451 = .ok (.iload_n 3, 1) := dk_o29 (by decide +kernel)
theorem dL_law_452 : decode cL_law 452 = .ok (.iconst 3, 1) := dk_o6 (by decide +kernel)
theorem dL_law_453 : decode cL_law 453 = .ok (.iadd, 1) := dk_o96 (by decide +kernel)
theorem dL_law_454 : decode cL_law 454 = .ok (.iaload, 1) := dk_o46 (by decide +kernel)
theorem dL_law_455 : decode cL_law 455 = .ok (.invokevirtual 45, 3) := dk_o182 (a := 0) (b := 45) (by decide +kernel)
theorem dL_law_458 : decode cL_law 458 = .ok (.pop, 1) := dk_o87 (by decide +kernel)
theorem dL_law_459 : decode cL_law 459 = .ok (.aload_n 2, 1) := dk_o44 (by decide +kernel)
theorem dL_law_460 : decode cL_law 460 = .ok (.aload_n 0, 1) := dk_o42 (by decide +kernel)
theorem dL_law_461 : decode cL_law 461 = .ok (.iload_n 3, 1) := dk_o29 (by decide +kernel)
theorem dL_law_462 : decode cL_law 462 = .ok (.iconst 1, 1) := dk_o4 (by decide +kernel)
theorem dL_law_463 : decode cL_law 463 = .ok (.iadd, 1) := dk_o96 (by decide +kernel)
theorem dL_law_464 : decode cL_law 464 = .ok (.iaload, 1) := dk_o46 (by decide +kernel)
theorem dL_law_465 : decode cL_law 465 = .ok (.aload_n 0, 1) := dk_o42 (by decide +kernel)
theorem dL_law_466 : decode cL_law 466 = .ok (.iload_n 3, 1) := dk_o29 (by decide +kernel)
theorem dL_law_467 : decode cL_law 467 = .ok (.iconst 2, 1) := dk_o5 (by decide +kernel)
theorem dL_law_468 : decode cL_law 468 = .ok (.iadd, 1) := dk_o96 (by decide +kernel)
theorem dL_law_469 : decode cL_law 469 = .ok (.iaload, 1) := dk_o46 (by decide +kernel)
theorem dL_law_470 : decode cL_law 470 = .ok (.aload_n 0, 1) := dk_o42 (by decide +kernel)
theorem dL_law_471 : decode cL_law 471 = .ok (.iload_n 3, 1) := dk_o29 (by decide +kernel)
theorem dL_law_472 : decode cL_law 472 = .ok (.iconst 3, 1) := dk_o6 (by decide +kernel)
theorem dL_law_473 : decode cL_law 473 = .ok (.iadd, 1) := dk_o96 (by decide +kernel)
theorem dL_law_474 : decode cL_law 474 = .ok (.iaload, 1) := dk_o46 (by decide +kernel)
theorem dL_law_475 : decode cL_law 475 = .ok (.invokevirtual 48, 3) := dk_o182 (a := 0) (b := 48) (by decide +kernel)
theorem dL_law_478 : decode cL_law 478 = .ok (.pop, 1) := dk_o87 (by decide +kernel)
theorem dL_law_479 : decode cL_law 479 = .ok (.goto 1099, 3) := dk_o167 (a := 4) (b := 75) (by decide +kernel)
theorem dL_law_482 : decode cL_law 482 = .ok (.aload_n 1, 1) := dk_o43 (by decide +kernel)
theorem dL_law_483 : decode cL_law 483 = .ok (.aload_n 0, 1) := dk_o42 (by decide +kernel)
theorem dL_law_484 : decode cL_law 484 = .ok (.iload_n 3, 1) := dk_o29 (by decide +kernel)
theorem dL_law_485 : decode cL_law 485 = .ok (.iconst 1, 1) := dk_o4 (by decide +kernel)
theorem dL_law_486 : decode cL_law 486 = .ok (.iadd, 1) := dk_o96 (by decide +kernel)
theorem dL_law_487 : decode cL_law 487 = .ok (.iaload, 1) := dk_o46 (by decide +kernel)
theorem dL_law_488 : decode cL_law 488 = .ok (.aload_n 0, 1) := dk_o42 (by decide +kernel)
theorem dL_law_489 : decode cL_law 489 = .ok (.iload_n 3, 1) := dk_o29 (by decide +kernel)
theorem dL_law_490 : decode cL_law 490 = .ok (.iconst 2, 1) := dk_o5 (by decide +kernel)
theorem dL_law_491 : decode cL_law 491 = .ok (.iadd, 1) := dk_o96 (by decide +kernel)
theorem dL_law_492 : decode cL_law 492 = .ok (.iaload, 1) := dk_o46 (by decide +kernel)
theorem dL_law_493 : decode cL_law 493 = .ok (.aload_n 0, 1) := dk_o42 (by decide +kernel)
theorem dL_law_494 : decode cL_law 494 = .ok (.iload_n 3, 1) := dk_o29 (by decide +kernel)
theorem dL_law_495 : decode cL_law 495 = .ok (.iconst 3, 1) := dk_o6 (by decide +kernel)
theorem dL_law_496 : decode cL_law 496 = .ok (.iadd, 1) := dk_o96 (by decide +kernel)
theorem dL_law_497 : decode cL_law 497 = .ok (.iaload, 1) := dk_o46 (by decide +kernel)
theorem dL_law_498 : decode cL_law 498 = .ok (.invokevirtual 49, 3) := dk_o182 (a := 0) (b := 49) (by decide +kernel)
theorem dL_law_501 : decode cL_law 501 = .ok (.pop, 1) := dk_o87 (by decide +kernel)
theorem dL_law_502 : decode cL_law 502 = .ok (.aload_n 2, 1) := dk_o44 (by decide +kernel)
theorem dL_law_503 : decode cL_law 503 = .ok (.aload_n 0, 1) := dk_o42 (by decide +kernel)
theorem dL_law_504 : decode cL_law 504 = .ok (.iload_n 3, 1) := dk_o29 (by decide +kernel)
theorem dL_law_505 : decode cL_law 505 = .ok (.iconst 1, 1) := dk_o4 (by decide +kernel)
theorem dL_law_506 : decode cL_law 506 = .ok (.iadd, 1) := dk_o96 (by decide +kernel)
theorem dL_law_507 : decode cL_law 507 = .ok (.iaload, 1) := dk_o46 (by decide +kernel)
theorem dL_law_508 : decode cL_law 508 = .ok (.aload_n 0, 1) := dk_o42 (by decide +kernel)
theorem dL_law_509 : decode cL_law 509 = .ok (.iload_n 3, 1) := dk_o29 (by decide +kernel)
theorem dL_law_510 : decode cL_law 510 = .ok (.iconst 2, 1) := dk_o5 (by decide +kernel)
theorem dL_law_511 : decode cL_law 511 = .ok (.iadd, 1) := dk_o96 (by decide +kernel)
theorem dL_law_512 : decode cL_law 512 = .ok (.iaload, 1) := dk_o46 (by decide +kernel)
theorem dL_law_513 : decode cL_law 513 = .ok (.aload_n 0, 1) := dk_o42 (by decide +kernel)
theorem dL_law_514 : decode cL_law 514 = .ok (.iload_n 3, 1) := dk_o29 (by decide +kernel)
theorem dL_law_515 : decode cL_law 515 = .ok (.iconst 3, 1) := dk_o6 (by decide +kernel)
theorem dL_law_516 : decode cL_law 516 = .ok (.iadd, 1) := dk_o96 (by decide +kernel)
theorem dL_law_517 : decode cL_law 517 = .ok (.iaload, 1) := dk_o46 (by decide +kernel)
theorem dL_law_518 : decode cL_law 518 = .ok (.invokevirtual 52, 3) := dk_o182 (a := 0) (b := 52) (by decide +kernel)
theorem dL_law_521 : decode cL_law 521 = .ok (.pop, 1) := dk_o87 (by decide +kernel)
theorem dL_law_522 : decode cL_law 522 = .ok (.goto 1056, 3) := dk_o167 (a := 4) (b := 32) (by decide +kernel)
theorem dL_law_525 : decode cL_law 525 = .ok (.aload_n 1, 1) := dk_o43 (by decide +kernel)
theorem dL_law_526 : decode cL_law 526 = .ok (.aload_n 0, 1) := dk_o42 (by decide +kernel)
theorem dL_law_527 : decode cL_law 527 = .ok (.iload_n 3, 1) := dk_o29 (by decide +kernel)
theorem dL_law_528 : decode cL_law 528 = .ok (.iconst 1, 1) := dk_o4 (by decide +kernel)
theorem dL_law_529 : decode cL_law 529 = .ok (.iadd, 1) := dk_o96 (by decide +kernel)
theorem dL_law_530 : decode cL_law 530 = .ok (.iaload, 1) := dk_o46 (by decide +kernel)
theorem dL_law_531 : decode cL_law 531 = .ok (.aload_n 0, 1) := dk_o42 (by decide +kernel)
theorem dL_law_532 : decode cL_law 532 = .ok (.iload_n 3, 1) := dk_o29 (by decide +kernel)
theorem dL_law_533 : decode cL_law 533 = .ok (.iconst 2, 1) := dk_o5 (by decide +kernel)
theorem dL_law_534 : decode cL_law 534 = .ok (.iadd, 1) := dk_o96 (by decide +kernel)
theorem dL_law_535 : decode cL_law 535 = .ok (.iaload, 1) := dk_o46 (by decide +kernel)
theorem dL_law_536 : decode cL_law 536 = .ok (.invokevirtual 53, 3) := dk_o182 (a := 0) (b := 53) (by decide +kernel)
theorem dL_law_539 : decode cL_law 539 = .ok (.pop, 1) := dk_o87 (by decide +kernel)
theorem dL_law_540 : decode cL_law 540 = .ok (.aload_n 2, 1) := dk_o44 (by decide +kernel)
theorem dL_law_541 : decode cL_law 541 = .ok (.aload_n 0, 1) := dk_o42 (by decide +kernel)
theorem dL_law_542 : decode cL_law 542 = .ok (.iload_n 3, 1) := dk_o29 (by decide +kernel)
theorem dL_law_543 : decode cL_law 543 = .ok (.iconst 1, 1) := dk_o4 (by decide +kernel)
theorem dL_law_544 : decode cL_law 544 = .ok (.iadd, 1) := dk_o96 (by decide +kernel)
theorem dL_law_545 : decode cL_law 545 = .ok (.iaload, 1) := dk_o46 (by decide +kernel)
theorem dL_law_546 : decode cL_law 546 = .ok (.aload_n 0, 1) := dk_o42 (by decide +kernel)
theorem dL_law_547 : decode cL_law 547 = .ok (.iload_n 3, 1) := dk_o29 (by decide +kernel)
theorem dL_law_548 : decode cL_law 548 = .ok (.iconst 2, 1) := dk_o5 (by decide +kernel)
theorem dL_law_549 : decode cL_law 549 = .ok (.iadd, 1) := dk_o96 (by decide +kernel)
theorem dL_law_550 : decode cL_law 550 = .ok (.iaload, 1) := dk_o46 (by decide +kernel)
theorem dL_law_551 : decode cL_law 551 = .ok (.invokevirtual 56, 3) := dk_o182 (a := 0) (b := 56) (by decide +kernel)
theorem dL_law_554 : decode cL_law 554 = .ok (.pop, 1) := dk_o87 (by decide +kernel)
theorem dL_law_555 : decode cL_law 555 = .ok (.goto 1023, 3) := dk_o167 (a := 3) (b := 255) (by decide +kernel)
theorem dL_law_558 : decode cL_law 558 = .ok (.aload_n 1, 1) := dk_o43 (by decide +kernel)
theorem dL_law_559 : decode cL_law 559 = .ok (.aload_n 0, 1) := dk_o42 (by decide +kernel)
theorem dL_law_560 : decode cL_law 560 = .ok (.iload_n 3, 1) := dk_o29 (by decide +kernel)
theorem dL_law_561 : decode cL_law 561 = .ok (.iconst 1, 1) := dk_o4 (by decide +kernel)
theorem dL_law_562 : decode cL_law 562 = .ok (.iadd, 1) := dk_o96 (by decide +kernel)
theorem dL_law_563 : decode cL_law 563 = .ok (.iaload, 1) := dk_o46 (by decide +kernel)
theorem dL_law_564 : decode cL_law 564 = .ok (.aload_n 0, 1) := dk_o42 (by decide +kernel)
theorem dL_law_565 : decode cL_law 565 = .ok (.iload_n 3, 1) := dk_o29 (by decide +kernel)
theorem dL_law_566 : decode cL_law 566 = .ok (.iconst 2, 1) := dk_o5 (by decide +kernel)
theorem dL_law_567 : decode cL_law 567 = .ok (.iadd, 1) := dk_o96 (by decide +kernel)
theorem dL_law_568 : decode cL_law 568 = .ok (.iaload, 1) := dk_o46 (by decide +kernel)
theorem dL_law_569 : decode cL_law 569 = .ok (.aload_n 0, 1) := dk_o42 (by decide +kernel)
theorem dL_law_570 : decode cL_law 570 = .ok (.iload_n 3, 1) := dk_o29 (by decide +kernel)
theorem dL_law_571 : decode cL_law 571 = .ok (.iconst 3, 1) := dk_o6 (by decide +kernel)
theorem dL_law_572 : decode cL_law 572 = .ok (.iadd, 1) := dk_o96 (by decide +kernel)
theorem dL_law_573 : decode cL_law 573 = .ok (.iaload, 1) := dk_o46 (by decide +kernel)
theorem dL_law_574 : decode cL_law 574 = .ok (.invokevirtual 57, 3) := dk_o182 (a := 0) (b := 57) (by decide +kernel)
theorem dL_law_577 : decode cL_law 577 = .ok (.pop, 1) := dk_o87 (by decide +kernel)
theorem dL_law_578 : decode cL_law 578 = .ok (.aload_n 2, 1) := dk_o44 (by decide +kernel)
theorem dL_law_579 : decode cL_law 579 = .ok (.aload_n 0, 1) := dk_o42 (by decide +kernel)
theorem dL_law_580 : decode cL_law 580 = .ok (.iload_n 3, 1) := dk_o29 (by decide +kernel)
theorem dL_law_581 : decode cL_law 581 = .ok (.iconst 1, 1) := dk_o4 (by decide +kernel)
theorem dL_law_582 : decode cL_law 582 = .ok (.iadd, 1) := dk_o96 (by decide +kernel)
theorem dL_law_583 : decode cL_law 583 = .ok (.iaload, 1) := dk_o46 (by decide +kernel)
theorem dL_law_584 : decode cL_law 584 = .ok (.aload_n 0, 1) := dk_o42 (by decide +kernel)
theorem dL_law_585 : decode cL_law 585 = .ok (.iload_n 3, 1) := dk_o29 (by decide +kernel)
theorem dL_law_586 : decode cL_law 586 = .ok (.iconst 2, 1) := dk_o5 (by decide +kernel)
theorem dL_law_587 : decode cL_law 587 = .ok (.iadd, 1) := dk_o96 (by decide +kernel)
theorem dL_law_588 : decode cL_law 588 = .ok (.iaload, 1) := dk_o46 (by decide +kernel)
theorem dL_law_589 : decode cL_law 589 = .ok (.aload_n 0, 1) := dk_o42 (by decide +kernel)
theorem dL_law_590 : decode cL_law 590 = .ok (.iload_n 3, 1) := dk_o29 (by decide +kernel)
theorem dL_law_591 : decode cL_law 591 = .ok (.iconst 3, 1) := dk_o6 (by decide +kernel)
theorem dL_law_592 : decode cL_law 592 = .ok (.iadd, 1) := dk_o96 (by decide +kernel)
theorem dL_law_593 : decode cL_law 593 = .ok (.iaload, 1) := dk_o46 (by decide +kernel)
theorem dL_law_594 : decode cL_law 594 = .ok (.invokevirtual 60, 3) := dk_o182 (a := 0) (b := 60) (by decide +kernel)
theorem dL_law_597 : decode cL_law 597 = .ok (.pop, 1) := dk_o87 (by decide +kernel)
theorem dL_law_598 : decode cL_law 598 = .ok (.goto 980, 3) := dk_o167 (a := 3) (b := 212) (by decide +kernel)
set_option maxRecDepth 100000 in
theorem dL_law_601 : decode cL_law 601 = .ok (.aload_n 1, 1) := dk_o43 (by decide +kernel)
set_option maxRecDepth 100000 in
theorem dL_law_602 : decode cL_law 602 = .ok (.aload_n 0, 1) := dk_o42 (by decide +kernel)
set_option maxRecDepth 100000 in
theorem dL_law_603 : decode cL_law 603 = .ok (.iload_n 3, 1) := dk_o29 (by decide +kernel)
set_option maxRecDepth 100000 in
theorem dL_law_604 : decode cL_law 604 = .ok (.iconst 1, 1) := dk_o4 (by decide +kernel)
set_option maxRecDepth 100000 in
theorem dL_law_605 : decode cL_law 605 = .ok (.iadd, 1) := dk_o96 (by decide +kernel)
set_option maxRecDepth 100000 in
theorem dL_law_606 : decode cL_law 606 = .ok (.iaload, 1) := dk_o46 (by decide +kernel)
set_option maxRecDepth 100000 in
theorem dL_law_607 : decode cL_law 607 = .ok (.aload_n 0, 1) := dk_o42 (by decide +kernel)
set_option maxRecDepth 100000 in
theorem dL_law_608 : decode cL_law 608 = .ok (.iload_n 3, 1) := dk_o29 (by decide +kernel)
set_option maxRecDepth 100000 in
theorem dL_law_609 : decode cL_law 609 = .ok (.iconst 2, 1) := dk_o5 (by decide +kernel)
set_option maxRecDepth 100000 in
theorem dL_law_610 : decode cL_law 610 = .ok (.iadd, 1) := dk_o96 (by decide +kernel)
set_option maxRecDepth 100000 in
theorem dL_law_611 : decode cL_law 611 = .ok (.iaload, 1) := dk_o46 (by decide +kernel)
set_option maxRecDepth 100000 in
theorem dL_law_612 : decode cL_law 612 = .ok (.aload_n 0, 1) := dk_o42 (by decide +kernel)
set_option maxRecDepth 100000 in
theorem dL_law_613 : decode cL_law 613 = .ok (.iload_n 3, 1) := dk_o29 (by decide +kernel)
set_option maxRecDepth 100000 in
theorem dL_law_614 : decode cL_law 614 = .ok (.iconst 3, 1) := dk_o6 (by decide +kernel)
set_option maxRecDepth 100000 in
theorem dL_law_615 : decode cL_law 615 = .ok (.iadd, 1) := dk_o96 (by decide +kernel)
set_option maxRecDepth 100000 in
theorem dL_law_616 : decode cL_law 616 = .ok (.iaload, 1) := dk_o46 (by decide +kernel)
set_option maxRecDepth 100000 in
theorem dL_law_617 : decode cL_law 617 = .ok (.invokevirtual 61, 3) := dk_o182 (a := 0) (b := 61) (by decide +kernel)
set_option maxRecDepth 100000 in
theorem dL_law_620 : decode cL_law 620 = .ok (.pop, 1) := dk_o87 (by decide +kernel)
set_option maxRecDepth 100000 in
theorem dL_law_621 : decode cL_law 621 = .ok (.aload_n 2, 1) := dk_o44 (by decide +kernel)
set_option maxRecDepth 100000 in
theorem dL_law_622 : decode cL_law 622 = .ok (.aload_n 0, 1) := dk_o42 (by decide +kernel)
set_option maxRecDepth 100000 in
theorem dL_law_623 : decode cL_law 623 = .ok (.iload_n 3, 1) := dk_o29 (by decide +kernel)
set_option maxRecDepth 100000 in
theorem dL_law_624 : decode cL_law 624 = .ok (.iconst 1, 1) := dk_o4 (by decide +kernel)
set_option maxRecDepth 100000 in
theorem dL_law_625 : decode cL_law 625 = .ok (.iadd, 1) := dk_o96 (by decide +kernel)
set_option maxRecDepth 100000 in
theorem dL_law_626 : decode cL_law 626 = .ok (.iaload, 1) := dk_o46 (by decide +kernel)
set_option maxRecDepth 100000 in
theorem dL_law_627 : decode cL_law 627 = .ok (.aload_n 0, 1) := dk_o42 (by decide +kernel)
set_option maxRecDepth 100000 in
theorem dL_law_628 : decode cL_law 628 = .ok (.iload_n 3, 1) := dk_o29 (by decide +kernel)
set_option maxRecDepth 100000 in
theorem dL_law_629 : decode cL_law 629 = .ok (.iconst 2, 1) := dk_o5 (by decide +kernel)
set_option maxRecDepth 100000 in
theorem dL_law_630 : decode cL_law 630 = .ok (.iadd, 1) := dk_o96 (by decide +kernel)
set_option maxRecDepth 100000 in
theorem dL_law_631 : decode cL_law 631 = .ok (.iaload, 1) := dk_o46 (by decide +kernel)
set_option maxRecDepth 100000 in
theorem dL_law_632 : decode cL_law 632 = .ok (.aload_n 0, 1) := dk_o42 (by decide +kernel)
set_option maxRecDepth 100000 in
theorem dL_law_633 : decode cL_law 633 = .ok (.iload_n 3, 1) := dk_o29 (by decide +kernel)
set_option maxRecDepth 100000 in
theorem dL_law_634 : decode cL_law 634 = .ok (.iconst 3, 1) := dk_o6 (by decide +kernel)
set_option maxRecDepth 100000 in
theorem dL_law_635 : decode cL_law 635 = .ok (.iadd, 1) := dk_o96 (by decide +kernel)
set_option maxRecDepth 100000 in
theorem dL_law_636 : decode cL_law 636 = .ok (.iaload, 1) := dk_o46 (by decide +kernel)
set_option maxRecDepth 100000 in
theorem dL_law_637 : decode cL_law 637 = .ok (.invokevirtual 64, 3) := dk_o182 (a := 0) (b := 64) (by decide +kernel)
set_option maxRecDepth 100000 in
theorem dL_law_640 : decode cL_law 640 = .ok (.pop, 1) := dk_o87 (by decide +kernel)
set_option maxRecDepth 100000 in
theorem dL_law_641 : decode cL_law 641 = .ok (.goto 937, 3) := dk_o167 (a := 3) (b := 169) (by decide +kernel)
set_option maxRecDepth 100000 in
theorem dL_law_644 : decode cL_law 644 = .ok (.aload_n 1, 1) := dk_o43 (by decide +kernel)
set_option maxRecDepth 100000 in
theorem dL_law_645 : decode cL_law 645 = .ok (.aload_n 0, 1) := dk_o42 (by decide +kernel)
set_option maxRecDepth 100000 in
theorem dL_law_646 : decode cL_law 646 = .ok (.iload_n 3, 1) := dk_o29 (by decide +kernel)
set_option maxRecDepth 100000 in
theorem dL_law_647 : decode cL_law 647 = .ok (.iconst 1, 1) := dk_o4 (by decide +kernel)
set_option maxRecDepth 100000 in
theorem dL_law_648 : decode cL_law 648 = .ok (.iadd, 1) := dk_o96 (by decide +kernel)
set_option maxRecDepth 100000 in
theorem dL_law_649 : decode cL_law 649 = .ok (.iaload, 1) := dk_o46 (by decide +kernel)
set_option maxRecDepth 100000 in
theorem dL_law_650 : decode cL_law 650 = .ok (.aload_n 0, 1) := dk_o42 (by decide +kernel)
set_option maxRecDepth 100000 in
theorem dL_law_651 : decode cL_law 651 = .ok (.iload_n 3, 1) := dk_o29 (by decide +kernel)
set_option maxRecDepth 100000 in
theorem dL_law_652 : decode cL_law 652 = .ok (.iconst 2, 1) := dk_o5 (by decide +kernel)
set_option maxRecDepth 100000 in
theorem dL_law_653 : decode cL_law 653 = .ok (.iadd, 1) := dk_o96 (by decide +kernel)
set_option maxRecDepth 100000 in
theorem dL_law_654 : decode cL_law 654 = .ok (.iaload, 1) := dk_o46 (by decide +kernel)
set_option maxRecDepth 100000 in
theorem dL_law_655 : decode cL_law 655 = .ok (.invokevirtual 65, 3) := dk_o182 (a := 0) (b := 65) (by decide +kernel)
set_option maxRecDepth 100000 in
theorem dL_law_658 : decode cL_law 658 = .ok (.pop, 1) := dk_o87 (by decide +kernel)
set_option maxRecDepth 100000 in
theorem dL_law_659 : decode cL_law 659 = .ok (.aload_n 2, 1) := dk_o44 (by decide +kernel)
set_option maxRecDepth 100000 in
theorem dL_law_660 : decode cL_law 660 = .ok (.aload_n 0, 1) := dk_o42 (by decide +kernel)
set_option maxRecDepth 100000 in
theorem dL_law_661 : decode cL_law 661 = .ok (.iload_n 3, 1) := dk_o29 (by decide +kernel)
set_option maxRecDepth 100000 in
theorem dL_law_662 : decode cL_law 662 = .ok (.iconst 1, 1) := dk_o4 (by decide +kernel)
set_option maxRecDepth 100000 in
theorem dL_law_663 : decode cL_law 663 = .ok (.iadd, 1) := dk_o96 (by decide +kernel)
set_option maxRecDepth 100000 in
theorem dL_law_664 : decode cL_law 664 = .ok (.iaload, 1) := dk_o46 (by decide +kernel)
set_option maxRecDepth 100000 in
theorem dL_law_665 : decode cL_law 665 = .ok (.aload_n 0, 1) := dk_o42 (by decide +kernel)
set_option maxRecDepth 100000 in
theorem dL_law_666 : decode cL_law 666 = .ok (.iload_n 3, 1) := dk_o29 (by decide +kernel)
set_option maxRecDepth 100000 in
theorem dL_law_667 : decode cL_law 667 = .ok (.iconst 2, 1) := dk_o5 (by decide +kernel)
set_option maxRecDepth 100000 in
theorem dL_law_668 : decode cL_law 668 = .ok (.iadd, 1) := dk_o96 (by decide +kernel)
set_option maxRecDepth 100000 in
theorem dL_law_669 : decode cL_law 669 = .ok (.iaload, 1) := dk_o46 (by decide +kernel)
set_option maxRecDepth 100000 in
theorem dL_law_670 : decode cL_law 670 = .ok (.invokevirtual 68, 3) := dk_o182 (a := 0) (b := 68) (by decide +kernel)
set_option maxRecDepth 100000 in
theorem dL_law_673 : decode cL_law 673 = .ok (.pop, 1) := dk_o87 (by decide +kernel)
set_option maxRecDepth 100000 in
theorem dL_law_674 : decode cL_law 674 = .ok (.goto 904, 3) := dk_o167 (a := 3) (b := 136) (by decide +kernel)
set_option maxRecDepth 100000 in
theorem dL_law_677 : decode cL_law 677 = .ok (.aload_n 1, 1) := dk_o43 (by decide +kernel)
set_option maxRecDepth 100000 in
theorem dL_law_678 : decode cL_law 678 = .ok (.aload_n 0, 1) := dk_o42 (by decide +kernel)
set_option maxRecDepth 100000 in
theorem dL_law_679 : decode cL_law 679 = .ok (.iload_n 3, 1) := dk_o29 (by decide +kernel)
set_option maxRecDepth 100000 in
theorem dL_law_680 : decode cL_law 680 = .ok (.iconst 1, 1) := dk_o4 (by decide +kernel)
set_option maxRecDepth 100000 in
theorem dL_law_681 : decode cL_law 681 = .ok (.iadd, 1) := dk_o96 (by decide +kernel)
set_option maxRecDepth 100000 in
theorem dL_law_682 : decode cL_law 682 = .ok (.iaload, 1) := dk_o46 (by decide +kernel)
set_option maxRecDepth 100000 in
theorem dL_law_683 : decode cL_law 683 = .ok (.aload_n 0, 1) := dk_o42 (by decide +kernel)
set_option maxRecDepth 100000 in
theorem dL_law_684 : decode cL_law 684 = .ok (.iload_n 3, 1) := dk_o29 (by decide +kernel)
set_option maxRecDepth 100000 in
theorem dL_law_685 : decode cL_law 685 = .ok (.iconst 2, 1) := dk_o5 (by decide +kernel)
set_option maxRecDepth 100000 in
theorem dL_law_686 : decode cL_law 686 = .ok (.iadd, 1) := dk_o96 (by decide +kernel)
set_option maxRecDepth 100000 in
theorem dL_law_687 : decode cL_law 687 = .ok (.iaload, 1) := dk_o46 (by decide +kernel)
set_option maxRecDepth 100000 in
theorem dL_law_688 : decode cL_law 688 = .ok (.aload_n 0, 1) := dk_o42 (by decide +kernel)
set_option maxRecDepth 100000 in
theorem dL_law_689 : decode cL_law 689 = .ok (.iload_n 3, 1) := dk_o29 (by decide +kernel)
set_option maxRecDepth 100000 in
theorem dL_law_690 : decode cL_law 690 = .ok (.iconst 3, 1) := dk_o6 (by decide +kernel)
set_option maxRecDepth 100000 in
theorem dL_law_691 : decode cL_law 691 = .ok (.iadd, 1) := dk_o96 (by decide +kernel)
set_option maxRecDepth 100000 in
theorem dL_law_692 : decode cL_law 692 = .ok (.iaload, 1) := dk_o46 (by decide +kernel)
set_option maxRecDepth 100000 in
theorem dL_law_693 : decode cL_law 693 = .ok (.invokevirtual 69, 3) := dk_o182 (a := 0) (b := 69) (by decide +kernel)
set_option maxRecDepth 100000 in
theorem dL_law_696 : decode cL_law 696 = .ok (.pop, 1) := dk_o87 (by decide +kernel)
set_option maxRecDepth 100000 in
theorem dL_law_697 : decode cL_law 697 = .ok (.aload_n 2, 1) := dk_o44 (by decide +kernel)
set_option maxRecDepth 100000 in
theorem dL_law_698 : decode cL_law 698 = .ok (.aload_n 0, 1) := dk_o42 (by decide +kernel)
set_option maxRecDepth 100000 in
theorem dL_law_699 : decode cL_law 699 = .ok (.iload_n 3, 1) := dk_o29 (by decide +kernel)
set_option maxRecDepth 100000 in
theorem dL_law_700 : decode cL_law 700 = .ok (.iconst 1, 1) := dk_o4 (by decide +kernel)
set_option maxRecDepth 100000 in
theorem dL_law_701 : decode cL_law 701 = .ok (.iadd, 1) := dk_o96 (by decide +kernel)
set_option maxRecDepth 100000 in
theorem dL_law_702 : decode cL_law 702 = .ok (.iaload, 1) := dk_o46 (by decide +kernel)
set_option maxRecDepth 100000 in
theorem dL_law_703 : decode cL_law 703 = .ok (.aload_n 0, 1) := dk_o42 (by decide +kernel)
set_option maxRecDepth 100000 in
theorem dL_law_704 : decode cL_law 704 = .ok (.iload_n 3, 1) := dk_o29 (by decide +kernel)
set_option maxRecDepth 100000 in
theorem dL_law_705 : decode cL_law 705 = .ok (.iconst 2, 1) := dk_o5 (by decide +kernel)
set_option maxRecDepth 100000 in
theorem dL_law_706 : decode cL_law 706 = .ok (.iadd, 1) := dk_o96 (by decide +kernel)
set_option maxRecDepth 100000 in
theorem dL_law_707 : decode cL_law 707 = .ok (.iaload, 1) := dk_o46 (by decide +kernel)
set_option maxRecDepth 100000 in
theorem dL_law_708 : decode cL_law 708 = .ok (.aload_n 0, 1) := dk_o42 (by decide +kernel)
set_option maxRecDepth 100000 in
theorem dL_law_709 : decode cL_law 709 = .ok (.iload_n 3, 1) := dk_o29 (by decide +kernel)
set_option maxRecDepth 100000 in
theorem dL_law_710 : decode cL_law 710 = .ok (.iconst 3, 1) := dk_o6 (by decide +kernel)
set_option maxRecDepth 100000 in
theorem dL_law_711 : decode cL_law 711 = .ok (.iadd, 1) := dk_o96 (by decide +kernel)
set_option maxRecDepth 100000 in
theorem dL_law_712 : decode cL_law 712 = .ok (.iaload, 1) := dk_o46 (by decide +kernel)
set_option maxRecDepth 100000 in
theorem dL_law_713 : decode cL_law 713 = .ok (.invokevirtual 72, 3) := dk_o182 (a := 0) (b := 72) (by decide +kernel)
set_option maxRecDepth 100000 in
theorem dL_law_716 : decode cL_law 716 = .ok (.pop, 1) := dk_o87 (by decide +kernel)
set_option maxRecDepth 100000 in
theorem dL_law_717 : decode cL_law 717 = .ok (.goto 861, 3) := dk_o167 (a := 3) (b := 93) (by decide +kernel)
set_option maxRecDepth 100000 in
theorem dL_law_720 : decode cL_law 720 = .ok (.aload_n 1, 1) := dk_o43 (by decide +kernel)
set_option maxRecDepth 100000 in
theorem dL_law_721 : decode cL_law 721 = .ok (.aload_n 0, 1) := dk_o42 (by decide +kernel)
set_option maxRecDepth 100000 in
theorem dL_law_722 : decode cL_law 722 = .ok (.iload_n 3, 1) := dk_o29 (by decide +kernel)
set_option maxRecDepth 100000 in
theorem dL_law_723 : decode cL_law 723 = .ok (.iconst 1, 1) := dk_o4 (by decide +kernel)
set_option maxRecDepth 100000 in
theorem dL_law_724 : decode cL_law 724 = .ok (.iadd, 1) := dk_o96 (by decide +kernel)
set_option maxRecDepth 100000 in
theorem dL_law_725 : decode cL_law 725 = .ok (.iaload, 1) := dk_o46 (by decide +kernel)
set_option maxRecDepth 100000 in
theorem dL_law_726 : decode cL_law 726 = .ok (.aload_n 0, 1) := dk_o42 (by decide +kernel)
set_option maxRecDepth 100000 in
theorem dL_law_727 : decode cL_law 727 = .ok (.iload_n 3, 1) := dk_o29 (by decide +kernel)
set_option maxRecDepth 100000 in
theorem dL_law_728 : decode cL_law 728 = .ok (.iconst 2, 1) := dk_o5 (by decide +kernel)
set_option maxRecDepth 100000 in
theorem dL_law_729 : decode cL_law 729 = .ok (.iadd, 1) := dk_o96 (by decide +kernel)
set_option maxRecDepth 100000 in
theorem dL_law_730 : decode cL_law 730 = .ok (.iaload, 1) := dk_o46 (by decide +kernel)
set_option maxRecDepth 100000 in
theorem dL_law_731 : decode cL_law 731 = .ok (.aload_n 0, 1) := dk_o42 (by decide +kernel)
set_option maxRecDepth 100000 in
theorem dL_law_732 : decode cL_law 732 = .ok (.iload_n 3, 1) := dk_o29 (by decide +kernel)
set_option maxRecDepth 100000 in
theorem dL_law_733 : decode cL_law 733 = .ok (.iconst 3, 1) := dk_o6 (by decide +kernel)
set_option maxRecDepth 100000 in
theorem dL_law_734 : decode cL_law 734 = .ok (.iadd, 1) := dk_o96 (by decide +kernel)
set_option maxRecDepth 100000 in
theorem dL_law_735 : decode cL_law 735 = .ok (.iaload, 1) := dk_o46 (by decide +kernel)
set_option maxRecDepth 100000 in
theorem dL_law_736 : decode cL_law 736 = .ok (.invokevirtual 73, 3) := dk_o182 (a := 0) (b := 73) (by decide +kernel)
set_option maxRecDepth 100000 in
theorem dL_law_739 : decode cL_law 739 = .ok (.pop, 1) := dk_o87 (by decide +kernel)
set_option maxRecDepth 100000 in
theorem dL_law_740 : decode cL_law 740 = .ok (.aload_n 2, 1) := dk_o44 (by decide +kernel)
set_option maxRecDepth 100000 in
theorem dL_law_741 : decode cL_law 741 = .ok (.aload_n 0, 1) := dk_o42 (by decide +kernel)
set_option maxRecDepth 100000 in
theorem dL_law_742 : decode cL_law 742 = .ok (.iload_n 3, 1) := dk_o29 (by decide +kernel)
set_option maxRecDepth 100000 in
theorem dL_law_743 : decode cL_law 743 = .ok (.iconst 1, 1) := dk_o4 (by decide +kernel)
set_option maxRecDepth 100000 in
theorem dL_law_744 : decode cL_law 744 = .ok (.iadd, 1) := dk_o96 (by decide +kernel)
set_option maxRecDepth 100000 in
theorem dL_law_745 : decode cL_law 745 = .ok (.iaload, 1) := dk_o46 (by decide +kernel)
set_option maxRecDepth 100000 in
theorem dL_law_746 : decode cL_law 746 = .ok (.aload_n 0, 1) := dk_o42 (by decide +kernel)
set_option maxRecDepth 100000 in
theorem dL_law_747 : decode cL_law 747 = .ok (.iload_n 3, 1) := dk_o29 (by decide +kernel)
set_option maxRecDepth 100000 in
theorem dL_law_748 : decode cL_law 748 = .ok (.iconst 2, 1) := dk_o5 (by decide +kernel)
set_option maxRecDepth 100000 in
theorem dL_law_749 : decode cL_law 749 = .ok (.iadd, 1) := dk_o96 (by decide +kernel)
set_option maxRecDepth 100000 in
theorem dL_law_750 : decode cL_law 750 = .ok (.iaload, 1) := dk_o46 (by decide +kernel)
set_option maxRecDepth 100000 in
theorem dL_law_751 : decode cL_law 751 = .ok (.aload_n 0, 1) := dk_o42 (by decide +kernel)
set_option maxRecDepth 100000 in
theorem dL_law_752 : decode cL_law 752 = .ok (.iload_n 3, 1) := dk_o29 (by decide +kernel)
set_option maxRecDepth 100000 in
theorem dL_law_753 : decode cL_law 753 = .ok (.iconst 3, 1) := dk_o6 (by decide +kernel)
set_option maxRecDepth 100000 in
theorem dL_law_754 : decode cL_law 754 = .ok (.iadd, 1) := dk_o96 (by decide +kernel)
set_option maxRecDepth 100000 in
theorem dL_law_755 : decode cL_law 755 = .ok (.iaload, 1) := dk_o46 (by decide +kernel)
set_option maxRecDepth 100000 in
theorem dL_law_756 : decode cL_law 756 = .ok (.invokevirtual 76, 3) := dk_o182 (a := 0) (b := 76) (by decide +kernel)
set_option maxRecDepth 100000 in
theorem dL_law_759 : decode cL_law 759 = .ok (.pop, 1) := dk_o87 (by decide +kernel)
set_option maxRecDepth 100000 in
theorem dL_law_760 : decode cL_law 760 = .ok (.goto 818, 3) := dk_o167 (a := 3) (b := 50) (by decide +kernel)
set_option maxRecDepth 100000 in
theorem dL_law_763 : decode cL_law 763 = .ok (.aload_n 1, 1) := dk_o43 (by decide +kernel)
set_option maxRecDepth 100000 in
theorem dL_law_764 : decode cL_law 764 = .ok (.aload_n 0, 1) := dk_o42 (by decide +kernel)
set_option maxRecDepth 100000 in
theorem dL_law_765 : decode cL_law 765 = .ok (.iload_n 3, 1) := dk_o29 (by decide +kernel)
set_option maxRecDepth 100000 in
theorem dL_law_766 : decode cL_law 766 = .ok (.iconst 1, 1) := dk_o4 (by decide +kernel)
set_option maxRecDepth 100000 in
theorem dL_law_767 : decode cL_law 767 = .ok (.iadd, 1) := dk_o96 (by decide +kernel)
set_option maxRecDepth 100000 in
theorem dL_law_768 : decode cL_law 768 = .ok (.iaload, 1) := dk_o46 (by decide +kernel)
set_option maxRecDepth 100000 in
theorem dL_law_769 : decode cL_law 769 = .ok (.aload_n 0, 1) := dk_o42 (by decide +kernel)
set_option maxRecDepth 100000 in
theorem dL_law_770 : decode cL_law 770 = .ok (.iload_n 3, 1) := dk_o29 (by decide +kernel)
set_option maxRecDepth 100000 in
theorem dL_law_771 : decode cL_law 771 = .ok (.iconst 2, 1) := dk_o5 (by decide +kernel)
set_option maxRecDepth 100000 in
theorem dL_law_772 : decode cL_law 772 = .ok (.iadd, 1) := dk_o96 (by decide +kernel)
set_option maxRecDepth 100000 in
theorem dL_law_773 : decode cL_law 773 = .ok (.iaload, 1) := dk_o46 (by decide +kernel)
set_option maxRecDepth 100000 in
theorem dL_law_774 : decode cL_law 774 = .ok (.aload_n 0, 1) := dk_o42 (by decide +kernel)
set_option maxRecDepth 100000 in
theorem dL_law_775 : decode cL_law 775 = .ok (.iload_n 3, 1) := dk_o29 (by decide +kernel)
set_option maxRecDepth 100000 in
theorem dL_law_776 : decode cL_law 776 = .ok (.iconst 3, 1) := dk_o6 (by decide +kernel)
set_option maxRecDepth 100000 in
theorem dL_law_777 : decode cL_law 777 = .ok (.iadd, 1) := dk_o96 (by decide +kernel)
set_option maxRecDepth 100000 in
theorem dL_law_778 : decode cL_law 778 = .ok (.iaload, 1) := dk_o46 (by decide +kernel)
set_option maxRecDepth 100000 in
theorem dL_law_779 : decode cL_law 779 = .ok (.invokevirtual 77, 3) := dk_o182 (a := 0) (b := 77) (by decide +kernel)
set_option maxRecDepth 100000 in
theorem dL_law_782 : decode cL_law 782 = .ok (.pop, 1) := dk_o87 (by decide +kernel)
set_option maxRecDepth 100000 in
theorem dL_law_783 : decode cL_law 783 = .ok (.aload_n 2, 1) := dk_o44 (by decide +kernel)
set_option maxRecDepth 100000 in
theorem dL_law_784 : decode cL_law 784 = .ok (.aload_n 0, 1) := dk_o42 (by decide +kernel)
set_option maxRecDepth 100000 in
theorem dL_law_785 : decode cL_law 785 = .ok (.iload_n 3, 1) := dk_o29 (by decide +kernel)
set_option maxRecDepth 100000 in
theorem dL_law_786 : decode cL_law 786 = .ok (.iconst 1, 1) := dk_o4 (by decide +kernel)
set_option maxRecDepth 100000 in
theorem dL_law_787 : decode cL_law 787 = .ok (.iadd, 1) := dk_o96 (by decide +kernel)
set_option maxRecDepth 100000 in
theorem dL_law_788 : decode cL_law 788 = .ok (.iaload, 1) := dk_o46 (by decide +kernel)
set_option maxRecDepth 100000 in
theorem dL_law_789 : decode cL_law 789 = .ok (.aload_n 0, 1) := dk_o42 (by decide +kernel)
set_option maxRecDepth 100000 in
theorem dL_law_790 : decode cL_law 790 = .ok (.iload_n 3, 1) := dk_o29 (by decide +kernel)
set_option maxRecDepth 100000 in
theorem dL_law_791 : decode cL_law 791 = .ok (.iconst 2, 1) := dk_o5 (by decide +kernel)
set_option maxRecDepth 100000 in
theorem dL_law_792 : decode cL_law 792 = .ok (.iadd, 1) := dk_o96 (by decide +kernel)
set_option maxRecDepth 100000 in
theorem dL_law_793 : decode cL_law 793 = .ok (.iaload, 1) := dk_o46 (by decide +kernel)
set_option maxRecDepth 100000 in
theorem dL_law_794 : decode cL_law 794 = .ok (.aload_n 0, 1) := dk_o42 (by decide +kernel)
set_option maxRecDepth 100000 in
theorem dL_law_795 : decode cL_law 795 = .ok (.iload_n 3, 1) := dk_o29 (by decide +kernel)
set_option maxRecDepth 100000 in
theorem dL_law_796 : decode cL_law 796 = .ok (.iconst 3, 1) := dk_o6 (by decide +kernel)
set_option maxRecDepth 100000 in
theorem dL_law_797 : decode cL_law 797 = .ok (.iadd, 1) := dk_o96 (by decide +kernel)
set_option maxRecDepth 100000 in
theorem dL_law_798 : decode cL_law 798 = .ok (.iaload, 1) := dk_o46 (by decide +kernel)
set_option maxRecDepth 100000 in
theorem dL_law_799 : decode cL_law 799 = .ok (.invokevirtual 80, 3) := dk_o182 (a := 0) (b := 80) (by decide +kernel)
set_option maxRecDepth 100000 in
theorem dL_law_802 : decode cL_law 802 = .ok (.pop, 1) := dk_o87 (by decide +kernel)
set_option maxRecDepth 100000 in
theorem dL_law_803 : decode cL_law 803 = .ok (.goto 775, 3) := dk_o167 (a := 3) (b := 7) (by decide +kernel)
set_option maxRecDepth 100000 in
theorem dL_law_806 : decode cL_law 806 = .ok (.aload_n 1, 1) := dk_o43 (by decide +kernel)
set_option maxRecDepth 100000 in
theorem dL_law_807 : decode cL_law 807 = .ok (.aload_n 0, 1) := dk_o42 (by decide +kernel)
set_option maxRecDepth 100000 in
theorem dL_law_808 : decode cL_law 808 = .ok (.iload_n 3, 1) := dk_o29 (by decide +kernel)
set_option maxRecDepth 100000 in
theorem dL_law_809 : decode cL_law 809 = .ok (.iconst 1, 1) := dk_o4 (by decide +kernel)
set_option maxRecDepth 100000 in
theorem dL_law_810 : decode cL_law 810 = .ok (.iadd, 1) := dk_o96 (by decide +kernel)
set_option maxRecDepth 100000 in
theorem dL_law_811 : decode cL_law 811 = .ok (.iaload, 1) := dk_o46 (by decide +kernel)
set_option maxRecDepth 100000 in
theorem dL_law_812 : decode cL_law 812 = .ok (.invokevirtual 81, 3) := dk_o182 (a := 0) (b := 81) (by decide +kernel)
set_option maxRecDepth 100000 in
theorem dL_law_815 : decode cL_law 815 = .ok (.pop, 1) := dk_o87 (by decide +kernel)
set_option maxRecDepth 100000 in
theorem dL_law_816 : decode cL_law 816 = .ok (.aload_n 2, 1) := dk_o44 (by decide +kernel)
set_option maxRecDepth 100000 in
theorem dL_law_817 : decode cL_law 817 = .ok (.aload_n 0, 1) := dk_o42 (by decide +kernel)
set_option maxRecDepth 100000 in
theorem dL_law_818 : decode cL_law 818 = .ok (.iload_n 3, 1) := dk_o29 (by decide +kernel)
set_option maxRecDepth 100000 in
theorem dL_law_819 : decode cL_law 819 = .ok (.iconst 1, 1) := dk_o4 (by decide +kernel)
set_option maxRecDepth 100000 in
theorem dL_law_820 : decode cL_law 820 = .ok (.iadd, 1) := dk_o96 (by decide +kernel)
set_option maxRecDepth 100000 in
theorem dL_law_821 : decode cL_law 821 = .ok (.iaload, 1) := dk_o46 (by decide +kernel)
set_option maxRecDepth 100000 in
theorem dL_law_822 : decode cL_law 822 = .ok (.invokevirtual 84, 3) := dk_o182 (a := 0) (b := 84) (by decide +kernel)
set_option maxRecDepth 100000 in
theorem dL_law_825 : decode cL_law 825 = .ok (.pop, 1) := dk_o87 (by decide +kernel)
set_option maxRecDepth 100000 in
theorem dL_law_826 : decode cL_law 826 = .ok (.goto 752, 3) := dk_o167 (a := 2) (b := 240) (by decide +kernel)
set_option maxRecDepth 100000 in
theorem dL_law_829 : decode cL_law 829 = .ok (.aload_n 1, 1) := dk_o43 (by decide +kernel)
set_option maxRecDepth 100000 in
theorem dL_law_830 : decode cL_law 830 = .ok (.aload_n 0, 1) := dk_o42 (by decide +kernel)
set_option maxRecDepth 100000 in
theorem dL_law_831 : decode cL_law 831 = .ok (.iload_n 3, 1) := dk_o29 (by decide +kernel)
set_option maxRecDepth 100000 in
theorem dL_law_832 : decode cL_law 832 = .ok (.iconst 1, 1) := dk_o4 (by decide +kernel)
set_option maxRecDepth 100000 in
theorem dL_law_833 : decode cL_law 833 = .ok (.iadd, 1) := dk_o96 (by decide +kernel)
set_option maxRecDepth 100000 in
theorem dL_law_834 : decode cL_law 834 = .ok (.iaload, 1) := dk_o46 (by decide +kernel)
set_option maxRecDepth 100000 in
theorem dL_law_835 : decode cL_law 835 = .ok (.aload_n 0, 1) := dk_o42 (by decide +kernel)
set_option maxRecDepth 100000 in
theorem dL_law_836 : decode cL_law 836 = .ok (.iload_n 3, 1) := dk_o29 (by decide +kernel)
set_option maxRecDepth 100000 in
theorem dL_law_837 : decode cL_law 837 = .ok (.iconst 2, 1) := dk_o5 (by decide +kernel)
set_option maxRecDepth 100000 in
theorem dL_law_838 : decode cL_law 838 = .ok (.iadd, 1) := dk_o96 (by decide +kernel)
set_option maxRecDepth 100000 in
theorem dL_law_839 : decode cL_law 839 = .ok (.iaload, 1) := dk_o46 (by decide +kernel)
set_option maxRecDepth 100000 in
theorem dL_law_840 : decode cL_law 840 = .ok (.aload_n 0, 1) := dk_o42 (by decide +kernel)
set_option maxRecDepth 100000 in
theorem dL_law_841 : decode cL_law 841 = .ok (.iload_n 3, 1) := dk_o29 (by decide +kernel)
set_option maxRecDepth 100000 in
theorem dL_law_842 : decode cL_law 842 = .ok (.iconst 3, 1) := dk_o6 (by decide +kernel)
set_option maxRecDepth 100000 in
theorem dL_law_843 : decode cL_law 843 = .ok (.iadd, 1) := dk_o96 (by decide +kernel)
set_option maxRecDepth 100000 in
theorem dL_law_844 : decode cL_law 844 = .ok (.iaload, 1) := dk_o46 (by decide +kernel)
set_option maxRecDepth 100000 in
theorem dL_law_845 : decode cL_law 845 = .ok (.invokevirtual 85, 3) := dk_o182 (a := 0) (b := 85) (by decide +kernel)
set_option maxRecDepth 100000 in
theorem dL_law_848 : decode cL_law 848 = .ok (.pop, 1) := dk_o87 (by decide +kernel)
set_option maxRecDepth 100000 in
theorem dL_law_849 : decode cL_law 849 = .ok (.aload_n 2, 1) := dk_o44 (by decide +kernel)
set_option maxRecDepth 100000 in
theorem dL_law_850 : decode cL_law 850 = .ok (.aload_n 0, 1) := dk_o42 (by decide +kernel)
set_option maxRecDepth 100000 in
theorem dL_law_851 : decode cL_law 851 = .ok (.iload_n 3, 1) := dk_o29 (by decide +kernel)
set_option maxRecDepth 100000 in
theorem dL_law_852 : decode cL_law 852 = .ok (.iconst 1, 1) := dk_o4 (by decide +kernel)
set_option maxRecDepth 100000 in
theorem dL_law_853 : decode cL_law 853 = .ok (.iadd, 1) := dk_o96 (by decide +kernel)
set_option maxRecDepth 100000 in
theorem dL_law_854 : decode cL_law 854 = .ok (.iaload, 1) := dk_o46 (by decide +kernel)
set_option maxRecDepth 100000 in
theorem dL_law_855 : decode cL_law 855 = .ok (.aload_n 0, 1) := dk_o42 (by decide +kernel)
set_option maxRecDepth 100000 in
theorem dL_law_856 : decode cL_law 856 = .ok (.iload_n 3, 1) := dk_o29 (by decide +kernel)
set_option maxRecDepth 100000 in
theorem dL_law_857 : decode cL_law 857 = .ok (.iconst 2, 1) := dk_o5 (by decide +kernel)
set_option maxRecDepth 100000 in
theorem dL_law_858 : decode cL_law 858 = .ok (.iadd, 1) := dk_o96 (by decide +kernel)
set_option maxRecDepth 100000 in
theorem dL_law_859 : decode cL_law 859 = .ok (.iaload, 1) := dk_o46 (by decide +kernel)
set_option maxRecDepth 100000 in
theorem dL_law_860 : decode cL_law 860 = .ok (.aload_n 0, 1) := dk_o42 (by decide +kernel)
set_option maxRecDepth 100000 in
theorem dL_law_861 : decode cL_law 861 = .ok (.iload_n 3, 1) := dk_o29 (by decide +kernel)
set_option maxRecDepth 100000 in
theorem dL_law_862 : decode cL_law 862 = .ok (.iconst 3, 1) := dk_o6 (by decide +kernel)
set_option maxRecDepth 100000 in
theorem dL_law_863 : decode cL_law 863 = .ok (.iadd, 1) := dk_o96 (by decide +kernel)
set_option maxRecDepth 100000 in
theorem dL_law_864 : decode cL_law 864 = .ok (.iaload, 1) := dk_o46 (by decide +kernel)
set_option maxRecDepth 100000 in
theorem dL_law_865 : decode cL_law 865 = .ok (.invokevirtual 88, 3) := dk_o182 (a := 0) (b := 88) (by decide +kernel)
set_option maxRecDepth 100000 in
theorem dL_law_868 : decode cL_law 868 = .ok (.pop, 1) := dk_o87 (by decide +kernel)
set_option maxRecDepth 100000 in
theorem dL_law_869 : decode cL_law 869 = .ok (.goto 709, 3) := dk_o167 (a := 2) (b := 197) (by decide +kernel)
set_option maxRecDepth 100000 in
theorem dL_law_872 : decode cL_law 872 = .ok (.aload_n 1, 1) := dk_o43 (by decide +kernel)
set_option maxRecDepth 100000 in
theorem dL_law_873 : decode cL_law 873 = .ok (.aload_n 0, 1) := dk_o42 (by decide +kernel)
set_option maxRecDepth 100000 in
theorem dL_law_874 : decode cL_law 874 = .ok (.iload_n 3, 1) := dk_o29 (by decide +kernel)
set_option maxRecDepth 100000 in
theorem dL_law_875 : decode cL_law 875 = .ok (.iconst 1, 1) := dk_o4 (by decide +kernel)
set_option maxRecDepth 100000 in
theorem dL_law_876 : decode cL_law 876 = .ok (.iadd, 1) := dk_o96 (by decide +kernel)
set_option maxRecDepth 100000 in
theorem dL_law_877 : decode cL_law 877 = .ok (.iaload, 1) := dk_o46 (by decide +kernel)
set_option maxRecDepth 100000 in
theorem dL_law_878 : decode cL_law 878 = .ok (.aload_n 0, 1) := dk_o42 (by decide +kernel)
set_option maxRecDepth 100000 in
theorem dL_law_879 : decode cL_law 879 = .ok (.iload_n 3, 1) := dk_o29 (by decide +kernel)
set_option maxRecDepth 100000 in
theorem dL_law_880 : decode cL_law 880 = .ok (.iconst 2, 1) := dk_o5 (by decide +kernel)
set_option maxRecDepth 100000 in
theorem dL_law_881 : decode cL_law 881 = .ok (.iadd, 1) := dk_o96 (by decide +kernel)
set_option maxRecDepth 100000 in
theorem dL_law_882 : decode cL_law 882 = .ok (.iaload, 1) := dk_o46 (by decide +kernel)
set_option maxRecDepth 100000 in
theorem dL_law_883 : decode cL_law 883 = .ok (.aload_n 0, 1) := dk_o42 (by decide +kernel)
set_option maxRecDepth 100000 in
theorem dL_law_884 : decode cL_law 884 = .ok (.iload_n 3, 1) := dk_o29 (by decide +kernel)
set_option maxRecDepth 100000 in
theorem dL_law_885 : decode cL_law 885 = .ok (.iconst 3, 1) := dk_o6 (by decide +kernel)
set_option maxRecDepth 100000 in
theorem dL_law_886 : decode cL_law 886 = .ok (.iadd, 1) := dk_o96 (by decide +kernel)
set_option maxRecDepth 100000 in
theorem dL_law_887 : decode cL_law 887 = .ok (.iaload, 1) := dk_o46 (by decide +kernel)
set_option maxRecDepth 100000 in
theorem dL_law_888 : decode cL_law 888 = .ok (.invokevirtual 89, 3) := dk_o182 (a := 0) (b := 89) (by decide +kernel)
set_option maxRecDepth 100000 in
theorem dL_law_891 : decode cL_law 891 = .ok (.pop, 1) := dk_o87 (by decide +kernel)
set_option maxRecDepth 100000 in
theorem dL_law_892 : decode cL_law 892 = .ok (.aload_n 2, 1) := dk_o44 (by decide +kernel)
set_option maxRecDepth 100000 in
theorem dL_law_893 : decode cL_law 893 = .ok (.aload_n 0, 1) := dk_o42 (by decide +kernel)
set_option maxRecDepth 100000 in
theorem dL_law_894 : decode cL_law 894 = .ok (.iload_n 3, 1) := dk_o29 (by decide +kernel)
set_option maxRecDepth 100000 in
theorem dL_law_895 : decode cL_law 895 = .ok (.iconst 1, 1) := dk_o4 (by decide +kernel)
set_option maxRecDepth 100000 in
theorem dL_law_896 : decode cL_law 896 = .ok (.iadd, 1) := dk_o96 (by decide +kernel)
set_option maxRecDepth 100000 in
theorem dL_law_897 : decode cL_law 897 = .ok (.iaload, 1) := dk_o46 (by decide +kernel)
set_option maxRecDepth 100000 in
theorem dL_law_898 : decode cL_law 898 = .ok (.aload_n 0, 1) := dk_o42 (by decide +kernel)
set_option maxRecDepth 100000 in
theorem dL_law_899 : decode cL_law 899 = .ok (.iload_n 3, 1) := dk_o29 (by decide +kernel)
set_option maxRecDepth 100000 in
theorem dL_law_900 : decode cL_law 900 = .ok (.iconst 2, 1) := dk_o5 (by decide +kernel)
set_option maxRecDepth 100000 in
theorem dL_law_901 : decode cL_law 901 = .ok (.iadd, 1) := dk_o96 (by decide +kernel)
set_option maxRecDepth 100000 in
theorem dL_law_902 : decode cL_law 902 = .ok (.iaload, 1) := dk_o46 (by decide +kernel)
set_option maxRecDepth 100000 in
theorem dL_law_903 : decode cL_law 903 = .ok (.aload_n 0, 1) := dk_o42 (by decide +kernel)
set_option maxRecDepth 100000 in
theorem dL_law_904 : decode cL_law 904 = .ok (.iload_n 3, 1) := dk_o29 (by decide +kernel)
set_option maxRecDepth 100000 in
theorem dL_law_905 : decode cL_law 905 = .ok (.iconst 3, 1) := dk_o6 (by decide +kernel)
set_option maxRecDepth 100000 in
theorem dL_law_906 : decode cL_law 906 = .ok (.iadd, 1) := dk_o96 (by decide +kernel)
set_option maxRecDepth 100000 in
theorem dL_law_907 : decode cL_law 907 = .ok (.iaload, 1) := dk_o46 (by decide +kernel)
set_option maxRecDepth 100000 in
theorem dL_law_908 : decode cL_law 908 = .ok (.invokevirtual 92, 3) := dk_o182 (a := 0) (b := 92) (by decide +kernel)
set_option maxRecDepth 100000 in
theorem dL_law_911 : decode cL_law 911 = .ok (.pop, 1) := dk_o87 (by decide +kernel)
set_option maxRecDepth 100000 in
theorem dL_law_912 : decode cL_law 912 = .ok (.goto 666, 3) := dk_o167 (a := 2) (b := 154) (by decide +kernel)
set_option maxRecDepth 100000 in
theorem dL_law_915 : decode cL_law 915 = .ok (.aload_n 1, 1) := dk_o43 (by decide +kernel)
set_option maxRecDepth 100000 in
theorem dL_law_916 : decode cL_law 916 = .ok (.aload_n 0, 1) := dk_o42 (by decide +kernel)
set_option maxRecDepth 100000 in
theorem dL_law_917 : decode cL_law 917 = .ok (.iload_n 3, 1) := dk_o29 (by decide +kernel)
set_option maxRecDepth 100000 in
theorem dL_law_918 : decode cL_law 918 = .ok (.iconst 1, 1) := dk_o4 (by decide +kernel)
set_option maxRecDepth 100000 in
theorem dL_law_919 : decode cL_law 919 = .ok (.iadd, 1) := dk_o96 (by decide +kernel)
set_option maxRecDepth 100000 in
theorem dL_law_920 : decode cL_law 920 = .ok (.iaload, 1) := dk_o46 (by decide +kernel)
set_option maxRecDepth 100000 in
theorem dL_law_921 : decode cL_law 921 = .ok (.aload_n 0, 1) := dk_o42 (by decide +kernel)
set_option maxRecDepth 100000 in
theorem dL_law_922 : decode cL_law 922 = .ok (.iload_n 3, 1) := dk_o29 (by decide +kernel)
set_option maxRecDepth 100000 in
theorem dL_law_923 : decode cL_law 923 = .ok (.iconst 2, 1) := dk_o5 (by decide +kernel)
set_option maxRecDepth 100000 in
theorem dL_law_924 : decode cL_law 924 = .ok (.iadd, 1) := dk_o96 (by decide +kernel)
set_option maxRecDepth 100000 in
theorem dL_law_925 : decode cL_law 925 = .ok (.iaload, 1) := dk_o46 (by decide +kernel)
set_option maxRecDepth 100000 in
theorem dL_law_926 : decode cL_law 926 = .ok (.aload_n 0, 1) := dk_o42 (by decide +kernel)
set_option maxRecDepth 100000 in
theorem dL_law_927 : decode cL_law 927 = .ok (.iload_n 3, 1) := dk_o29 (by decide +kernel)
set_option maxRecDepth 100000 in
theorem dL_law_928 : decode cL_law 928 = .ok (.iconst 3, 1) := dk_o6 (by decide +kernel)
set_option maxRecDepth 100000 in
theorem dL_law_929 : decode cL_law 929 = .ok (.iadd, 1) := dk_o96 (by decide +kernel)
set_option maxRecDepth 100000 in
theorem dL_law_930 : decode cL_law 930 = .ok (.iaload, 1) := dk_o46 (by decide +kernel)
set_option maxRecDepth 100000 in
theorem dL_law_931 : decode cL_law 931 = .ok (.invokevirtual 93, 3) := dk_o182 (a := 0) (b := 93) (by decide +kernel)
set_option maxRecDepth 100000 in
theorem dL_law_934 : decode cL_law 934 = .ok (.pop, 1) := dk_o87 (by decide +kernel)
set_option maxRecDepth 100000 in
theorem dL_law_935 : decode cL_law 935 = .ok (.aload_n 2, 1) := dk_o44 (by decide +kernel)
set_option maxRecDepth 100000 in
theorem dL_law_936 : decode cL_law 936 = .ok (.aload_n 0, 1) := dk_o42 (by decide +kernel)
set_option maxRecDepth 100000 in
theorem dL_law_937 : decode cL_law 937 = .ok (.iload_n 3, 1) := dk_o29 (by decide +kernel)
set_option maxRecDepth 100000 in
theorem dL_law_938 : decode cL_law 938 = .ok (.iconst 1, 1) := dk_o4 (by decide +kernel)
set_option maxRecDepth 100000 in
theorem dL_law_939 : decode cL_law 939 = .ok (.iadd, 1) := dk_o96 (by decide +kernel)
set_option maxRecDepth 100000 in
theorem dL_law_940 : decode cL_law 940 = .ok (.iaload, 1) := dk_o46 (by decide +kernel)
set_option maxRecDepth 100000 in
theorem dL_law_941 : decode cL_law 941 = .ok (.aload_n 0, 1) := dk_o42 (by decide +kernel)
set_option maxRecDepth 100000 in
theorem dL_law_942 : decode cL_law 942 = .ok (.iload_n 3, 1) := dk_o29 (by decide +kernel)
set_option maxRecDepth 100000 in
theorem dL_law_943 : decode cL_law 943 = .ok (.iconst 2, 1) := dk_o5 (by decide +kernel)
set_option maxRecDepth 100000 in
theorem dL_law_944 : decode cL_law 944 = .ok (.iadd, 1) := dk_o96 (by decide +kernel)
set_option maxRecDepth 100000 in
theorem dL_law_945 : decode cL_law 945 = .ok (.iaload, 1) := dk_o46 (by decide +kernel)
set_option maxRecDepth 100000 in
theorem dL_law_946 : decode cL_law 946 = .ok (.aload_n 0, 1) := dk_o42 (by decide +kernel)
set_option maxRecDepth 100000 in
theorem dL_law_947 : decode cL_law 947 = .ok (.iload_n 3, 1) := dk_o29 (by decide +kernel)
set_option maxRecDepth 100000 in
theorem dL_law_948 : decode cL_law 948 = .ok (.iconst 3, 1) := dk_o6 (by decide +kernel)
set_option maxRecDepth 100000 in
theorem dL_law_949 : decode cL_law 949 = .ok (.iadd, 1) := dk_o96 (by decide +kernel)
set_option maxRecDepth 100000 in
theorem dL_law_950 : decode cL_law 950 = .ok (.iaload, 1) := dk_o46 (by decide +kernel)
set_option maxRecDepth 100000 in
theorem dL_law_951 : decode cL_law 951 = .ok (.invokevirtual 96, 3) := dk_o182 (a := 0) (b := 96) (by decide +kernel)
set_option maxRecDepth 100000 in
theorem dL_law_954 : decode cL_law 954 = .ok (.pop, 1) := dk_o87 (by decide +kernel)
set_option maxRecDepth 100000 in
theorem dL_law_955 : decode cL_law 955 = .ok (.goto 623, 3) := dk_o167 (a := 2) (b := 111) (by decide +kernel)
set_option maxRecDepth 100000 in
theorem dL_law_958 : decode cL_law 958 = .ok (.aload_n 1, 1) := dk_o43 (by decide +kernel)
set_option maxRecDepth 100000 in
theorem dL_law_959 : decode cL_law 959 = .ok (.aload_n 0, 1) := dk_o42 (by decide +kernel)
set_option maxRecDepth 100000 in
theorem dL_law_960 : decode cL_law 960 = .ok (.iload_n 3, 1) := dk_o29 (by decide +kernel)
set_option maxRecDepth 100000 in
theorem dL_law_961 : decode cL_law 961 = .ok (.iconst 1, 1) := dk_o4 (by decide +kernel)
set_option maxRecDepth 100000 in
theorem dL_law_962 : decode cL_law 962 = .ok (.iadd, 1) := dk_o96 (by decide +kernel)
set_option maxRecDepth 100000 in
theorem dL_law_963 : decode cL_law 963 = .ok (.iaload, 1) := dk_o46 (by decide +kernel)
set_option maxRecDepth 100000 in
theorem dL_law_964 : decode cL_law 964 = .ok (.aload_n 0, 1) := dk_o42 (by decide +kernel)
set_option maxRecDepth 100000 in
theorem dL_law_965 : decode cL_law 965 = .ok (.iload_n 3, 1) := dk_o29 (by decide +kernel)
set_option maxRecDepth 100000 in
theorem dL_law_966 : decode cL_law 966 = .ok (.iconst 2, 1) := dk_o5 (by decide +kernel)
set_option maxRecDepth 100000 in
theorem dL_law_967 : decode cL_law 967 = .ok (.iadd, 1) := dk_o96 (by decide +kernel)
set_option maxRecDepth 100000 in
theorem dL_law_968 : decode cL_law 968 = .ok (.iaload, 1) := dk_o46 (by decide +kernel)
set_option maxRecDepth 100000 in
theorem dL_law_969 : decode cL_law 969 = .ok (.invokevirtual 97, 3) := dk_o182 (a := 0) (b := 97) (by decide +kernel)
set_option maxRecDepth 100000 in
theorem dL_law_972 : decode cL_law 972 = .ok (.pop, 1) := dk_o87 (by decide +kernel)
set_option maxRecDepth 100000 in
theorem dL_law_973 : decode cL_law 973 = .ok (.aload_n 2, 1) := dk_o44 (by decide +kernel)
set_option maxRecDepth 100000 in
theorem dL_law_974 : decode cL_law 974 = .ok (.aload_n 0, 1) := dk_o42 (by decide +kernel)
set_option maxRecDepth 100000 in
theorem dL_law_975 : decode cL_law 975 = .ok (.iload_n 3, 1) := dk_o29 (by decide +kernel)
set_option maxRecDepth 100000 in
theorem dL_law_976 : decode cL_law 976 = .ok (.iconst 1, 1) := dk_o4 (by decide +kernel)
set_option maxRecDepth 100000 in
theorem dL_law_977 : decode cL_law 977 = .ok (.iadd, 1) := dk_o96 (by decide +kernel)
set_option maxRecDepth 100000 in
theorem dL_law_978 : decode cL_law 978 = .ok (.iaload, 1) := dk_o46 (by decide +kernel)
set_option maxRecDepth 100000 in
theorem dL_law_979 : decode cL_law 979 = .ok (.aload_n 0, 1) := dk_o42 (by decide +kernel)
set_option maxRecDepth 100000 in
theorem dL_law_980 : decode cL_law 980 = .ok (.iload_n 3, 1) := dk_o29 (by decide +kernel)
set_option maxRecDepth 100000 in
theorem dL_law_981 : decode cL_law 981 = .ok (.iconst 2, 1) := dk_o5 (by decide +kernel)
set_option maxRecDepth 100000 in
theorem dL_law_982 : decode cL_law 982 = .ok (.iadd, 1) := dk_o96 (by decide +kernel)
set_option maxRecDepth 100000 in
theorem dL_law_983 : decode cL_law 983 = .ok (.iaload, 1) := dk_o46 (by decide +kernel)
set_option maxRecDepth 100000 in
theorem dL_law_984 : decode cL_law 984 = .ok (.invokevirtual 100, 3) := dk_o182 (a := 0) (b := 100) (by decide +kernel)
set_option maxRecDepth 100000 in
theorem dL_law_987 : decode cL_law 987 = .ok (.pop, 1) := dk_o87 (by decide +kernel)
set_option maxRecDepth 100000 in
theorem dL_law_988 : decode cL_law 988 = .ok (.goto 590, 3) := dk_o167 (a := 2) (b := 78) (by decide +kernel)
set_option maxRecDepth 100000 in
theorem dL_law_991 : decode cL_law 991 = .ok (.aload_n 1, 1) := dk_o43 (by decide +kernel)
set_option maxRecDepth 100000 in
theorem dL_law_992 : decode cL_law 992 = .ok (.aload_n 0, 1) := dk_o42 (by decide +kernel)
set_option maxRecDepth 100000 in
theorem dL_law_993 : decode cL_law 993 = .ok (.iload_n 3, 1) := dk_o29 (by decide +kernel)
set_option maxRecDepth 100000 in
theorem dL_law_994 : decode cL_law 994 = .ok (.iconst 1, 1) := dk_o4 (by decide +kernel)
set_option maxRecDepth 100000 in
theorem dL_law_995 : decode cL_law 995 = .ok (.iadd, 1) := dk_o96 (by decide +kernel)
set_option maxRecDepth 100000 in
theorem dL_law_996 : decode cL_law 996 = .ok (.iaload, 1) := dk_o46 (by decide +kernel)
set_option maxRecDepth 100000 in
theorem dL_law_997 : decode cL_law 997 = .ok (.aload_n 0, 1) := dk_o42 (by decide +kernel)
set_option maxRecDepth 100000 in
theorem dL_law_998 : decode cL_law 998 = .ok (.iload_n 3, 1) := dk_o29 (by decide +kernel)
set_option maxRecDepth 100000 in
theorem dL_law_999 : decode cL_law 999 = .ok (.iconst 2, 1) := dk_o5 (by decide +kernel)
set_option maxRecDepth 100000 in
theorem dL_law_1000 : decode cL_law 1000 = .ok (.iadd, 1) := dk_o96 (by decide +kernel)
set_option maxRecDepth 100000 in
theorem dL_law_1001 : decode cL_law 1001 = .ok (.iaload, 1) := dk_o46 (by decide +kernel)
set_option maxRecDepth 100000 in
theorem dL_law_1002 : decode cL_law 1002 = .ok (.aload_n 0, 1) := dk_o42 (by decide +kernel)
set_option maxRecDepth 100000 in
theorem dL_law_1003 : decode cL_law 1003 = .ok (.iload_n 3, 1) := dk_o29 (by decide +kernel)
set_option maxRecDepth 100000 in
theorem dL_law_1004 : decode cL_law 1004 = .ok (.iconst 3, 1) := dk_o6 (by decide +kernel)
set_option maxRecDepth 100000 in
theorem dL_law_1005 : decode cL_law 1005 = .ok (.iadd, 1) := dk_o96 (by decide +kernel)
set_option maxRecDepth 100000 in
theorem dL_law_1006 : decode cL_law 1006 = .ok (.iaload, 1) := dk_o46 (by decide +kernel)
set_option maxRecDepth 100000 in
theorem dL_law_1007 : decode cL_law 1007 = .ok (.aload_n 0, 1) := dk_o42 (by decide +kernel)
set_option maxRecDepth 100000 in
theorem dL_law_1008 : decode cL_law 1008 = .ok (.iload_n 3, 1) := dk_o29 (by decide +kernel)
set_option maxRecDepth 100000 in
theorem dL_law_1009 : decode cL_law 1009 = .ok (.iconst 4, 1) := dk_o7 (by decide +kernel)
set_option maxRecDepth 100000 in
theorem dL_law_1010 : decode cL_law 1010 = .ok (.iadd, 1) := dk_o96 (by decide +kernel)
set_option maxRecDepth 100000 in
theorem dL_law_1011 : decode cL_law 1011 = .ok (.iaload, 1) := dk_o46 (by decide +kernel)
set_option maxRecDepth 100000 in
theorem dL_law_1012 : decode cL_law 1012 = .ok (.invokevirtual 101, 3) := dk_o182 (a := 0) (b := 101) (by decide +kernel)
set_option maxRecDepth 100000 in
theorem dL_law_1015 : decode cL_law 1015 = .ok (.pop, 1) := dk_o87 (by decide +kernel)
set_option maxRecDepth 100000 in
theorem dL_law_1016 : decode cL_law 1016 = .ok (.aload_n 2, 1) := dk_o44 (by decide +kernel)
set_option maxRecDepth 100000 in
theorem dL_law_1017 : decode cL_law 1017 = .ok (.aload_n 0, 1) := dk_o42 (by decide +kernel)
set_option maxRecDepth 100000 in
theorem dL_law_1018 : decode cL_law 1018 = .ok (.iload_n 3, 1) := dk_o29 (by decide +kernel)
set_option maxRecDepth 100000 in
theorem dL_law_1019 : decode cL_law 1019 = .ok (.iconst 1, 1) := dk_o4 (by decide +kernel)
set_option maxRecDepth 100000 in
theorem dL_law_1020 : decode cL_law 1020 = .ok (.iadd, 1) := dk_o96 (by decide +kernel)
set_option maxRecDepth 100000 in
theorem dL_law_1021 : decode cL_law 1021 = .ok (.iaload, 1) := dk_o46 (by decide +kernel)
set_option maxRecDepth 100000 in
theorem dL_law_1022 : decode cL_law 1022 = .ok (.aload_n 0, 1) := dk_o42 (by decide +kernel)
set_option maxRecDepth 100000 in
theorem dL_law_1023 : decode cL_law 1023 = .ok (.iload_n 3, 1) := dk_o29 (by decide +kernel)
set_option maxRecDepth 100000 in
theorem dL_law_1024 : decode cL_law 1024 = .ok (.iconst 2, 1) := dk_o5 (by decide +kernel)
set_option maxRecDepth 100000 in
theorem dL_law_1025 : decode cL_law 1025 = .ok (.iadd, 1) := dk_o96 (by decide +kernel)
set_option maxRecDepth 100000 in
theorem dL_law_1026 : decode cL_law 1026 = .ok (.iaload, 1) := dk_o46 (by decide +kernel)
set_option maxRecDepth 100000 in
theorem dL_law_1027 : decode cL_law 1027 = .ok (.aload_n 0, 1) := dk_o42 (by decide +kernel)
set_option maxRecDepth 100000 in
theorem dL_law_1028 : decode cL_law 1028 = .ok (.iload_n 3, 1) := dk_o29 (by decide +kernel)
set_option maxRecDepth 100000 in
theorem dL_law_1029 : decode cL_law 1029 = .ok (.iconst 3, 1) := dk_o6 (by decide +kernel)
set_option maxRecDepth 100000 in
theorem dL_law_1030 : decode cL_law 1030 = .ok (.iadd, 1) := dk_o96 (by decide +kernel)
set_option maxRecDepth 100000 in
theorem dL_law_1031 : decode cL_law 1031 = .ok (.iaload, 1) := dk_o46 (by decide +kernel)
set_option maxRecDepth 100000 in
theorem dL_law_1032 : decode cL_law 1032 = .ok (.aload_n 0, 1) := dk_o42 (by decide +kernel)
set_option maxRecDepth 100000 in
theorem dL_law_1033 : decode cL_law 1033 = .ok (.iload_n 3, 1) := dk_o29 (by decide +kernel)
set_option maxRecDepth 100000 in
theorem dL_law_1034 : decode cL_law 1034 = .ok (.iconst 4, 1) := dk_o7 (by decide +kernel)
set_option maxRecDepth 100000 in
theorem dL_law_1035 : decode cL_law 1035 = .ok (.iadd, 1) := dk_o96 (by decide +kernel)
set_option maxRecDepth 100000 in
theorem dL_law_1036 : decode cL_law 1036 = .ok (.iaload, 1) := dk_o46 (by decide +kernel)
set_option maxRecDepth 100000 in
theorem dL_law_1037 : decode cL_law 1037 = .ok (.invokevirtual 105, 3) := dk_o182 (a := 0) (b := 105) (by decide +kernel)
set_option maxRecDepth 100000 in
theorem dL_law_1040 : decode cL_law 1040 = .ok (.pop, 1) := dk_o87 (by decide +kernel)
set_option maxRecDepth 100000 in
theorem dL_law_1041 : decode cL_law 1041 = .ok (.goto 537, 3) := dk_o167 (a := 2) (b := 25) (by decide +kernel)
set_option maxRecDepth 100000 in
theorem dL_law_1044 : decode cL_law 1044 = .ok (.aload_n 1, 1) := dk_o43 (by decide +kernel)
set_option maxRecDepth 100000 in
theorem dL_law_1045 : decode cL_law 1045 = .ok (.aload_n 0, 1) := dk_o42 (by decide +kernel)
set_option maxRecDepth 100000 in
theorem dL_law_1046 : decode cL_law 1046 = .ok (.iload_n 3, 1) := dk_o29 (by decide +kernel)
set_option maxRecDepth 100000 in
theorem dL_law_1047 : decode cL_law 1047 = .ok (.iconst 1, 1) := dk_o4 (by decide +kernel)
set_option maxRecDepth 100000 in
theorem dL_law_1048 : decode cL_law 1048 = .ok (.iadd, 1) := dk_o96 (by decide +kernel)
set_option maxRecDepth 100000 in
theorem dL_law_1049 : decode cL_law 1049 = .ok (.iaload, 1) := dk_o46 (by decide +kernel)
set_option maxRecDepth 100000 in
theorem dL_law_1050 : decode cL_law 1050 = .ok (.invokevirtual 106, 3) := dk_o182 (a := 0) (b := 106) (by decide +kernel)
set_option maxRecDepth 100000 in
theorem dL_law_1053 : decode cL_law 1053 = .ok (.pop, 1) := dk_o87 (by decide +kernel)
set_option maxRecDepth 100000 in
theorem dL_law_1054 : decode cL_law 1054 = .ok (.aload_n 2, 1) := dk_o44 (by decide +kernel)
set_option maxRecDepth 100000 in
theorem dL_law_1055 : decode cL_law 1055 = .ok (.aload_n 0, 1) := dk_o42 (by decide +kernel)
set_option maxRecDepth 100000 in
theorem dL_law_1056 : decode cL_law 1056 = .ok (.iload_n 3, 1) := dk_o29 (by decide +kernel)
set_option maxRecDepth 100000 in
theorem dL_law_1057 : decode cL_law 1057 = .ok (.iconst 1, 1) := dk_o4 (by decide +kernel)
set_option maxRecDepth 100000 in
theorem dL_law_1058 : decode cL_law 1058 = .ok (.iadd, 1) := dk_o96 (by decide +kernel)
set_option maxRecDepth 100000 in
theorem dL_law_1059 : decode cL_law 1059 = .ok (.iaload, 1) := dk_o46 (by decide +kernel)
set_option maxRecDepth 100000 in
theorem dL_law_1060 : decode cL_law 1060 = .ok (.invokevirtual 109, 3) := dk_o182 (a := 0) (b := 109) (by decide +kernel)
set_option maxRecDepth 100000 in
theorem dL_law_1063 : decode cL_law 1063 = .ok (.pop, 1) := dk_o87 (by decide +kernel)
set_option maxRecDepth 100000 in
theorem dL_law_1064 : decode cL_law 1064 = .ok (.goto 514, 3) := dk_o167 (a := 2) (b := 2) (by decide +kernel)
set_option maxRecDepth 100000 in
theorem dL_law_1067 : decode cL_law 1067 = .ok (.aload_n 1, 1) := dk_o43 (by decide +kernel)
set_option maxRecDepth 100000 in
theorem dL_law_1068 : decode cL_law 1068 = .ok (.aload_n 0, 1) := dk_o42 (by decide +kernel)
set_option maxRecDepth 100000 in
theorem dL_law_1069 : decode cL_law 1069 = .ok (.iload_n 3, 1) := dk_o29 (by decide +kernel)
set_option maxRecDepth 100000 in
theorem dL_law_1070 : decode cL_law 1070 = .ok (.iconst 1, 1) := dk_o4 (by decide +kernel)
set_option maxRecDepth 100000 in
theorem dL_law_1071 : decode cL_law 1071 = .ok (.iadd, 1) := dk_o96 (by decide +kernel)
set_option maxRecDepth 100000 in
theorem dL_law_1072 : decode cL_law 1072 = .ok (.iaload, 1) := dk_o46 (by decide +kernel)
set_option maxRecDepth 100000 in
theorem dL_law_1073 : decode cL_law 1073 = .ok (.aload_n 0, 1) := dk_o42 (by decide +kernel)
set_option maxRecDepth 100000 in
theorem dL_law_1074 : decode cL_law 1074 = .ok (.iload_n 3, 1) := dk_o29 (by decide +kernel)
set_option maxRecDepth 100000 in
theorem dL_law_1075 : decode cL_law 1075 = .ok (.iconst 2, 1) := dk_o5 (by decide +kernel)
set_option maxRecDepth 100000 in
theorem dL_law_1076 : decode cL_law 1076 = .ok (.iadd, 1) := dk_o96 (by decide +kernel)
set_option maxRecDepth 100000 in
theorem dL_law_1077 : decode cL_law 1077 = .ok (.iaload, 1) := dk_o46 (by decide +kernel)
set_option maxRecDepth 100000 in
theorem dL_law_1078 : decode cL_law 1078 = .ok (.invokevirtual 110, 3) := dk_o182 (a := 0) (b := 110) (by decide +kernel)
set_option maxRecDepth 100000 in
theorem dL_law_1081 : decode cL_law 1081 = .ok (.pop, 1) := dk_o87 (by decide +kernel)
set_option maxRecDepth 100000 in
theorem dL_law_1082 : decode cL_law 1082 = .ok (.aload_n 2, 1) := dk_o44 (by decide +kernel)
set_option maxRecDepth 100000 in
theorem dL_law_1083 : decode cL_law 1083 = .ok (.aload_n 0, 1) := dk_o42 (by decide +kernel)
set_option maxRecDepth 100000 in
theorem dL_law_1084 : decode cL_law 1084 = .ok (.iload_n 3, 1) := dk_o29 (by decide +kernel)
set_option maxRecDepth 100000 in
theorem dL_law_1085 : decode cL_law 1085 = .ok (.iconst 1, 1) := dk_o4 (by decide +kernel)
set_option maxRecDepth 100000 in
theorem dL_law_1086 : decode cL_law 1086 = .ok (.iadd, 1) := dk_o96 (by decide +kernel)
set_option maxRecDepth 100000 in
theorem dL_law_1087 : decode cL_law 1087 = .ok (.iaload, 1) := dk_o46 (by decide +kernel)
set_option maxRecDepth 100000 in
theorem dL_law_1088 : decode cL_law 1088 = .ok (.aload_n 0, 1) := dk_o42 (by decide +kernel)
set_option maxRecDepth 100000 in
theorem dL_law_1089 : decode cL_law 1089 = .ok (.iload_n 3, 1) := dk_o29 (by decide +kernel)
set_option maxRecDepth 100000 in
theorem dL_law_1090 : decode cL_law 1090 = .ok (.iconst 2, 1) := dk_o5 (by decide +kernel)
set_option maxRecDepth 100000 in
theorem dL_law_1091 : decode cL_law 1091 = .ok (.iadd, 1) := dk_o96 (by decide +kernel)
set_option maxRecDepth 100000 in
theorem dL_law_1092 : decode cL_law 1092 = .ok (.iaload, 1) := dk_o46 (by decide +kernel)
set_option maxRecDepth 100000 in
theorem dL_law_1093 : decode cL_law 1093 = .ok (.invokevirtual 113, 3) := dk_o182 (a := 0) (b := 113) (by decide +kernel)
set_option maxRecDepth 100000 in
theorem dL_law_1096 : decode cL_law 1096 = .ok (.pop, 1) := dk_o87 (by decide +kernel)
set_option maxRecDepth 100000 in
theorem dL_law_1097 : decode cL_law 1097 = .ok (.goto 481, 3) := dk_o167 (a := 1) (b := 225) (by decide +kernel)
set_option maxRecDepth 100000 in
theorem dL_law_1100 : decode cL_law 1100 = .ok (.aload_n 1, 1) := dk_o43 (by decide +kernel)
set_option maxRecDepth 100000 in
theorem dL_law_1101 : decode cL_law 1101 = .ok (.invokevirtual 114, 3) := dk_o182 (a := 0) (b := 114) (by decide +kernel)
set_option maxRecDepth 100000 in
theorem dL_law_1104 : decode cL_law 1104 = .ok (.pop, 1) := dk_o87 (by decide +kernel)
set_option maxRecDepth 100000 in
theorem dL_law_1105 : decode cL_law 1105 = .ok (.aload_n 2, 1) := dk_o44 (by decide +kernel)
set_option maxRecDepth 100000 in
theorem dL_law_1106 : decode cL_law 1106 = .ok (.invokevirtual 117, 3) := dk_o182 (a := 0) (b := 117) (by decide +kernel)
set_option maxRecDepth 100000 in
theorem dL_law_1109 : decode cL_law 1109 = .ok (.pop, 1) := dk_o87 (by decide +kernel)
set_option maxRecDepth 100000 in
theorem dL_law_1110 : decode cL_law 1110 = .ok (.goto 468, 3) := dk_o167 (a := 1) (b := 212) (by decide +kernel)
set_option maxRecDepth 100000 in
theorem dL_law_1113 : decode cL_law 1113 = .ok (.aload_n 1, 1) := dk_o43 (by decide +kernel)
set_option maxRecDepth 100000 in
theorem dL_law_1114 : decode cL_law 1114 = .ok (.aload_n 0, 1) := dk_o42 (by decide +kernel)
set_option maxRecDepth 100000 in
theorem dL_law_1115 : decode cL_law 1115 = .ok (.iload_n 3, 1) := dk_o29 (by decide +kernel)
set_option maxRecDepth 100000 in
theorem dL_law_1116 : decode cL_law 1116 = .ok (.iconst 1, 1) := dk_o4 (by decide +kernel)
set_option maxRecDepth 100000 in
theorem dL_law_1117 : decode cL_law 1117 = .ok (.iadd, 1) := dk_o96 (by decide +kernel)
set_option maxRecDepth 100000 in
theorem dL_law_1118 : decode cL_law 1118 = .ok (.iaload, 1) := dk_o46 (by decide +kernel)
set_option maxRecDepth 100000 in
theorem dL_law_1119 : decode cL_law 1119 = .ok (.invokevirtual 118, 3) := dk_o182 (a := 0) (b := 118) (by decide +kernel)
set_option maxRecDepth 100000 in
theorem dL_law_1122 : decode cL_law 1122 = .ok (.pop, 1) := dk_o87 (by decide +kernel)
set_option maxRecDepth 100000 in
theorem dL_law_1123 : decode cL_law 1123 = .ok (.aload_n 2, 1) := dk_o44 (by decide +kernel)
set_option maxRecDepth 100000 in
theorem dL_law_1124 : decode cL_law 1124 = .ok (.aload_n 0, 1) := dk_o42 (by decide +kernel)
set_option maxRecDepth 100000 in
theorem dL_law_1125 : decode cL_law 1125 = .ok (.iload_n 3, 1) := dk_o29 (by decide +kernel)
set_option maxRecDepth 100000 in
theorem dL_law_1126 : decode cL_law 1126 = .ok (.iconst 1, 1) := dk_o4 (by decide +kernel)
set_option maxRecDepth 100000 in
theorem dL_law_1127 : decode cL_law 1127 = .ok (.iadd, 1) := dk_o96 (by decide +kernel)
set_option maxRecDepth 100000 in
theorem dL_law_1128 : decode cL_law 1128 = .ok (.iaload, 1) := dk_o46 (by decide +kernel)
set_option maxRecDepth 100000 in
theorem dL_law_1129 : decode cL_law 1129 = .ok (.invokevirtual 121, 3) := dk_o182 (a := 0) (b := 121) (by decide +kernel)
set_option maxRecDepth 100000 in
theorem dL_law_1132 : decode cL_law 1132 = .ok (.pop, 1) := dk_o87 (by decide +kernel)
set_option maxRecDepth 100000 in
theorem dL_law_1133 : decode cL_law 1133 = .ok (.goto 445, 3) := dk_o167 (a := 1) (b := 189) (by decide +kernel)
set_option maxRecDepth 100000 in
theorem dL_law_1136 : decode cL_law 1136 = .ok (.aload_n 1, 1) := dk_o43 (by decide +kernel)
set_option maxRecDepth 100000 in
theorem dL_law_1137 : decode cL_law 1137 = .ok (.invokevirtual 122, 3) := dk_o182 (a := 0) (b := 122) (by decide +kernel)
set_option maxRecDepth 100000 in
theorem dL_law_1140 : decode cL_law 1140 = .ok (.pop, 1) := dk_o87 (by decide +kernel)
set_option maxRecDepth 100000 in
theorem dL_law_1141 : decode cL_law 1141 = .ok (.aload_n 2, 1) := dk_o44 (by decide +kernel)
set_option maxRecDepth 100000 in
theorem dL_law_1142 : decode cL_law 1142 = .ok (.invokevirtual 125, 3) := dk_o182 (a := 0) (b := 125) (by decide +kernel)
set_option maxRecDepth 100000 in
theorem dL_law_1145 : decode cL_law 1145 = .ok (.pop, 1) := dk_o87 (by decide +kernel)
set_option maxRecDepth 100000 in
theorem dL_law_1146 : decode cL_law 1146 = .ok (.goto 432, 3) := dk_o167 (a := 1) (b := 176) (by decide +kernel)
set_option maxRecDepth 100000 in
theorem dL_law_1149 : decode cL_law 1149 = .ok (.aload_n 1, 1) := dk_o43 (by decide +kernel)
set_option maxRecDepth 100000 in
theorem dL_law_1150 : decode cL_law 1150 = .ok (.invokevirtual 126, 3) := dk_o182 (a := 0) (b := 126) (by decide +kernel)
set_option maxRecDepth 100000 in
theorem dL_law_1153 : decode cL_law 1153 = .ok (.aload_n 2, 1) := dk_o44 (by decide +kernel)
set_option maxRecDepth 100000 in
theorem dL_law_1154 : decode cL_law 1154 = .ok (.invokevirtual 129, 3) := dk_o182 (a := 0) (b := 129) (by decide +kernel)
set_option maxRecDepth 100000 in
theorem dL_law_1157 : decode cL_law 1157 = .ok (.if_icmp .eq 421, 3) := dk_o159 (a := 1) (b := 165) (by decide +kernel)
set_option maxRecDepth 100000 in
theorem dL_law_1162 : decode cL_law 1162 = .ok (.aload_n 1, 1) := dk_o43 (by decide +kernel)
set_option maxRecDepth 100000 in
theorem dL_law_1163 : decode cL_law 1163 = .ok (.invokevirtual 130, 3) := dk_o182 (a := 0) (b := 130) (by decide +kernel)
set_option maxRecDepth 100000 in
theorem dL_law_1166 : decode cL_law 1166 = .ok (.pop, 1) := dk_o87 (by decide +kernel)
set_option maxRecDepth 100000 in
theorem dL_law_1167 : decode cL_law 1167 = .ok (.aload_n 2, 1) := dk_o44 (by decide +kernel)
set_option maxRecDepth 100000 in
theorem dL_law_1168 : decode cL_law 1168 = .ok (.invokevirtual 133, 3) := dk_o182 (a := 0) (b := 133) (by decide +kernel)
set_option maxRecDepth 100000 in
theorem dL_law_1171 : decode cL_law 1171 = .ok (.pop, 1) := dk_o87 (by decide +kernel)
set_option maxRecDepth 100000 in
theorem dL_law_1172 : decode cL_law 1172 = .ok (.goto 406, 3) := dk_o167 (a := 1) (b := 150) (by decide +kernel)
set_option maxRecDepth 100000 in
theorem dL_law_1175 : decode cL_law 1175 = .ok (.aload_n 1, 1) := dk_o43 (by decide +kernel)
set_option maxRecDepth 100000 in
theorem dL_law_1176 : decode cL_law 1176 = .ok (.invokevirtual 134, 3) := dk_o182 (a := 0) (b := 134) (by decide +kernel)
set_option maxRecDepth 100000 in
theorem dL_law_1179 : decode cL_law 1179 = .ok (.pop, 1) := dk_o87 (by decide +kernel)
set_option maxRecDepth 100000 in
theorem dL_law_1180 : decode cL_law 1180 = .ok (.aload_n 2, 1) := dk_o44 (by decide +kernel)
set_option maxRecDepth 100000 in
theorem dL_law_1181 : decode cL_law 1181 = .ok (.invokevirtual 137, 3) := dk_o182 (a := 0) (b := 137) (by decide +kernel)
set_option maxRecDepth 100000 in
theorem dL_law_1184 : decode cL_law 1184 = .ok (.pop, 1) := dk_o87 (by decide +kernel)
set_option maxRecDepth 100000 in
theorem dL_law_1185 : decode cL_law 1185 = .ok (.goto 393, 3) := dk_o167 (a := 1) (b := 137) (by decide +kernel)
set_option maxRecDepth 100000 in
theorem dL_law_1188 : decode cL_law 1188 = .ok (.aload_n 1, 1) := dk_o43 (by decide +kernel)
set_option maxRecDepth 100000 in
theorem dL_law_1189 : decode cL_law 1189 = .ok (.aload_n 0, 1) := dk_o42 (by decide +kernel)
set_option maxRecDepth 100000 in
theorem dL_law_1190 : decode cL_law 1190 = .ok (.iload_n 3, 1) := dk_o29 (by decide +kernel)
set_option maxRecDepth 100000 in
theorem dL_law_1191 : decode cL_law 1191 = .ok (.iconst 1, 1) := dk_o4 (by decide +kernel)
set_option maxRecDepth 100000 in
theorem dL_law_1192 : decode cL_law 1192 = .ok (.iadd, 1) := dk_o96 (by decide +kernel)
set_option maxRecDepth 100000 in
theorem dL_law_1193 : decode cL_law 1193 = .ok (.iaload, 1) := dk_o46 (by decide +kernel)
set_option maxRecDepth 100000 in
theorem dL_law_1194 : decode cL_law 1194 = .ok (.invokevirtual 138, 3) := dk_o182 (a := 0) (b := 138) (by decide +kernel)
set_option maxRecDepth 100000 in
theorem dL_law_1197 : decode cL_law 1197 = .ok (.pop, 1) := dk_o87 (by decide +kernel)
set_option maxRecDepth 100000 in
theorem dL_law_1198 : decode cL_law 1198 = .ok (.aload_n 2, 1) := dk_o44 (by decide +kernel)
set_option maxRecDepth 100000 in
theorem dL_law_1199 : decode cL_law 1199 = .ok (.aload_n 0, 1) := dk_o42 (by decide +kernel)
set_option maxRecDepth 100000 in
theorem dL_law_1200 : decode cL_law 1200 = .ok (.iload_n 3, 1) := dk_o29 (by decide +kernel)
set_option maxRecDepth 100000 in
theorem dL_law_1201 : decode cL_law 1201 = .ok (.iconst 1, 1) := dk_o4 (by decide +kernel)
set_option maxRecDepth 100000 in
theorem dL_law_1202 : decode cL_law 1202 = .ok (.iadd, 1) := dk_o96 (by decide +kernel)
set_option maxRecDepth 100000 in
theorem dL_law_1203 : decode cL_law 1203 = .ok (.iaload, 1) := dk_o46 (by decide +kernel)
set_option maxRecDepth 100000 in
theorem dL_law_1204 : decode cL_law 1204 = .ok (.invokevirtual 141, 3) := dk_o182 (a := 0) (b := 141) (by decide +kernel)
set_option maxRecDepth 100000 in
theorem dL_law_1207 : decode cL_law 1207 = .ok (.pop, 1) := dk_o87 (by decide +kernel)
set_option maxRecDepth 100000 in
theorem dL_law_1208 : decode cL_law 1208 = .ok (.goto 370, 3) := dk_o167 (a := 1) (b := 114) (by decide +kernel)
set_option maxRecDepth 100000 in
theorem dL_law_1211 : decode cL_law 1211 = .ok (.aload_n 1, 1) := dk_o43 (by decide +kernel)
set_option maxRecDepth 100000 in
theorem dL_law_1212 : decode cL_law 1212 = .ok (.aload_n 0, 1) := dk_o42 (by decide +kernel)
set_option maxRecDepth 100000 in
theorem dL_law_1213 : decode cL_law 1213 = .ok (.iload_n 3, 1) := dk_o29 (by decide +kernel)
set_option maxRecDepth 100000 in
theorem dL_law_1214 : decode cL_law 1214 = .ok (.iconst 1, 1) := dk_o4 (by decide +kernel)
set_option maxRecDepth 100000 in
theorem dL_law_1215 : decode cL_law 1215 = .ok (.iadd, 1) := dk_o96 (by decide +kernel)
set_option maxRecDepth 100000 in
theorem dL_law_1216 : decode cL_law 1216 = .ok (.iaload, 1) := dk_o46 (by decide +kernel)
set_option maxRecDepth 100000 in
theorem dL_law_1217 : decode cL_law 1217 = .ok (.aload_n 0, 1) := dk_o42 (by decide +kernel)
set_option maxRecDepth 100000 in
theorem dL_law_1218 : decode cL_law 1218 = .ok (.iload_n 3, 1) := dk_o29 (by decide +kernel)
set_option maxRecDepth 100000 in
theorem dL_law_1219 : decode cL_law 1219 = .ok (.iconst 2, 1) := dk_o5 (by decide +kernel)
set_option maxRecDepth 100000 in
theorem dL_law_1220 : decode cL_law 1220 = .ok (.iadd, 1) := dk_o96 (by decide +kernel)
set_option maxRecDepth 100000 in
theorem dL_law_1221 : decode cL_law 1221 = .ok (.iaload, 1) := dk_o46 (by decide +kernel)
set_option maxRecDepth 100000 in
theorem dL_law_1222 : decode cL_law 1222 = .ok (.aload_n 0, 1) := dk_o42 (by decide +kernel)
set_option maxRecDepth 100000 in
theorem dL_law_1223 : decode cL_law 1223 = .ok (.iload_n 3, 1) := dk_o29 (by decide +kernel)
set_option maxRecDepth 100000 in
theorem dL_law_1224 : decode cL_law 1224 = .ok (.iconst 3, 1) := dk_o6 (by decide +kernel)
set_option maxRecDepth 100000 in
theorem dL_law_1225 : decode cL_law 1225 = .ok (.iadd, 1) := dk_o96 (by decide +kernel)
set_option maxRecDepth 100000 in
theorem dL_law_1226 : decode cL_law 1226 = .ok (.iaload, 1) := dk_o46 (by decide +kernel)
set_option maxRecDepth 100000 in
theorem dL_law_1227 : decode cL_law 1227 = .ok (.invokevirtual 142, 3) := dk_o182 (a := 0) (b := 142) (by decide +kernel)
set_option maxRecDepth 100000 in
theorem dL_law_1230 : decode cL_law 1230 = .ok (.pop, 1) := dk_o87 (by decide +kernel)
set_option maxRecDepth 100000 in
theorem dL_law_1231 : decode cL_law 1231 = .ok (.aload_n 2, 1) := dk_o44 (by decide +kernel)
set_option maxRecDepth 100000 in
theorem dL_law_1232 : decode cL_law 1232 = .ok (.aload_n 0, 1) := dk_o42 (by decide +kernel)
set_option maxRecDepth 100000 in
theorem dL_law_1233 : decode cL_law 1233 = .ok (.iload_n 3, 1) := dk_o29 (by decide +kernel)
set_option maxRecDepth 100000 in
theorem dL_law_1234 : decode cL_law 1234 = .ok (.iconst 1, 1) := dk_o4 (by decide +kernel)
set_option maxRecDepth 100000 in
theorem dL_law_1235 : decode cL_law 1235 = .ok (.iadd, 1) := dk_o96 (by decide +kernel)
set_option maxRecDepth 100000 in
theorem dL_law_1236 : decode cL_law 1236 = .ok (.iaload, 1) := dk_o46 (by decide +kernel)
set_option maxRecDepth 100000 in
theorem dL_law_1237 : decode cL_law 1237 = .ok (.aload_n 0, 1) := dk_o42 (by decide +kernel)
set_option maxRecDepth 100000 in
theorem dL_law_1238 : decode cL_law 1238 = .ok (.iload_n 3, 1) := dk_o29 (by decide +kernel)
set_option maxRecDepth 100000 in
theorem dL_law_1239 : decode cL_law 1239 = .ok (.iconst 2, 1) := dk_o5 (by decide +kernel)
set_option maxRecDepth 100000 in
theorem dL_law_1240 : decode cL_law 1240 = .ok (.iadd, 1) := dk_o96 (by decide +kernel)
set_option maxRecDepth 100000 in
theorem dL_law_1241 : decode cL_law 1241 = .ok (.iaload, 1) := dk_o46 (by decide +kernel)
set_option maxRecDepth 100000 in
theorem dL_law_1242 : decode cL_law 1242 = .ok (.aload_n 0, 1) := dk_o42 (by decide +kernel)
set_option maxRecDepth 100000 in
theorem dL_law_1243 : decode cL_law 1243 = .ok (.iload_n 3, 1) := dk_o29 (by decide +kernel)
set_option maxRecDepth 100000 in
theorem dL_law_1244 : decode cL_law 1244 = .ok (.iconst 3, 1) := dk_o6 (by decide +kernel)
set_option maxRecDepth 100000 in
theorem dL_law_1245 : decode cL_law 1245 = .ok (.iadd, 1) := dk_o96 (by decide +kernel)
set_option maxRecDepth 100000 in
theorem dL_law_1246 : decode cL_law 1246 = .ok (.iaload, 1) := dk_o46 (by decide +kernel)
set_option maxRecDepth 100000 in
theorem dL_law_1247 : decode cL_law 1247 = .ok (.invokevirtual 145, 3) := dk_o182 (a := 0) (b := 145) (by decide +kernel)
set_option maxRecDepth 100000 in
theorem dL_law_1250 : decode cL_law 1250 = .ok (.pop, 1) := dk_o87 (by decide +kernel)
set_option maxRecDepth 100000 in
theorem dL_law_1251 : decode cL_law 1251 = .ok (.goto 327, 3) := dk_o167 (a := 1) (b := 71) (by decide +kernel)
set_option maxRecDepth 100000 in
theorem dL_law_1254 : decode cL_law 1254 = .ok (.aload_n 1, 1) := dk_o43 (by decide +kernel)
set_option maxRecDepth 100000 in
theorem dL_law_1255 : decode cL_law 1255 = .ok (.aload_n 0, 1) := dk_o42 (by decide +kernel)
set_option maxRecDepth 100000 in
theorem dL_law_1256 : decode cL_law 1256 = .ok (.iload_n 3, 1) := dk_o29 (by decide +kernel)
set_option maxRecDepth 100000 in
theorem dL_law_1257 : decode cL_law 1257 = .ok (.iconst 1, 1) := dk_o4 (by decide +kernel)
set_option maxRecDepth 100000 in
theorem dL_law_1258 : decode cL_law 1258 = .ok (.iadd, 1) := dk_o96 (by decide +kernel)
set_option maxRecDepth 100000 in
theorem dL_law_1259 : decode cL_law 1259 = .ok (.iaload, 1) := dk_o46 (by decide +kernel)
set_option maxRecDepth 100000 in
theorem dL_law_1260 : decode cL_law 1260 = .ok (.invokevirtual 146, 3) := dk_o182 (a := 0) (b := 146) (by decide +kernel)
set_option maxRecDepth 100000 in
theorem dL_law_1263 : decode cL_law 1263 = .ok (.pop, 1) := dk_o87 (by decide +kernel)
set_option maxRecDepth 100000 in
theorem dL_law_1264 : decode cL_law 1264 = .ok (.aload_n 2, 1) := dk_o44 (by decide +kernel)
set_option maxRecDepth 100000 in
theorem dL_law_1265 : decode cL_law 1265 = .ok (.aload_n 0, 1) := dk_o42 (by decide +kernel)
set_option maxRecDepth 100000 in
theorem dL_law_1266 : decode cL_law 1266 = .ok (.iload_n 3, 1) := dk_o29 (by decide +kernel)
set_option maxRecDepth 100000 in
theorem dL_law_1267 : decode cL_law 1267 = .ok (.iconst 1, 1) := dk_o4 (by decide +kernel)
set_option maxRecDepth 100000 in
theorem dL_law_1268 : decode cL_law 1268 = .ok (.iadd, 1) := dk_o96 (by decide +kernel)
set_option maxRecDepth 100000 in
theorem dL_law_1269 : decode cL_law 1269 = .ok (.iaload, 1) := dk_o46 (by decide +kernel)
set_option maxRecDepth 100000 in
theorem dL_law_1270 : decode cL_law 1270 = .ok (.invokevirtual 149, 3) := dk_o182 (a := 0) (b := 149) (by decide +kernel)
set_option maxRecDepth 100000 in
theorem dL_law_1273 : decode cL_law 1273 = .ok (.pop, 1) := dk_o87 (by decide +kernel)
set_option maxRecDepth 100000 in
theorem dL_law_1274 : decode cL_law 1274 = .ok (.goto 304, 3) := dk_o167 (a := 1) (b := 48) (by decide +kernel)
set_option maxRecDepth 100000 in
theorem dL_law_1277 : decode cL_law 1277 = .ok (.aload_n 1, 1) := dk_o43 (by decide +kernel)
set_option maxRecDepth 100000 in
theorem dL_law_1278 : decode cL_law 1278 = .ok (.aload_n 0, 1) := dk_o42 (by decide +kernel)
set_option maxRecDepth 100000 in
theorem dL_law_1279 : decode cL_law 1279 = .ok (.iload_n 3, 1) := dk_o29 (by decide +kernel)
set_option maxRecDepth 100000 in
theorem dL_law_1280 : decode cL_law 1280 = .ok (.iconst 1, 1) := dk_o4 (by decide +kernel)
set_option maxRecDepth 100000 in
theorem dL_law_1281 : decode cL_law 1281 = .ok (.iadd, 1) := dk_o96 (by decide +kernel)
set_option maxRecDepth 100000 in
theorem dL_law_1282 : decode cL_law 1282 = .ok (.iaload, 1) := dk_o46 (by decide +kernel)
set_option maxRecDepth 100000 in
theorem dL_law_1283 : decode cL_law 1283 = .ok (.aload_n 0, 1) := dk_o42 (by decide +kernel)
set_option maxRecDepth 100000 in
theorem dL_law_1284 : decode cL_law 1284 = .ok (.iload_n 3, 1) := dk_o29 (by decide +kernel)
set_option maxRecDepth 100000 in
theorem dL_law_1285 : decode cL_law 1285 = .ok (.iconst 2, 1) := dk_o5 (by decide +kernel)
set_option maxRecDepth 100000 in
theorem dL_law_1286 : decode cL_law 1286 = .ok (.iadd, 1) := dk_o96 (by decide +kernel)
set_option maxRecDepth 100000 in
theorem dL_law_1287 : decode cL_law 1287 = .ok (.iaload, 1) := dk_o46 (by decide +kernel)
set_option maxRecDepth 100000 in
theorem dL_law_1288 : decode cL_law 1288 = .ok (.invokevirtual 150, 3) := dk_o182 (a := 0) (b := 150) (by decide +kernel)
set_option maxRecDepth 100000 in
theorem dL_law_1291 : decode cL_law 1291 = .ok (.pop, 1) := dk_o87 (by decide +kernel)
set_option maxRecDepth 100000 in
theorem dL_law_1292 : decode cL_law 1292 = .ok (.aload_n 2, 1) := dk_o44 (by decide +kernel)
set_option maxRecDepth 100000 in
theorem dL_law_1293 : decode cL_law 1293 = .ok (.aload_n 0, 1) := dk_o42 (by decide +kernel)
set_option maxRecDepth 100000 in
theorem dL_law_1294 : decode cL_law 1294 = .ok (.iload_n 3, 1) := dk_o29 (by decide +kernel)
set_option maxRecDepth 100000 in
theorem dL_law_1295 : decode cL_law 1295 = .ok (.iconst 1, 1) := dk_o4 (by decide +kernel)
set_option maxRecDepth 100000 in
theorem dL_law_1296 : decode cL_law 1296 = .ok (.iadd, 1) := dk_o96 (by decide +kernel)
set_option maxRecDepth 100000 in
theorem dL_law_1297 : decode cL_law 1297 = .ok (.iaload, 1) := dk_o46 (by decide +kernel)
set_option maxRecDepth 100000 in
theorem dL_law_1298 : decode cL_law 1298 = .ok (.aload_n 0, 1) := dk_o42 (by decide +kernel)
set_option maxRecDepth 100000 in
theorem dL_law_1299 : decode cL_law 1299 = .ok (.iload_n 3, 1) := dk_o29 (by decide +kernel)
set_option maxRecDepth 100000 in
theorem dL_law_1300 : decode cL_law 1300 = .ok (.iconst 2, 1) := dk_o5 (by decide +kernel)
set_option maxRecDepth 100000 in
theorem dL_law_1301 : decode cL_law 1301 = .ok (.iadd, 1) := dk_o96 (by decide +kernel)
set_option maxRecDepth 100000 in
theorem dL_law_1302 : decode cL_law 1302 = .ok (.iaload, 1) := dk_o46 (by decide +kernel)
set_option maxRecDepth 100000 in
theorem dL_law_1303 : decode cL_law 1303 = .ok (.invokevirtual 153, 3) := dk_o182 (a := 0) (b := 153) (by decide +kernel)
set_option maxRecDepth 100000 in
theorem dL_law_1306 : decode cL_law 1306 = .ok (.pop, 1) := dk_o87 (by decide +kernel)
set_option maxRecDepth 100000 in
theorem dL_law_1307 : decode cL_law 1307 = .ok (.goto 271, 3) := dk_o167 (a := 1) (b := 15) (by decide +kernel)
set_option maxRecDepth 100000 in
theorem dL_law_1310 : decode cL_law 1310 = .ok (.aload_n 1, 1) := dk_o43 (by decide +kernel)
set_option maxRecDepth 100000 in
theorem dL_law_1311 : decode cL_law 1311 = .ok (.aload_n 0, 1) := dk_o42 (by decide +kernel)
set_option maxRecDepth 100000 in
theorem dL_law_1312 : decode cL_law 1312 = .ok (.iload_n 3, 1) := dk_o29 (by decide +kernel)
set_option maxRecDepth 100000 in
theorem dL_law_1313 : decode cL_law 1313 = .ok (.iconst 1, 1) := dk_o4 (by decide +kernel)
set_option maxRecDepth 100000 in
theorem dL_law_1314 : decode cL_law 1314 = .ok (.iadd, 1) := dk_o96 (by decide +kernel)
set_option maxRecDepth 100000 in
theorem dL_law_1315 : decode cL_law 1315 = .ok (.iaload, 1) := dk_o46 (by decide +kernel)
set_option maxRecDepth 100000 in
theorem dL_law_1316 : decode cL_law 1316 = .ok (.aload_n 0, 1) := dk_o42 (by decide +kernel)
set_option maxRecDepth 100000 in
theorem dL_law_1317 : decode cL_law 1317 = .ok (.iload_n 3, 1) := dk_o29 (by decide +kernel)
set_option maxRecDepth 100000 in
theorem dL_law_1318 : decode cL_law 1318 = .ok (.iconst 2, 1) := dk_o5 (by decide +kernel)
set_option maxRecDepth 100000 in
theorem dL_law_1319 : decode cL_law 1319 = .ok (.iadd, 1) := dk_o96 (by decide +kernel)
set_option maxRecDepth 100000 in
theorem dL_law_1320 : decode cL_law 1320 = .ok (.iaload, 1) := dk_o46 (by decide +kernel)
set_option maxRecDepth 100000 in
theorem dL_law_1321 : decode cL_law 1321 = .ok (.aload_n 0, 1) := dk_o42 (by decide +kernel)
set_option maxRecDepth 100000 in
theorem dL_law_1322 : decode cL_law 1322 = .ok (.iload_n 3, 1) := dk_o29 (by decide +kernel)
set_option maxRecDepth 100000 in
theorem dL_law_1323 : decode cL_law 1323 = .ok (.iconst 3, 1) := dk_o6 (by decide +kernel)
set_option maxRecDepth 100000 in
theorem dL_law_1324 : decode cL_law 1324 = .ok (.iadd, 1) := dk_o96 (by decide +kernel)
set_option maxRecDepth 100000 in
theorem dL_law_1325 : decode cL_law 1325 = .ok (.iaload, 1) := dk_o46 (by decide +kernel)
set_option maxRecDepth 100000 in
theorem dL_law_1326 : decode cL_law 1326 = .ok (.invokevirtual 154, 3) := dk_o182 (a := 0) (b := 154) (by decide +kernel)
set_option maxRecDepth 100000 in
theorem dL_law_1329 : decode cL_law 1329 = .ok (.pop, 1) := dk_o87 (by decide +kernel)
set_option maxRecDepth 100000 in
theorem dL_law_1330 : decode cL_law 1330 = .ok (.aload_n 2, 1) := dk_o44 (by decide +kernel)
set_option maxRecDepth 100000 in
theorem dL_law_1331 : decode cL_law 1331 = .ok (.aload_n 0, 1) := dk_o42 (by decide +kernel)
set_option maxRecDepth 100000 in
theorem dL_law_1332 : decode cL_law 1332 = .ok (.iload_n 3, 1) := dk_o29 (by decide +kernel)
set_option maxRecDepth 100000 in
theorem dL_law_1333 : decode cL_law 1333 = .ok (.iconst 1, 1) := dk_o4 (by decide +kernel)
set_option maxRecDepth 100000 in
theorem dL_law_1334 : decode cL_law 1334 = .ok (.iadd, 1) := dk_o96 (by decide +kernel)
set_option maxRecDepth 100000 in
theorem dL_law_1335 : decode cL_law 1335 = .ok (.iaload, 1) := dk_o46 (by decide +kernel)
set_option maxRecDepth 100000 in
theorem dL_law_1336 : decode cL_law 1336 = .ok (.aload_n 0, 1) := dk_o42 (by decide +kernel)
set_option maxRecDepth 100000 in
theorem dL_law_1337 : decode cL_law 1337 = .ok (.iload_n 3, 1) := dk_o29 (by decide +kernel)
set_option maxRecDepth 100000 in
theorem dL_law_1338 : decode cL_law 1338 = .ok (.iconst 2, 1) := dk_o5 (by decide +kernel)
set_option maxRecDepth 100000 in
theorem dL_law_1339 : decode cL_law 1339 = .ok (.iadd, 1) := dk_o96 (by decide +kernel)
set_option maxRecDepth 100000 in
theorem dL_law_1340 : decode cL_law 1340 = .ok (.iaload, 1) := dk_o46 (by decide +kernel)
set_option maxRecDepth 100000 in
theorem dL_law_1341 : decode cL_law 1341 = .ok (.aload_n 0, 1) := dk_o42 (by decide +kernel)
set_option maxRecDepth 100000 in
theorem dL_law_1342 : decode cL_law 1342 = .ok (.iload_n 3, 1) := dk_o29 (by decide +kernel)
set_option maxRecDepth 100000 in
theorem dL_law_1343 : decode cL_law 1343 = .ok (.iconst 3, 1) := dk_o6 (by decide +kernel)
set_option maxRecDepth 100000 in
theorem dL_law_1344 : decode cL_law 1344 = .ok (.iadd, 1) := dk_o96 (by decide +kernel)
set_option maxRecDepth 100000 in
theorem dL_law_1345 : decode cL_law 1345 = .ok (.iaload, 1) := dk_o46 (by decide +kernel)
set_option maxRecDepth 100000 in
theorem dL_law_1346 : decode cL_law 1346 = .ok (.invokevirtual 157, 3) := dk_o182 (a := 0) (b := 157) (by decide +kernel)
set_option maxRecDepth 100000 in
theorem dL_law_1349 : decode cL_law 1349 = .ok (.pop, 1) := dk_o87 (by decide +kernel)
set_option maxRecDepth 100000 in
theorem dL_law_1350 : decode cL_law 1350 = .ok (.goto 228, 3) := dk_o167 (a := 0) (b := 228) (by decide +kernel)
set_option maxRecDepth 100000 in
theorem dL_law_1353 : decode cL_law 1353 = .ok (.aload_n 1, 1) := dk_o43 (by decide +kernel)
set_option maxRecDepth 100000 in
theorem dL_law_1354 : decode cL_law 1354 = .ok (.aload_n 0, 1) := dk_o42 (by decide +kernel)
set_option maxRecDepth 100000 in
theorem dL_law_1355 : decode cL_law 1355 = .ok (.iload_n 3, 1) := dk_o29 (by decide +kernel)
set_option maxRecDepth 100000 in
theorem dL_law_1356 : decode cL_law 1356 = .ok (.iconst 1, 1) := dk_o4 (by decide +kernel)
set_option maxRecDepth 100000 in
theorem dL_law_1357 : decode cL_law 1357 = .ok (.iadd, 1) := dk_o96 (by decide +kernel)
set_option maxRecDepth 100000 in
theorem dL_law_1358 : decode cL_law 1358 = .ok (.iaload, 1) := dk_o46 (by decide +kernel)
set_option maxRecDepth 100000 in
theorem dL_law_1359 : decode cL_law 1359 = .ok (.aload_n 0, 1) := dk_o42 (by decide +kernel)
set_option maxRecDepth 100000 in
theorem dL_law_1360 : decode cL_law 1360 = .ok (.iload_n 3, 1) := dk_o29 (by decide +kernel)
set_option maxRecDepth 100000 in
theorem dL_law_1361 : decode cL_law 1361 = .ok (.iconst 2, 1) := dk_o5 (by decide +kernel)
set_option maxRecDepth 100000 in
theorem dL_law_1362 : decode cL_law 1362 = .ok (.iadd, 1) := dk_o96 (by decide +kernel)
set_option maxRecDepth 100000 in
theorem dL_law_1363 : decode cL_law 1363 = .ok (.iaload, 1) := dk_o46 (by decide +kernel)
set_option maxRecDepth 100000 in
theorem dL_law_1364 : decode cL_law 1364 = .ok (.aload_n 0, 1) := dk_o42 (by decide +kernel)
set_option maxRecDepth 100000 in
theorem dL_law_1365 : decode cL_law 1365 = .ok (.iload_n 3, 1) := dk_o29 (by decide +kernel)
set_option maxRecDepth 100000 in
theorem dL_law_1366 : decode cL_law 1366 = .ok (.iconst 3, 1) := dk_o6 (by decide +kernel)
set_option maxRecDepth 100000 in
theorem dL_law_1367 : decode cL_law 1367 = .ok (.iadd, 1) := dk_o96 (by decide +kernel)
set_option maxRecDepth 100000 in
theorem dL_law_1368 : decode cL_law 1368 = .ok (.iaload, 1) := dk_o46 (by decide +kernel)
set_option maxRecDepth 100000 in
theorem dL_law_1369 : decode cL_law 1369 = .ok (.i2l, 1) := dk_o133 (by decide +kernel)
set_option maxRecDepth 100000 in
theorem dL_law_1370 : decode cL_law 1370 = .ok (.bipush 32, 2) := dk_o16 (a := 32) (by decide +kernel)
set_option maxRecDepth 100000 in
theorem dL_law_1372 : decode cL_law 1372 = .ok (.lshl, 1) := dk_o121 (by decide +kernel)
set_option maxRecDepth 100000 in
theorem dL_law_1373 : decode cL_law 1373 = .ok (.aload_n 0, 1) := dk_o42 (by decide +kernel)
set_option maxRecDepth 100000 in
theorem dL_law_1374 : decode cL_law 1374 = .ok (.iload_n 3, 1) := dk_o29 (by decide +kernel)
set_option maxRecDepth 100000 in
theorem dL_law_1375 : decode cL_law 1375 = .ok (.iconst 4, 1) := dk_o7 (by decide +kernel)
set_option maxRecDepth 100000 in
theorem dL_law_1376 : decode cL_law 1376 = .ok (.iadd, 1) := dk_o96 (by decide +kernel)
set_option maxRecDepth 100000 in
theorem dL_law_1377 : decode cL_law 1377 = .ok (.iaload, 1) := dk_o46 (by decide +kernel)
set_option maxRecDepth 100000 in
theorem dL_law_1378 : decode cL_law 1378 = .ok (.i2l, 1) := dk_o133 (by decide +kernel)
set_option maxRecDepth 100000 in
theorem dL_law_1379 : decode cL_law 1379 = .ok (.ldc2_w 158, 3) := dk_o20 (a := 0) (b := 158) (by decide +kernel)
set_option maxRecDepth 100000 in
theorem dL_law_1382 : decode cL_law 1382 = .ok (.land, 1) := dk_o127 (by decide +kernel)
set_option maxRecDepth 100000 in
theorem dL_law_1383 : decode cL_law 1383 = .ok (.lor, 1) := dk_o129 (by decide +kernel)
set_option maxRecDepth 100000 in
theorem dL_law_1384 : decode cL_law 1384 = .ok (.invokevirtual 160, 3) := dk_o182 (a := 0) (b := 160) (by decide +kernel)
set_option maxRecDepth 100000 in
theorem dL_law_1387 : decode cL_law 1387 = .ok (.pop, 1) := dk_o87 (by decide +kernel)
set_option maxRecDepth 100000 in
theorem dL_law_1388 : decode cL_law 1388 = .ok (.aload_n 2, 1) := dk_o44 (by decide +kernel)
set_option maxRecDepth 100000 in
theorem dL_law_1389 : decode cL_law 1389 = .ok (.aload_n 0, 1) := dk_o42 (by decide +kernel)
set_option maxRecDepth 100000 in
theorem dL_law_1390 : decode cL_law 1390 = .ok (.iload_n 3, 1) := dk_o29 (by decide +kernel)
set_option maxRecDepth 100000 in
theorem dL_law_1391 : decode cL_law 1391 = .ok (.iconst 1, 1) := dk_o4 (by decide +kernel)
set_option maxRecDepth 100000 in
theorem dL_law_1392 : decode cL_law 1392 = .ok (.iadd, 1) := dk_o96 (by decide +kernel)
set_option maxRecDepth 100000 in
theorem dL_law_1393 : decode cL_law 1393 = .ok (.iaload, 1) := dk_o46 (by decide +kernel)
set_option maxRecDepth 100000 in
theorem dL_law_1394 : decode cL_law 1394 = .ok (.aload_n 0, 1) := dk_o42 (by decide +kernel)
set_option maxRecDepth 100000 in
theorem dL_law_1395 : decode cL_law 1395 = .ok (.iload_n 3, 1) := dk_o29 (by decide +kernel)
set_option maxRecDepth 100000 in
theorem dL_law_1396 : decode cL_law 1396 = .ok (.iconst 2, 1) := dk_o5 (by decide +kernel)
set_option maxRecDepth 100000 in
theorem dL_law_1397 : decode cL_law 1397 = .ok (.iadd, 1) := dk_o96 (by decide +kernel)
set_option maxRecDepth 100000 in
theorem dL_law_1398 : decode cL_law 1398 = .ok (.iaload, 1) := dk_o46 (by decide +kernel)
set_option maxRecDepth 100000 in
theorem dL_law_1399 : decode cL_law 1399 = .ok (.aload_n 0, 1) := dk_o42 (by decide +kernel)
set_option maxRecDepth 100000 in
theorem dL_law_1400 : decode cL_law 1400 = .ok (.iload_n 3, 1) := dk_o29 (by decide +kernel)
set_option maxRecDepth 100000 in
theorem dL_law_1401 : decode cL_law 1401 = .ok (.iconst 3, 1) := dk_o6 (by decide +kernel)
set_option maxRecDepth 100000 in
theorem dL_law_1402 : decode cL_law 1402 = .ok (.iadd, 1) := dk_o96 (by decide +kernel)
set_option maxRecDepth 100000 in
theorem dL_law_1403 : decode cL_law 1403 = .ok (.iaload, 1) := dk_o46 (by decide +kernel)
set_option maxRecDepth 100000 in
theorem dL_law_1404 : decode cL_law 1404 = .ok (.i2l, 1) := dk_o133 (by decide +kernel)
set_option maxRecDepth 100000 in
theorem dL_law_1405 : decode cL_law 1405 = .ok (.bipush 32, 2) := dk_o16 (a := 32) (by decide +kernel)
set_option maxRecDepth 100000 in
theorem dL_law_1407 : decode cL_law 1407 = .ok (.lshl, 1) := dk_o121 (by decide +kernel)
set_option maxRecDepth 100000 in
theorem dL_law_1408 : decode cL_law 1408 = .ok (.aload_n 0, 1) := dk_o42 (by decide +kernel)
set_option maxRecDepth 100000 in
theorem dL_law_1409 : decode cL_law 1409 = .ok (.iload_n 3, 1) := dk_o29 (by decide +kernel)
set_option maxRecDepth 100000 in
theorem dL_law_1410 : decode cL_law 1410 = .ok (.iconst 4, 1) := dk_o7 (by decide +kernel)
set_option maxRecDepth 100000 in
theorem dL_law_1411 : decode cL_law 1411 = .ok (.iadd, 1) := dk_o96 (by decide +kernel)
set_option maxRecDepth 100000 in
theorem dL_law_1412 : decode cL_law 1412 = .ok (.iaload, 1) := dk_o46 (by decide +kernel)
set_option maxRecDepth 100000 in
theorem dL_law_1413 : decode cL_law 1413 = .ok (.i2l, 1) := dk_o133 (by decide +kernel)
set_option maxRecDepth 100000 in
theorem dL_law_1414 : decode cL_law 1414 = .ok (.ldc2_w 158, 3) := dk_o20 (a := 0) (b := 158) (by decide +kernel)
set_option maxRecDepth 100000 in
theorem dL_law_1417 : decode cL_law 1417 = .ok (.land, 1) := dk_o127 (by decide +kernel)
set_option maxRecDepth 100000 in
theorem dL_law_1418 : decode cL_law 1418 = .ok (.lor, 1) := dk_o129 (by decide +kernel)
set_option maxRecDepth 100000 in
theorem dL_law_1419 : decode cL_law 1419 = .ok (.invokevirtual 164, 3) := dk_o182 (a := 0) (b := 164) (by decide +kernel)
set_option maxRecDepth 100000 in
theorem dL_law_1422 : decode cL_law 1422 = .ok (.pop, 1) := dk_o87 (by decide +kernel)
set_option maxRecDepth 100000 in
theorem dL_law_1423 : decode cL_law 1423 = .ok (.goto 155, 3) := dk_o167 (a := 0) (b := 155) (by decide +kernel)
set_option maxRecDepth 100000 in
theorem dL_law_1426 : decode cL_law 1426 = .ok (.aload_n 1, 1) := dk_o43 (by decide +kernel)
set_option maxRecDepth 100000 in
theorem dL_law_1427 : decode cL_law 1427 = .ok (.aload_n 0, 1) := dk_o42 (by decide +kernel)
set_option maxRecDepth 100000 in
theorem dL_law_1428 : decode cL_law 1428 = .ok (.iload_n 3, 1) := dk_o29 (by decide +kernel)
set_option maxRecDepth 100000 in
theorem dL_law_1429 : decode cL_law 1429 = .ok (.iconst 1, 1) := dk_o4 (by decide +kernel)
set_option maxRecDepth 100000 in
theorem dL_law_1430 : decode cL_law 1430 = .ok (.iadd, 1) := dk_o96 (by decide +kernel)
set_option maxRecDepth 100000 in
theorem dL_law_1431 : decode cL_law 1431 = .ok (.iaload, 1) := dk_o46 (by decide +kernel)
set_option maxRecDepth 100000 in
theorem dL_law_1432 : decode cL_law 1432 = .ok (.aload_n 0, 1) := dk_o42 (by decide +kernel)
set_option maxRecDepth 100000 in
theorem dL_law_1433 : decode cL_law 1433 = .ok (.iload_n 3, 1) := dk_o29 (by decide +kernel)
set_option maxRecDepth 100000 in
theorem dL_law_1434 : decode cL_law 1434 = .ok (.iconst 2, 1) := dk_o5 (by decide +kernel)
set_option maxRecDepth 100000 in
theorem dL_law_1435 : decode cL_law 1435 = .ok (.iadd, 1) := dk_o96 (by decide +kernel)
set_option maxRecDepth 100000 in
theorem dL_law_1436 : decode cL_law 1436 = .ok (.iaload, 1) := dk_o46 (by decide +kernel)
set_option maxRecDepth 100000 in
theorem dL_law_1437 : decode cL_law 1437 = .ok (.invokevirtual 165, 3) := dk_o182 (a := 0) (b := 165) (by decide +kernel)
theorem dL_law_1440 : decode cL_law 1440 = .ok (.pop2, 1) := by decide +kernel
set_option maxRecDepth 100000 in
theorem dL_law_1441 : decode cL_law 1441 = .ok (.aload_n 2, 1) := dk_o44 (by decide +kernel)
set_option maxRecDepth 100000 in
theorem dL_law_1442 : decode cL_law 1442 = .ok (.aload_n 0, 1) := dk_o42 (by decide +kernel)
set_option maxRecDepth 100000 in
theorem dL_law_1443 : decode cL_law 1443 = .ok (.iload_n 3, 1) := dk_o29 (by decide +kernel)
set_option maxRecDepth 100000 in
theorem dL_law_1444 : decode cL_law 1444 = .ok (.iconst 1, 1) := dk_o4 (by decide +kernel)
set_option maxRecDepth 100000 in
theorem dL_law_1445 : decode cL_law 1445 = .ok (.iadd, 1) := dk_o96 (by decide +kernel)
set_option maxRecDepth 100000 in
theorem dL_law_1446 : decode cL_law 1446 = .ok (.iaload, 1) := dk_o46 (by decide +kernel)
set_option maxRecDepth 100000 in
theorem dL_law_1447 : decode cL_law 1447 = .ok (.aload_n 0, 1) := dk_o42 (by decide +kernel)
set_option maxRecDepth 100000 in
theorem dL_law_1448 : decode cL_law 1448 = .ok (.iload_n 3, 1) := dk_o29 (by decide +kernel)
set_option maxRecDepth 100000 in
theorem dL_law_1449 : decode cL_law 1449 = .ok (.iconst 2, 1) := dk_o5 (by decide +kernel)
set_option maxRecDepth 100000 in
theorem dL_law_1450 : decode cL_law 1450 = .ok (.iadd, 1) := dk_o96 (by decide +kernel)
set_option maxRecDepth 100000 in
theorem dL_law_1451 : decode cL_law 1451 = .ok (.iaload, 1) := dk_o46 (by decide +kernel)
set_option maxRecDepth 100000 in
theorem dL_law_1452 : decode cL_law 1452 = .ok (.invokevirtual 169, 3) := dk_o182 (a := 0) (b := 169) (by decide +kernel)
theorem dL_law_1455 : decode cL_law 1455 = .ok (.pop2, 1) := by decide +kernel
set_option maxRecDepth 100000 in
theorem dL_law_1456 : decode cL_law 1456 = .ok (.goto 122, 3) := dk_o167 (a := 0) (b := 122) (by decide +kernel)
set_option maxRecDepth 100000 in
theorem dL_law_1459 : decode cL_law 1459 = .ok (.aload_n 1, 1) := dk_o43 (by decide +kernel)
set_option maxRecDepth 100000 in
theorem dL_law_1460 : decode cL_law 1460 = .ok (.aload_n 0, 1) := dk_o42 (by decide +kernel)
set_option maxRecDepth 100000 in
theorem dL_law_1461 : decode cL_law 1461 = .ok (.iload_n 3, 1) := dk_o29 (by decide +kernel)
set_option maxRecDepth 100000 in
theorem dL_law_1462 : decode cL_law 1462 = .ok (.iconst 1, 1) := dk_o4 (by decide +kernel)
set_option maxRecDepth 100000 in
theorem dL_law_1463 : decode cL_law 1463 = .ok (.iadd, 1) := dk_o96 (by decide +kernel)
set_option maxRecDepth 100000 in
theorem dL_law_1464 : decode cL_law 1464 = .ok (.iaload, 1) := dk_o46 (by decide +kernel)
set_option maxRecDepth 100000 in
theorem dL_law_1465 : decode cL_law 1465 = .ok (.aload_n 0, 1) := dk_o42 (by decide +kernel)
set_option maxRecDepth 100000 in
theorem dL_law_1466 : decode cL_law 1466 = .ok (.iload_n 3, 1) := dk_o29 (by decide +kernel)
set_option maxRecDepth 100000 in
theorem dL_law_1467 : decode cL_law 1467 = .ok (.iconst 2, 1) := dk_o5 (by decide +kernel)
set_option maxRecDepth 100000 in
theorem dL_law_1468 : decode cL_law 1468 = .ok (.iadd, 1) := dk_o96 (by decide +kernel)
set_option maxRecDepth 100000 in
theorem dL_law_1469 : decode cL_law 1469 = .ok (.iaload, 1) := dk_o46 (by decide +kernel)
set_option maxRecDepth 100000 in
theorem dL_law_1470 : decode cL_law 1470 = .ok (.aload_n 0, 1) := dk_o42 (by decide +kernel)
set_option maxRecDepth 100000 in
theorem dL_law_1471 : decode cL_law 1471 = .ok (.iload_n 3, 1) := dk_o29 (by decide +kernel)
set_option maxRecDepth 100000 in
theorem dL_law_1472 : decode cL_law 1472 = .ok (.iconst 3, 1) := dk_o6 (by decide +kernel)
set_option maxRecDepth 100000 in
theorem dL_law_1473 : decode cL_law 1473 = .ok (.iadd, 1) := dk_o96 (by decide +kernel)
set_option maxRecDepth 100000 in
theorem dL_law_1474 : decode cL_law 1474 = .ok (.iaload, 1) := dk_o46 (by decide +kernel)
set_option maxRecDepth 100000 in
theorem dL_law_1475 : decode cL_law 1475 = .ok (.aload_n 0, 1) := dk_o42 (by decide +kernel)
set_option maxRecDepth 100000 in
theorem dL_law_1476 : decode cL_law 1476 = .ok (.iload_n 3, 1) := dk_o29 (by decide +kernel)
set_option maxRecDepth 100000 in
theorem dL_law_1477 : decode cL_law 1477 = .ok (.iconst 4, 1) := dk_o7 (by decide +kernel)
set_option maxRecDepth 100000 in
theorem dL_law_1478 : decode cL_law 1478 = .ok (.iadd, 1) := dk_o96 (by decide +kernel)
set_option maxRecDepth 100000 in
theorem dL_law_1479 : decode cL_law 1479 = .ok (.iaload, 1) := dk_o46 (by decide +kernel)
set_option maxRecDepth 100000 in
theorem dL_law_1480 : decode cL_law 1480 = .ok (.aload_n 0, 1) := dk_o42 (by decide +kernel)
set_option maxRecDepth 100000 in
theorem dL_law_1481 : decode cL_law 1481 = .ok (.iload_n 3, 1) := dk_o29 (by decide +kernel)
set_option maxRecDepth 100000 in
theorem dL_law_1482 : decode cL_law 1482 = .ok (.iconst 5, 1) := dk_o8 (by decide +kernel)
set_option maxRecDepth 100000 in
theorem dL_law_1483 : decode cL_law 1483 = .ok (.iadd, 1) := dk_o96 (by decide +kernel)
set_option maxRecDepth 100000 in
theorem dL_law_1484 : decode cL_law 1484 = .ok (.iaload, 1) := dk_o46 (by decide +kernel)
set_option maxRecDepth 100000 in
theorem dL_law_1485 : decode cL_law 1485 = .ok (.invokevirtual 170, 3) := dk_o182 (a := 0) (b := 170) (by decide +kernel)
set_option maxRecDepth 100000 in
theorem dL_law_1488 : decode cL_law 1488 = .ok (.pop, 1) := dk_o87 (by decide +kernel)
set_option maxRecDepth 100000 in
theorem dL_law_1489 : decode cL_law 1489 = .ok (.aload_n 2, 1) := dk_o44 (by decide +kernel)
set_option maxRecDepth 100000 in
theorem dL_law_1490 : decode cL_law 1490 = .ok (.aload_n 0, 1) := dk_o42 (by decide +kernel)
set_option maxRecDepth 100000 in
theorem dL_law_1491 : decode cL_law 1491 = .ok (.iload_n 3, 1) := dk_o29 (by decide +kernel)
set_option maxRecDepth 100000 in
theorem dL_law_1492 : decode cL_law 1492 = .ok (.iconst 1, 1) := dk_o4 (by decide +kernel)
set_option maxRecDepth 100000 in
theorem dL_law_1493 : decode cL_law 1493 = .ok (.iadd, 1) := dk_o96 (by decide +kernel)
set_option maxRecDepth 100000 in
theorem dL_law_1494 : decode cL_law 1494 = .ok (.iaload, 1) := dk_o46 (by decide +kernel)
set_option maxRecDepth 100000 in
theorem dL_law_1495 : decode cL_law 1495 = .ok (.aload_n 0, 1) := dk_o42 (by decide +kernel)
set_option maxRecDepth 100000 in
theorem dL_law_1496 : decode cL_law 1496 = .ok (.iload_n 3, 1) := dk_o29 (by decide +kernel)
set_option maxRecDepth 100000 in
theorem dL_law_1497 : decode cL_law 1497 = .ok (.iconst 2, 1) := dk_o5 (by decide +kernel)
set_option maxRecDepth 100000 in
theorem dL_law_1498 : decode cL_law 1498 = .ok (.iadd, 1) := dk_o96 (by decide +kernel)
set_option maxRecDepth 100000 in
theorem dL_law_1499 : decode cL_law 1499 = .ok (.iaload, 1) := dk_o46 (by decide +kernel)
set_option maxRecDepth 100000 in
theorem dL_law_1500 : decode cL_law 1500 = .ok (.aload_n 0, 1) := dk_o42 (by decide +kernel)
set_option maxRecDepth 100000 in
theorem dL_law_1501 : decode cL_law 1501 = .ok (.iload_n 3, 1) := dk_o29 (by decide +kernel)
set_option maxRecDepth 100000 in
theorem dL_law_1502 : decode cL_law 1502 = .ok (.iconst 3, 1) := dk_o6 (by decide +kernel)
set_option maxRecDepth 100000 in
theorem dL_law_1503 : decode cL_law 1503 = .ok (.iadd, 1) := dk_o96 (by decide +kernel)
set_option maxRecDepth 100000 in
theorem dL_law_1504 : decode cL_law 1504 = .ok (.iaload, 1) := dk_o46 (by decide +kernel)
set_option maxRecDepth 100000 in
theorem dL_law_1505 : decode cL_law 1505 = .ok (.aload_n 0, 1) := dk_o42 (by decide +kernel)
set_option maxRecDepth 100000 in
theorem dL_law_1506 : decode cL_law 1506 = .ok (.iload_n 3, 1) := dk_o29 (by decide +kernel)
set_option maxRecDepth 100000 in
theorem dL_law_1507 : decode cL_law 1507 = .ok (.iconst 4, 1) := dk_o7 (by decide +kernel)
set_option maxRecDepth 100000 in
theorem dL_law_1508 : decode cL_law 1508 = .ok (.iadd, 1) := dk_o96 (by decide +kernel)
set_option maxRecDepth 100000 in
theorem dL_law_1509 : decode cL_law 1509 = .ok (.iaload, 1) := dk_o46 (by decide +kernel)
set_option maxRecDepth 100000 in
theorem dL_law_1510 : decode cL_law 1510 = .ok (.aload_n 0, 1) := dk_o42 (by decide +kernel)
set_option maxRecDepth 100000 in
theorem dL_law_1511 : decode cL_law 1511 = .ok (.iload_n 3, 1) := dk_o29 (by decide +kernel)
set_option maxRecDepth 100000 in
theorem dL_law_1512 : decode cL_law 1512 = .ok (.iconst 5, 1) := dk_o8 (by decide +kernel)
set_option maxRecDepth 100000 in
theorem dL_law_1513 : decode cL_law 1513 = .ok (.iadd, 1) := dk_o96 (by decide +kernel)
set_option maxRecDepth 100000 in
theorem dL_law_1514 : decode cL_law 1514 = .ok (.iaload, 1) := dk_o46 (by decide +kernel)
set_option maxRecDepth 100000 in
theorem dL_law_1515 : decode cL_law 1515 = .ok (.invokevirtual 174, 3) := dk_o182 (a := 0) (b := 174) (by decide +kernel)
set_option maxRecDepth 100000 in
theorem dL_law_1518 : decode cL_law 1518 = .ok (.pop, 1) := dk_o87 (by decide +kernel)
set_option maxRecDepth 100000 in
theorem dL_law_1519 : decode cL_law 1519 = .ok (.goto 59, 3) := dk_o167 (a := 0) (b := 59) (by decide +kernel)
set_option maxRecDepth 100000 in
theorem dL_law_1522 : decode cL_law 1522 = .ok (.aload_n 1, 1) := dk_o43 (by decide +kernel)
set_option maxRecDepth 100000 in
theorem dL_law_1523 : decode cL_law 1523 = .ok (.aload_n 0, 1) := dk_o42 (by decide +kernel)
set_option maxRecDepth 100000 in
theorem dL_law_1524 : decode cL_law 1524 = .ok (.iload_n 3, 1) := dk_o29 (by decide +kernel)
set_option maxRecDepth 100000 in
theorem dL_law_1525 : decode cL_law 1525 = .ok (.iconst 1, 1) := dk_o4 (by decide +kernel)
set_option maxRecDepth 100000 in
theorem dL_law_1526 : decode cL_law 1526 = .ok (.iadd, 1) := dk_o96 (by decide +kernel)
set_option maxRecDepth 100000 in
theorem dL_law_1527 : decode cL_law 1527 = .ok (.iaload, 1) := dk_o46 (by decide +kernel)
set_option maxRecDepth 100000 in
theorem dL_law_1528 : decode cL_law 1528 = .ok (.aload_n 0, 1) := dk_o42 (by decide +kernel)
set_option maxRecDepth 100000 in
theorem dL_law_1529 : decode cL_law 1529 = .ok (.iload_n 3, 1) := dk_o29 (by decide +kernel)
set_option maxRecDepth 100000 in
theorem dL_law_1530 : decode cL_law 1530 = .ok (.iconst 2, 1) := dk_o5 (by decide +kernel)
set_option maxRecDepth 100000 in
theorem dL_law_1531 : decode cL_law 1531 = .ok (.iadd, 1) := dk_o96 (by decide +kernel)
set_option maxRecDepth 100000 in
theorem dL_law_1532 : decode cL_law 1532 = .ok (.iaload, 1) := dk_o46 (by decide +kernel)
set_option maxRecDepth 100000 in
theorem dL_law_1533 : decode cL_law 1533 = .ok (.invokevirtual 175, 3) := dk_o182 (a := 0) (b := 175) (by decide +kernel)
set_option maxRecDepth 100000 in
theorem dL_law_1536 : decode cL_law 1536 = .ok (.pop, 1) := dk_o87 (by decide +kernel)
set_option maxRecDepth 100000 in
theorem dL_law_1537 : decode cL_law 1537 = .ok (.aload_n 2, 1) := dk_o44 (by decide +kernel)
set_option maxRecDepth 100000 in
theorem dL_law_1538 : decode cL_law 1538 = .ok (.aload_n 0, 1) := dk_o42 (by decide +kernel)
set_option maxRecDepth 100000 in
theorem dL_law_1539 : decode cL_law 1539 = .ok (.iload_n 3, 1) := dk_o29 (by decide +kernel)
set_option maxRecDepth 100000 in
theorem dL_law_1540 : decode cL_law 1540 = .ok (.iconst 1, 1) := dk_o4 (by decide +kernel)
set_option maxRecDepth 100000 in
theorem dL_law_1541 : decode cL_law 1541 = .ok (.iadd, 1) := dk_o96 (by decide +kernel)
set_option maxRecDepth 100000 in
theorem dL_law_1542 : decode cL_law 1542 = .ok (.iaload, 1) := dk_o46 (by decide +kernel)
set_option maxRecDepth 100000 in
theorem dL_law_1543 : decode cL_law 1543 = .ok (.aload_n 0, 1) := dk_o42 (by decide +kernel)
set_option maxRecDepth 100000 in
theorem dL_law_1544 : decode cL_law 1544 = .ok (.iload_n 3, 1) := dk_o29 (by decide +kernel)
set_option maxRecDepth 100000 in
theorem dL_law_1545 : decode cL_law 1545 = .ok (.iconst 2, 1) := dk_o5 (by decide +kernel)
set_option maxRecDepth 100000 in
theorem dL_law_1546 : decode cL_law 1546 = .ok (.iadd, 1) := dk_o96 (by decide +kernel)
set_option maxRecDepth 100000 in
theorem dL_law_1547 : decode cL_law 1547 = .ok (.iaload, 1) := dk_o46 (by decide +kernel)
set_option maxRecDepth 100000 in
theorem dL_law_1548 : decode cL_law 1548 = .ok (.invokevirtual 178, 3) := dk_o182 (a := 0) (b := 178) (by decide +kernel)
set_option maxRecDepth 100000 in
theorem dL_law_1551 : decode cL_law 1551 = .ok (.pop, 1) := dk_o87 (by decide +kernel)
set_option maxRecDepth 100000 in
theorem dL_law_1552 : decode cL_law 1552 = .ok (.goto 26, 3) := dk_o167 (a := 0) (b := 26) (by decide +kernel)
set_option maxRecDepth 100000 in
theorem dL_law_1555 : decode cL_law 1555 = .ok (.aload_n 1, 1) := dk_o43 (by decide +kernel)
set_option maxRecDepth 100000 in
theorem dL_law_1556 : decode cL_law 1556 = .ok (.aload_n 0, 1) := dk_o42 (by decide +kernel)
set_option maxRecDepth 100000 in
theorem dL_law_1557 : decode cL_law 1557 = .ok (.iload_n 3, 1) := dk_o29 (by decide +kernel)
set_option maxRecDepth 100000 in
theorem dL_law_1558 : decode cL_law 1558 = .ok (.iconst 1, 1) := dk_o4 (by decide +kernel)
set_option maxRecDepth 100000 in
theorem dL_law_1559 : decode cL_law 1559 = .ok (.iadd, 1) := dk_o96 (by decide +kernel)
set_option maxRecDepth 100000 in
theorem dL_law_1560 : decode cL_law 1560 = .ok (.iaload, 1) := dk_o46 (by decide +kernel)
set_option maxRecDepth 100000 in
theorem dL_law_1561 : decode cL_law 1561 = .ok (.invokevirtual 179, 3) := dk_o182 (a := 0) (b := 179) (by decide +kernel)
set_option maxRecDepth 100000 in
theorem dL_law_1564 : decode cL_law 1564 = .ok (.pop, 1) := dk_o87 (by decide +kernel)
set_option maxRecDepth 100000 in
theorem dL_law_1565 : decode cL_law 1565 = .ok (.aload_n 2, 1) := dk_o44 (by decide +kernel)
set_option maxRecDepth 100000 in
theorem dL_law_1566 : decode cL_law 1566 = .ok (.aload_n 0, 1) := dk_o42 (by decide +kernel)
set_option maxRecDepth 100000 in
theorem dL_law_1567 : decode cL_law 1567 = .ok (.iload_n 3, 1) := dk_o29 (by decide +kernel)
set_option maxRecDepth 100000 in
theorem dL_law_1568 : decode cL_law 1568 = .ok (.iconst 1, 1) := dk_o4 (by decide +kernel)
set_option maxRecDepth 100000 in
theorem dL_law_1569 : decode cL_law 1569 = .ok (.iadd, 1) := dk_o96 (by decide +kernel)
set_option maxRecDepth 100000 in
theorem dL_law_1570 : decode cL_law 1570 = .ok (.iaload, 1) := dk_o46 (by decide +kernel)
set_option maxRecDepth 100000 in
theorem dL_law_1571 : decode cL_law 1571 = .ok (.invokevirtual 182, 3) := dk_o182 (a := 0) (b := 182) (by decide +kernel)
set_option maxRecDepth 100000 in
theorem dL_law_1574 : decode cL_law 1574 = .ok (.pop, 1) := dk_o87 (by decide +kernel)
set_option maxRecDepth 100000 in
theorem dL_law_1575 : decode cL_law 1575 = .ok (.goto 3, 3) := dk_o167 (a := 0) (b := 3) (by decide +kernel)
set_option maxRecDepth 100000 in
theorem dL_law_1578 : decode cL_law 1578 = .ok (.iinc 3 6, 3) := dk_o132 (b := 6) (by decide +kernel)
set_option maxRecDepth 100000 in
theorem dL_law_1581 : decode cL_law 1581 = .ok (.goto (-1563), 3) := dk_o167 (a := 249) (b := 229) (by decide +kernel)
set_option maxRecDepth 100000 in
theorem dL_law_1584 : decode cL_law 1584 = .ok (.iconst 1, 1) := dk_o4 (by decide +kernel)
set_option maxRecDepth 100000 in
theorem dL_law_1585 : decode cL_law 1585 = .ok (.ireturn, 1) := dk_o172 (by decide +kernel)
