/-! names of the classes' methods that are walked, out of the printed names -/
def RX0 : String := "SetAgain$Chair"
def TX0 : u_T := fun k => match k with
  | 0 => ("SetAgain$Chair", "told", "[I", true)
  | 1 => ("SetAgain$Chair", "stands", "[I", true)
  | 2 => ("SetAgain$Chair", "law", "LSetAgain$Law;", true)
  | 3 => ("SetAgain$Chair", "sitters", "I", false)
  | _ => ("SetAgain$Chair", "lost", "[I", true)
def tyX0 : Nat → FieldType := fun k => match k with
  | 0 => .array .int
  | 1 => .array .int
  | 2 => .object "SetAgain$Law"
  | 3 => .int
  | _ => .array .int
abbrev wsX00 : List Cond := u_ws RX0 TX0 5
theorem nmX0 : ∀ a, a < 5 → ∀ b, b < 5 → a ≠ b → (TX0 a).2.1 ≠ (TX0 b).2.1 := by decide +kernel
theorem tyX0_ok : ∀ k, k < 5 → parseFieldDescriptor (TX0 k).2.2.1 = some (tyX0 k) := by decide +kernel
abbrev cX0_has : ByteArray := prog_2_method_2_code
def yX0_has : MethodName := ⟨RX0, "has", "(I)Z"⟩
abbrev cX0_placeOf : ByteArray := prog_2_method_3_code
def yX0_placeOf : MethodName := ⟨RX0, "placeOf", "(II)I"⟩
abbrev cX0_comes : ByteArray := prog_2_method_4_code
def yX0_comes : MethodName := ⟨RX0, "comes", "(IIII)I"⟩
abbrev cX0_becomes : ByteArray := prog_2_method_5_code
def yX0_becomes : MethodName := ⟨RX0, "becomes", "(II)V"⟩
abbrev cX0_numberOf : ByteArray := prog_2_method_6_code
def yX0_numberOf : MethodName := ⟨RX0, "numberOf", "(II)I"⟩
abbrev cX0_priceOf : ByteArray := prog_2_method_7_code
def yX0_priceOf : MethodName := ⟨RX0, "priceOf", "(I)I"⟩
abbrev cX0_fetch : ByteArray := prog_2_method_8_code
def yX0_fetch : MethodName := ⟨RX0, "fetch", "()I"⟩
abbrev cX0_slipped : ByteArray := prog_2_method_9_code
def yX0_slipped : MethodName := ⟨RX0, "slipped", "(II)I"⟩
abbrev cX0_turned : ByteArray := prog_2_method_10_code
def yX0_turned : MethodName := ⟨RX0, "turned", "(IIII)I"⟩
abbrev cX0_lossAt : ByteArray := prog_2_method_11_code
def yX0_lossAt : MethodName := ⟨RX0, "lossAt", "(III)I"⟩
abbrev cX0_forgetAll : ByteArray := prog_2_method_12_code
def yX0_forgetAll : MethodName := ⟨RX0, "forgetAll", "()V"⟩
abbrev cX0_forget : ByteArray := prog_2_method_13_code
def yX0_forget : MethodName := ⟨RX0, "forget", "(I)V"⟩
def RX1 : String := "SetAgain$Changes"
def TX1 : u_T := fun k => match k with
  | 0 => ("SetAgain$Changes", "places", "[I", true)
  | 1 => ("SetAgain$Changes", "before", "[I", true)
  | 2 => ("SetAgain$Changes", "after", "[I", true)
  | 3 => ("SetAgain$Changes", "done", "I", false)
  | _ => ("SetAgain$Changes", "kept", "I", false)
def tyX1 : Nat → FieldType := fun k => match k with
  | 0 => .array .int
  | 1 => .array .int
  | 2 => .array .int
  | 3 => .int
  | _ => .int
abbrev wsX10 : List Cond := u_ws RX1 TX1 5
theorem nmX1 : ∀ a, a < 5 → ∀ b, b < 5 → a ≠ b → (TX1 a).2.1 ≠ (TX1 b).2.1 := by decide +kernel
theorem tyX1_ok : ∀ k, k < 5 → parseFieldDescriptor (TX1 k).2.2.1 = some (tyX1 k) := by decide +kernel
abbrev cX1_comes : ByteArray := prog_3_method_2_code
def yX1_comes : MethodName := ⟨RX1, "comes", "(III)V"⟩
abbrev cX1_dropOldest : ByteArray := prog_3_method_3_code
def yX1_dropOldest : MethodName := ⟨RX1, "dropOldest", "()V"⟩
def RX2 : String := "SetAgain$Deed"
def TX2 : u_T := fun k => match k with
  | 0 => ("SetAgain$Deed", "chair", "LSetAgain$Chair;", true)
  | 1 => ("SetAgain$Deed", "habits", "LSetAgain$Habits;", true)
  | 2 => ("SetAgain$Deed", "told", "[I", true)
  | 3 => ("SetAgain$Deed", "keptTold", "[I", true)
  | 4 => ("SetAgain$Deed", "keptStands", "[I", true)
  | _ => ("SetAgain$Deed", "kept", "Z", false)
def tyX2 : Nat → FieldType := fun k => match k with
  | 0 => .object "SetAgain$Chair"
  | 1 => .object "SetAgain$Habits"
  | 2 => .array .int
  | 3 => .array .int
  | 4 => .array .int
  | _ => .boolean
abbrev wsX20 : List Cond := u_ws RX2 TX2 6
theorem nmX2 : ∀ a, a < 6 → ∀ b, b < 6 → a ≠ b → (TX2 a).2.1 ≠ (TX2 b).2.1 := by decide +kernel
theorem tyX2_ok : ∀ k, k < 6 → parseFieldDescriptor (TX2 k).2.2.1 = some (tyX2 k) := by decide +kernel
abbrev cX2_comes : ByteArray := prog_4_method_2_code
def yX2_comes : MethodName := ⟨RX2, "comes", "(I)I"⟩
abbrev cX2_turns : ByteArray := prog_4_method_3_code
def yX2_turns : MethodName := ⟨RX2, "turns", "(II)I"⟩
abbrev cX2_allSlip : ByteArray := prog_4_method_4_code
def yX2_allSlip : MethodName := ⟨RX2, "allSlip", "()I"⟩
abbrev cX2_keepImage : ByteArray := prog_4_method_5_code
def yX2_keepImage : MethodName := ⟨RX2, "keepImage", "()I"⟩
abbrev cX2_layBack : ByteArray := prog_4_method_6_code
def yX2_layBack : MethodName := ⟨RX2, "layBack", "()I"⟩
def RX3 : String := "SetAgain$Desks"
def TX3 : u_T := fun k => match k with
  | 0 => ("SetAgain$Desks", "kinds", "[I", true)
  | 1 => ("SetAgain$Desks", "trace", "[I", true)
  | 2 => ("SetAgain$Desks", "kept", "I", false)
  | 3 => ("SetAgain$Desks", "ran", "I", false)
  | 4 => ("SetAgain$Desks", "kind", "I", false)
  | _ => ("SetAgain$Desks", "number", "I", false)
def tyX3 : Nat → FieldType := fun k => match k with
  | 0 => .array .int
  | 1 => .array .int
  | 2 => .int
  | 3 => .int
  | 4 => .int
  | _ => .int
abbrev wsX30 : List Cond := u_ws RX3 TX3 6
theorem nmX3 : ∀ a, a < 6 → ∀ b, b < 6 → a ≠ b → (TX3 a).2.1 ≠ (TX3 b).2.1 := by decide +kernel
theorem tyX3_ok : ∀ k, k < 6 → parseFieldDescriptor (TX3 k).2.2.1 = some (tyX3 k) := by decide +kernel
abbrev cX3_comes : ByteArray := prog_5_method_2_code
def yX3_comes : MethodName := ⟨RX3, "comes", "(I)I"⟩
abbrev cX3_takenFor : ByteArray := prog_5_method_3_code
def yX3_takenFor : MethodName := ⟨RX3, "takenFor", "(II)I"⟩
abbrev cX3_acts : ByteArray := prog_5_method_4_code
def yX3_acts : MethodName := ⟨RX3, "acts", "(III)I"⟩
abbrev cX3_does : ByteArray := prog_5_method_5_code
def yX3_does : MethodName := ⟨RX3, "does", "(IIII)I"⟩
abbrev cX3_ownerOf : ByteArray := prog_5_method_6_code
def yX3_ownerOf : MethodName := ⟨RX3, "ownerOf", "(II)I"⟩
abbrev cX3_runs : ByteArray := prog_5_method_7_code
def yX3_runs : MethodName := ⟨RX3, "runs", "(IIII)I"⟩
def RX4 : String := "SetAgain$Habits"
def TX4 : u_T := fun k => match k with
  | 0 => ("SetAgain$Habits", "chair", "LSetAgain$Chair;", true)
  | 1 => ("SetAgain$Habits", "week", "LSetAgain$Week;", true)
  | 2 => ("SetAgain$Habits", "stand", "[I", true)
  | 3 => ("SetAgain$Habits", "turns", "[I", true)
  | 4 => ("SetAgain$Habits", "spared", "[I", true)
  | 5 => ("SetAgain$Habits", "losses", "I", false)
  | 6 => ("SetAgain$Habits", "costs", "I", false)
  | 7 => ("SetAgain$Habits", "tried", "I", false)
  | 8 => ("SetAgain$Habits", "triedNear", "I", false)
  | 9 => ("SetAgain$Habits", "leaver", "I", false)
  | _ => ("SetAgain$Habits", "left", "I", false)
def tyX4 : Nat → FieldType := fun k => match k with
  | 0 => .object "SetAgain$Chair"
  | 1 => .object "SetAgain$Week"
  | 2 => .array .int
  | 3 => .array .int
  | 4 => .array .int
  | 5 => .int
  | 6 => .int
  | 7 => .int
  | 8 => .int
  | 9 => .int
  | _ => .int
abbrev wsX40 : List Cond := u_ws RX4 TX4 11
theorem nmX4 : ∀ a, a < 11 → ∀ b, b < 11 → a ≠ b → (TX4 a).2.1 ≠ (TX4 b).2.1 := by decide +kernel
theorem tyX4_ok : ∀ k, k < 11 → parseFieldDescriptor (TX4 k).2.2.1 = some (tyX4 k) := by decide +kernel
abbrev cX4_begin : ByteArray := prog_6_method_2_code
def yX4_begin : MethodName := ⟨RX4, "begin", "()V"⟩
abbrev cX4_standAsNow : ByteArray := prog_6_method_3_code
def yX4_standAsNow : MethodName := ⟨RX4, "standAsNow", "()V"⟩
abbrev cX4_live : ByteArray := prog_6_method_4_code
def yX4_live : MethodName := ⟨RX4, "live", "(I)V"⟩
abbrev cX4_pass : ByteArray := prog_6_method_5_code
def yX4_pass : MethodName := ⟨RX4, "pass", "(I)V"⟩
abbrev cX4_comes : ByteArray := prog_6_method_6_code
def yX4_comes : MethodName := ⟨RX4, "comes", "(I)V"⟩
abbrev cX4_leaves : ByteArray := prog_6_method_7_code
def yX4_leaves : MethodName := ⟨RX4, "leaves", "()V"⟩
abbrev cX4_turnTo : ByteArray := prog_6_method_8_code
def yX4_turnTo : MethodName := ⟨RX4, "turnTo", "(II)I"⟩
abbrev cX4_slip : ByteArray := prog_6_method_9_code
def yX4_slip : MethodName := ⟨RX4, "slip", "()V"⟩
abbrev cX4_allTurns : ByteArray := prog_6_method_10_code
def yX4_allTurns : MethodName := ⟨RX4, "allTurns", "()I"⟩
abbrev cX4_bestNear : ByteArray := prog_6_method_11_code
def yX4_bestNear : MethodName := ⟨RX4, "bestNear", "(II)I"⟩
abbrev cX4_bestMemories : ByteArray := prog_6_method_12_code
def yX4_bestMemories : MethodName := ⟨RX4, "bestMemories", "(II)I"⟩
abbrev cX4_sparedBy : ByteArray := prog_6_method_13_code
def yX4_sparedBy : MethodName := ⟨RX4, "sparedBy", "(I)I"⟩
abbrev cX4_savedByMarks : ByteArray := prog_6_method_14_code
def yX4_savedByMarks : MethodName := ⟨RX4, "savedByMarks", "()I"⟩
abbrev cX4_moreByWilful : ByteArray := prog_6_method_15_code
def yX4_moreByWilful : MethodName := ⟨RX4, "moreByWilful", "(II)I"⟩
abbrev cX4_drawWeeks : ByteArray := prog_6_method_16_code
def yX4_drawWeeks : MethodName := ⟨RX4, "drawWeeks", "(II)I"⟩
def RX5 : String := "SetAgain$Law"
def TX5 : u_T := fun k => match k with
  | 0 => ("SetAgain$Law", "tape", "[I", true)
  | 1 => ("SetAgain$Law", "length", "I", false)
  | 2 => ("SetAgain$Law", "holds", "Z", false)
  | 3 => ("SetAgain$Law", "draft", "[I", true)
  | 4 => ("SetAgain$Law", "code", "[I", true)
  | 5 => ("SetAgain$Law", "stack", "[I", true)
  | 6 => ("SetAgain$Law", "at", "I", false)
  | 7 => ("SetAgain$Law", "fault", "I", false)
  | 8 => ("SetAgain$Law", "drafted", "I", false)
  | _ => ("SetAgain$Law", "coded", "I", false)
def tyX5 : Nat → FieldType := fun k => match k with
  | 0 => .array .int
  | 1 => .int
  | 2 => .boolean
  | 3 => .array .int
  | 4 => .array .int
  | 5 => .array .int
  | 6 => .int
  | 7 => .int
  | 8 => .int
  | _ => .int
abbrev wsX50 : List Cond := u_ws RX5 TX5 10
theorem nmX5 : ∀ a, a < 10 → ∀ b, b < 10 → a ≠ b → (TX5 a).2.1 ≠ (TX5 b).2.1 := by decide +kernel
theorem tyX5_ok : ∀ k, k < 10 → parseFieldDescriptor (TX5 k).2.2.1 = some (tyX5 k) := by decide +kernel
abbrev cX5_takes : ByteArray := prog_7_method_2_code
def yX5_takes : MethodName := ⟨RX5, "takes", "(I)I"⟩
abbrev cX5_isRead : ByteArray := prog_7_method_3_code
def yX5_isRead : MethodName := ⟨RX5, "isRead", "()I"⟩
abbrev cX5_lines : ByteArray := prog_7_method_4_code
def yX5_lines : MethodName := ⟨RX5, "lines", "()V"⟩
abbrev cX5_line : ByteArray := prog_7_method_5_code
def yX5_line : MethodName := ⟨RX5, "line", "()V"⟩
abbrev cX5_either : ByteArray := prog_7_method_6_code
def yX5_either : MethodName := ⟨RX5, "either", "(I)V"⟩
abbrev cX5_both : ByteArray := prog_7_method_7_code
def yX5_both : MethodName := ⟨RX5, "both", "(I)V"⟩
abbrev cX5_compared : ByteArray := prog_7_method_8_code
def yX5_compared : MethodName := ⟨RX5, "compared", "(I)V"⟩
abbrev cX5_sum : ByteArray := prog_7_method_9_code
def yX5_sum : MethodName := ⟨RX5, "sum", "(I)V"⟩
abbrev cX5_product : ByteArray := prog_7_method_10_code
def yX5_product : MethodName := ⟨RX5, "product", "(I)V"⟩
abbrev cX5_operand : ByteArray := prog_7_method_11_code
def yX5_operand : MethodName := ⟨RX5, "operand", "(I)V"⟩
abbrev cX5_opened : ByteArray := prog_7_method_12_code
def yX5_opened : MethodName := ⟨RX5, "opened", "(II)V"⟩
abbrev cX5_number : ByteArray := prog_7_method_13_code
def yX5_number : MethodName := ⟨RX5, "number", "()V"⟩
abbrev cX5_isDigit : ByteArray := prog_7_method_14_code
def yX5_isDigit : MethodName := ⟨RX5, "isDigit", "(I)Z"⟩
abbrev cX5_isName : ByteArray := prog_7_method_15_code
def yX5_isName : MethodName := ⟨RX5, "isName", "(I)Z"⟩
abbrev cX5_next : ByteArray := prog_7_method_16_code
def yX5_next : MethodName := ⟨RX5, "next", "()I"⟩
abbrev cX5_fail : ByteArray := prog_7_method_17_code
def yX5_fail : MethodName := ⟨RX5, "fail", "()V"⟩
abbrev cX5_write : ByteArray := prog_7_method_18_code
def yX5_write : MethodName := ⟨RX5, "write", "(I)V"⟩
abbrev cX5_valueOf : ByteArray := prog_7_method_19_code
def yX5_valueOf : MethodName := ⟨RX5, "valueOf", "(IIII)I"⟩
abbrev cX5_operands : ByteArray := prog_7_method_20_code
def yX5_operands : MethodName := ⟨RX5, "operands", "(I)I"⟩
abbrev cX5_named : ByteArray := prog_7_method_21_code
def yX5_named : MethodName := ⟨RX5, "named", "(IIIII)I"⟩
abbrev cX5_worked : ByteArray := prog_7_method_22_code
def yX5_worked : MethodName := ⟨RX5, "worked", "(III)I"⟩
def RX6 : String := "SetAgain$Seen"
def TX6 : u_T := fun k => match k with
  | 0 => ("SetAgain$Seen", "chair", "LSetAgain$Chair;", true)
  | 1 => ("SetAgain$Seen", "row", "LSetAgain$Shelf;", false)
  | _ => ("SetAgain$Seen", "part", "I", false)
def tyX6 : Nat → FieldType := fun k => match k with
  | 0 => .object "SetAgain$Chair"
  | 1 => .object "SetAgain$Shelf"
  | _ => .int
abbrev wsX60 : List Cond := u_ws RX6 TX6 3
theorem nmX6 : ∀ a, a < 3 → ∀ b, b < 3 → a ≠ b → (TX6 a).2.1 ≠ (TX6 b).2.1 := by decide +kernel
theorem tyX6_ok : ∀ k, k < 3 → parseFieldDescriptor (TX6 k).2.2.1 = some (tyX6 k) := by decide +kernel
abbrev cX6_mayHaveSat : ByteArray := prog_8_method_2_code
def yX6_mayHaveSat : MethodName := ⟨RX6, "mayHaveSat", "(LSetAgain$Shelf;II)I"⟩
abbrev cX6_reachedAhead : ByteArray := prog_8_method_3_code
def yX6_reachedAhead : MethodName := ⟨RX6, "reachedAhead", "(I)J"⟩
abbrev cX6_fittingBehind : ByteArray := prog_8_method_4_code
def yX6_fittingBehind : MethodName := ⟨RX6, "fittingBehind", "(I)J"⟩
abbrev cX6_asSeen : ByteArray := prog_8_method_5_code
def yX6_asSeen : MethodName := ⟨RX6, "asSeen", "(I)J"⟩
abbrev cX6_allBehind : ByteArray := prog_8_method_6_code
def yX6_allBehind : MethodName := ⟨RX6, "allBehind", "(JI)J"⟩
abbrev cX6_allAhead : ByteArray := prog_8_method_7_code
def yX6_allAhead : MethodName := ⟨RX6, "allAhead", "(J)J"⟩
abbrev cX6_behindShift : ByteArray := prog_8_method_8_code
def yX6_behindShift : MethodName := ⟨RX6, "behindShift", "(II)I"⟩
def RX7 : String := "SetAgain$Shelf"
def TX7 : u_T := fun k => match k with
  | 0 => ("SetAgain$Shelf", "elements", "[J", true)
  | 1 => ("SetAgain$Shelf", "sort", "I", false)
  | 2 => ("SetAgain$Shelf", "length", "I", false)
  | _ => ("SetAgain$Shelf", "desk", "I", false)
def tyX7 : Nat → FieldType := fun k => match k with
  | 0 => .array .long
  | 1 => .int
  | 2 => .int
  | _ => .int
abbrev wsX70 : List Cond := u_ws RX7 TX7 4
theorem nmX7 : ∀ a, a < 4 → ∀ b, b < 4 → a ≠ b → (TX7 a).2.1 ≠ (TX7 b).2.1 := by decide +kernel
theorem tyX7_ok : ∀ k, k < 4 → parseFieldDescriptor (TX7 k).2.2.1 = some (tyX7 k) := by decide +kernel
abbrev cX7_takesDesk : ByteArray := prog_9_method_2_code
def yX7_takesDesk : MethodName := ⟨RX7, "takesDesk", "(I)V"⟩
abbrev cX7_takesRow : ByteArray := prog_9_method_3_code
def yX7_takesRow : MethodName := ⟨RX7, "takesRow", "(II)V"⟩
abbrev cX7_isRow : ByteArray := prog_9_method_4_code
def yX7_isRow : MethodName := ⟨RX7, "isRow", "()Z"⟩
abbrev cX7_hasPlaces : ByteArray := prog_9_method_5_code
def yX7_hasPlaces : MethodName := ⟨RX7, "hasPlaces", "(II)Z"⟩
abbrev cX7_cut : ByteArray := prog_9_method_6_code
def yX7_cut : MethodName := ⟨RX7, "cut", "(J)J"⟩
def RX8 : String := "SetAgain$Still"
def TX8 : u_T := fun k => match k with
  | 0 => ("SetAgain$Still", "chair", "LSetAgain$Chair;", true)
  | 1 => ("SetAgain$Still", "week", "LSetAgain$Week;", true)
  | 2 => ("SetAgain$Still", "weight", "[I", true)
  | 3 => ("SetAgain$Still", "wanted", "[Z", true)
  | 4 => ("SetAgain$Still", "ones", "[I", true)
  | 5 => ("SetAgain$Still", "sums", "[I", true)
  | 6 => ("SetAgain$Still", "leasts", "[I", true)
  | 7 => ("SetAgain$Still", "group", "[I", true)
  | 8 => ("SetAgain$Still", "bestGroup", "[I", true)
  | 9 => ("SetAgain$Still", "sitting", "I", false)
  | 10 => ("SetAgain$Still", "free", "I", false)
  | 11 => ("SetAgain$Still", "least", "I", false)
  | _ => ("SetAgain$Still", "found", "Z", false)
def tyX8 : Nat → FieldType := fun k => match k with
  | 0 => .object "SetAgain$Chair"
  | 1 => .object "SetAgain$Week"
  | 2 => .array .int
  | 3 => .array .boolean
  | 4 => .array .int
  | 5 => .array .int
  | 6 => .array .int
  | 7 => .array .int
  | 8 => .array .int
  | 9 => .int
  | 10 => .int
  | 11 => .int
  | _ => .boolean
abbrev wsX80 : List Cond := u_ws RX8 TX8 13
theorem nmX8 : ∀ a, a < 13 → ∀ b, b < 13 → a ≠ b → (TX8 a).2.1 ≠ (TX8 b).2.1 := by decide +kernel
theorem tyX8_ok : ∀ k, k < 13 → parseFieldDescriptor (TX8 k).2.2.1 = some (tyX8 k) := by decide +kernel
abbrev cX8_allLosses : ByteArray := prog_10_method_2_code
def yX8_allLosses : MethodName := ⟨RX8, "allLosses", "(II)I"⟩
abbrev cX8_worstLoss : ByteArray := prog_10_method_3_code
def yX8_worstLoss : MethodName := ⟨RX8, "worstLoss", "(II)I"⟩
abbrev cX8_bestOf : ByteArray := prog_10_method_4_code
def yX8_bestOf : MethodName := ⟨RX8, "bestOf", "(II)I"⟩
abbrev cX8_middleWant : ByteArray := prog_10_method_5_code
def yX8_middleWant : MethodName := ⟨RX8, "middleWant", "(I)I"⟩
abbrev cX8_weighWants : ByteArray := prog_10_method_6_code
def yX8_weighWants : MethodName := ⟨RX8, "weighWants", "(I)I"⟩
abbrev cX8_parted : ByteArray := prog_10_method_7_code
def yX8_parted : MethodName := ⟨RX8, "parted", "(III)I"⟩
abbrev cX8_gather : ByteArray := prog_10_method_8_code
def yX8_gather : MethodName := ⟨RX8, "gather", "()V"⟩
abbrev cX8_sumGroups : ByteArray := prog_10_method_9_code
def yX8_sumGroups : MethodName := ⟨RX8, "sumGroups", "(I)V"⟩
abbrev cX8_sumGroupsUpTo : ByteArray := prog_10_method_10_code
def yX8_sumGroupsUpTo : MethodName := ⟨RX8, "sumGroupsUpTo", "(IIZ)V"⟩
abbrev cX8_part : ByteArray := prog_10_method_11_code
def yX8_part : MethodName := ⟨RX8, "part", "(I)V"⟩
abbrev cX8_weigh : ByteArray := prog_10_method_12_code
def yX8_weigh : MethodName := ⟨RX8, "weigh", "()V"⟩
abbrev cX8_chairOf : ByteArray := prog_10_method_13_code
def yX8_chairOf : MethodName := ⟨RX8, "chairOf", "(I)I"⟩
def RX9 : String := "SetAgain$Turning"
def TX9 : u_T := fun k => match k with
  | 0 => ("SetAgain$Turning", "chair", "LSetAgain$Chair;", true)
  | 1 => ("SetAgain$Turning", "week", "LSetAgain$Week;", true)
  | _ => ("SetAgain$Turning", "ahead", "[I", true)
abbrev wsX90 : List Cond := u_ws RX9 TX9 3
abbrev cX9_shiftByShift : ByteArray := prog_11_method_2_code
def yX9_shiftByShift : MethodName := ⟨RX9, "shiftByShift", "(II)I"⟩
abbrev cX9_pay : ByteArray := prog_11_method_3_code
def yX9_pay : MethodName := ⟨RX9, "pay", "(IZ)V"⟩
abbrev cX9_unturned : ByteArray := prog_11_method_4_code
def yX9_unturned : MethodName := ⟨RX9, "unturned", "(III)I"⟩
abbrev cX9_spread : ByteArray := prog_11_method_5_code
def yX9_spread : MethodName := ⟨RX9, "spread", "(II)V"⟩
abbrev cX9_leastSetting : ByteArray := prog_11_method_6_code
def yX9_leastSetting : MethodName := ⟨RX9, "leastSetting", "(III)I"⟩
abbrev cX9_oneTurning : ByteArray := prog_11_method_7_code
def yX9_oneTurning : MethodName := ⟨RX9, "oneTurning", "(II)I"⟩
def RX10 : String := "SetAgain$Week"
def TX10 : u_T := fun k => match k with
  | 0 => ("SetAgain$Week", "sitters", "[I", true)
  | 1 => ("SetAgain$Week", "times", "[I", true)
  | 2 => ("SetAgain$Week", "length", "I", false)
  | _ => ("SetAgain$Week", "sat", "I", false)
def tyX10 : Nat → FieldType := fun k => match k with
  | 0 => .array .int
  | 1 => .array .int
  | 2 => .int
  | _ => .int
abbrev wsX100 : List Cond := u_ws RX10 TX10 4
theorem nmX10 : ∀ a, a < 4 → ∀ b, b < 4 → a ≠ b → (TX10 a).2.1 ≠ (TX10 b).2.1 := by decide +kernel
theorem tyX10_ok : ∀ k, k < 4 → parseFieldDescriptor (TX10 k).2.2.1 = some (tyX10 k) := by decide +kernel
abbrev cX10_reads : ByteArray := prog_12_method_2_code
def yX10_reads : MethodName := ⟨RX10, "reads", "(LSetAgain$Shelf;I)V"⟩
def RX11 : String := "SetAgain"
def TX11 : u_T := fun k => match k with
  | 0 => ("SetAgain", "chair", "LSetAgain$Chair;", true)
  | 1 => ("SetAgain", "week", "LSetAgain$Week;", true)
  | 2 => ("SetAgain", "habits", "LSetAgain$Habits;", true)
  | 3 => ("SetAgain", "still", "LSetAgain$Still;", true)
  | 4 => ("SetAgain", "turning", "LSetAgain$Turning;", true)
  | 5 => ("SetAgain", "seen", "LSetAgain$Seen;", true)
  | 6 => ("SetAgain", "deed", "LSetAgain$Deed;", true)
  | 7 => ("SetAgain", "changes", "LSetAgain$Changes;", true)
  | 8 => ("SetAgain", "desks", "LSetAgain$Desks;", true)
  | _ => ("SetAgain", "shelves", "[LSetAgain$Shelf;", true)
abbrev wsX110 : List Cond := u_ws RX11 TX11 10
abbrev cX11_sitter : ByteArray := prog_1_method_2_code
def yX11_sitter : MethodName := ⟨RX11, "sitter", "(II)I"⟩
abbrev cX11_sitters : ByteArray := prog_1_method_3_code
def yX11_sitters : MethodName := ⟨RX11, "sitters", "(III)I"⟩
abbrev cX11_mend : ByteArray := prog_1_method_4_code
def yX11_mend : MethodName := ⟨RX11, "mend", "(III)I"⟩
abbrev cX11_of : ByteArray := prog_1_method_5_code
def yX11_of : MethodName := ⟨RX11, "of", "(II)I"⟩
abbrev cX11_feed : ByteArray := prog_1_method_6_code
def yX11_feed : MethodName := ⟨RX11, "feed", "(I)I"⟩
abbrev cX11_law : ByteArray := prog_1_method_7_code
def yX11_law : MethodName := ⟨RX11, "law", "()I"⟩
abbrev cX11_loss : ByteArray := prog_1_method_8_code
def yX11_loss : MethodName := ⟨RX11, "loss", "(III)I"⟩
abbrev cX11_never : ByteArray := prog_1_method_9_code
def yX11_never : MethodName := ⟨RX11, "never", "(III)I"⟩
abbrev cX11_best : ByteArray := prog_1_method_10_code
def yX11_best : MethodName := ⟨RX11, "best", "(III)I"⟩
abbrev cX11_middle : ByteArray := prog_1_method_11_code
def yX11_middle : MethodName := ⟨RX11, "middle", "(II)I"⟩
abbrev cX11_shifts : ByteArray := prog_1_method_12_code
def yX11_shifts : MethodName := ⟨RX11, "shifts", "(III)I"⟩
abbrev cX11_once : ByteArray := prog_1_method_13_code
def yX11_once : MethodName := ⟨RX11, "once", "(III)I"⟩
abbrev cX11_week : ByteArray := prog_1_method_14_code
def yX11_week : MethodName := ⟨RX11, "week", "(II)I"⟩
abbrev cX11_stands : ByteArray := prog_1_method_15_code
def yX11_stands : MethodName := ⟨RX11, "stands", "(III)I"⟩
abbrev cX11_pays : ByteArray := prog_1_method_16_code
def yX11_pays : MethodName := ⟨RX11, "pays", "(III)I"⟩
abbrev cX11_memories : ByteArray := prog_1_method_17_code
def yX11_memories : MethodName := ⟨RX11, "memories", "(III)I"⟩
abbrev cX11_marked : ByteArray := prog_1_method_18_code
def yX11_marked : MethodName := ⟨RX11, "marked", "(I)I"⟩
abbrev cX11_chairs : ByteArray := prog_1_method_19_code
def yX11_chairs : MethodName := ⟨RX11, "chairs", "(III)I"⟩
abbrev cX11_wilful : ByteArray := prog_1_method_20_code
def yX11_wilful : MethodName := ⟨RX11, "wilful", "(III)I"⟩
abbrev cX11_who : ByteArray := prog_1_method_21_code
def yX11_who : MethodName := ⟨RX11, "who", "(III)I"⟩
abbrev cX11_judge : ByteArray := prog_1_method_22_code
def yX11_judge : MethodName := ⟨RX11, "judge", "(II)I"⟩
abbrev cX11_drawn : ByteArray := prog_1_method_23_code
def yX11_drawn : MethodName := ⟨RX11, "drawn", "(IIII)I"⟩
abbrev cX11_sit : ByteArray := prog_1_method_24_code
def yX11_sit : MethodName := ⟨RX11, "sit", "(I)I"⟩
abbrev cX11_set : ByteArray := prog_1_method_25_code
def yX11_set : MethodName := ⟨RX11, "set", "(II)I"⟩
abbrev cX11_night : ByteArray := prog_1_method_26_code
def yX11_night : MethodName := ⟨RX11, "night", "()I"⟩
abbrev cX11_led : ByteArray := prog_1_method_27_code
def yX11_led : MethodName := ⟨RX11, "led", "(I)I"⟩
abbrev cX11_image : ByteArray := prog_1_method_28_code
def yX11_image : MethodName := ⟨RX11, "image", "()I"⟩
abbrev cX11_back : ByteArray := prog_1_method_29_code
def yX11_back : MethodName := ⟨RX11, "back", "()I"⟩
abbrev cX11_undo : ByteArray := prog_1_method_30_code
def yX11_undo : MethodName := ⟨RX11, "undo", "()I"⟩
abbrev cX11_redo : ByteArray := prog_1_method_31_code
def yX11_redo : MethodName := ⟨RX11, "redo", "()I"⟩
abbrev cX11_body : ByteArray := prog_1_method_32_code
def yX11_body : MethodName := ⟨RX11, "body", "(I)I"⟩
abbrev cX11_act : ByteArray := prog_1_method_33_code
def yX11_act : MethodName := ⟨RX11, "act", "(III)I"⟩
abbrev cX11_trace : ByteArray := prog_1_method_34_code
def yX11_trace : MethodName := ⟨RX11, "trace", "(I)I"⟩
abbrev cX11_keep : ByteArray := prog_1_method_35_code
def yX11_keep : MethodName := ⟨RX11, "keep", "(II)I"⟩
abbrev cX11_row : ByteArray := prog_1_method_36_code
def yX11_row : MethodName := ⟨RX11, "row", "(III)I"⟩
abbrev cX11_put : ByteArray := prog_1_method_37_code
def yX11_put : MethodName := ⟨RX11, "put", "(IIJ)I"⟩
abbrev cX11_element : ByteArray := prog_1_method_38_code
def yX11_element : MethodName := ⟨RX11, "element", "(II)J"⟩
abbrev cX11_shift : ByteArray := prog_1_method_39_code
def yX11_shift : MethodName := ⟨RX11, "shift", "(IIIII)I"⟩
abbrev cX11_taken : ByteArray := prog_1_method_40_code
def yX11_taken : MethodName := ⟨RX11, "taken", "(II)I"⟩
abbrev cX11_count : ByteArray := prog_1_method_41_code
def yX11_count : MethodName := ⟨RX11, "count", "(I)I"⟩
abbrev cX11_isPart : ByteArray := prog_1_method_42_code
def yX11_isPart : MethodName := ⟨RX11, "isPart", "(I)Z"⟩
abbrev cX11_isSetting : ByteArray := prog_1_method_43_code
def yX11_isSetting : MethodName := ⟨RX11, "isSetting", "(I)Z"⟩
abbrev cX11_isShelf : ByteArray := prog_1_method_44_code
def yX11_isShelf : MethodName := ⟨RX11, "isShelf", "(I)Z"⟩
abbrev cX11_isKind : ByteArray := prog_1_method_45_code
def yX11_isKind : MethodName := ⟨RX11, "isKind", "(I)Z"⟩
abbrev cX11_fits : ByteArray := prog_1_method_46_code
def yX11_fits : MethodName := ⟨RX11, "fits", "(II)Z"⟩
abbrev cX11_refusalOf : ByteArray := prog_1_method_47_code
def yX11_refusalOf : MethodName := ⟨RX11, "refusalOf", "(I)I"⟩
abbrev cX11_readWeek : ByteArray := prog_1_method_48_code
def yX11_readWeek : MethodName := ⟨RX11, "readWeek", "(I)I"⟩
abbrev cX11_refusalAt : ByteArray := prog_1_method_49_code
def yX11_refusalAt : MethodName := ⟨RX11, "refusalAt", "(II)I"⟩
abbrev cX11_fromRow : ByteArray := prog_1_method_50_code
def yX11_fromRow : MethodName := ⟨RX11, "fromRow", "(LSetAgain$Shelf;II)I"⟩
abbrev cX11_comesFrom : ByteArray := prog_1_method_51_code
def yX11_comesFrom : MethodName := ⟨RX11, "comesFrom", "(LSetAgain$Shelf;I)Z"⟩
abbrev cX11_firstUnlike : ByteArray := prog_1_method_52_code
def yX11_firstUnlike : MethodName := ⟨RX11, "firstUnlike", "(LSetAgain$Shelf;I)I"⟩
def RX12 : String := "SetAgainModel"
def TX12 : u_T := fun k => match k with
  | 0 => ("SetAgainModel", "may", "[I", true)
  | 1 => ("SetAgainModel", "changeAt", "[I", true)
  | 2 => ("SetAgainModel", "changeWas", "[I", true)
  | 3 => ("SetAgainModel", "changeIs", "[I", true)
  | 4 => ("SetAgainModel", "keptMany", "I", false)
  | 5 => ("SetAgainModel", "done", "I", false)
  | 6 => ("SetAgainModel", "sitters", "I", false)
  | 7 => ("SetAgainModel", "stands", "[I", true)
  | 8 => ("SetAgainModel", "tape", "[I", true)
  | 9 => ("SetAgainModel", "tapeMany", "I", false)
  | 10 => ("SetAgainModel", "text", "[I", true)
  | 11 => ("SetAgainModel", "textMany", "I", false)
  | 12 => ("SetAgainModel", "base", "I", false)
  | 13 => ("SetAgainModel", "at", "I", false)
  | 14 => ("SetAgainModel", "ends", "I", false)
  | 15 => ("SetAgainModel", "fault", "I", false)
  | 16 => ("SetAgainModel", "opened", "I", false)
  | 17 => ("SetAgainModel", "names", "[I", true)
  | 18 => ("SetAgainModel", "lossIn", "[I", true)
  | 19 => ("SetAgainModel", "leastFrom", "[I", true)
  | 20 => ("SetAgainModel", "nearOf", "I", false)
  | 21 => ("SetAgainModel", "nearIs", "I", false)
  | 22 => ("SetAgainModel", "memorySet", "I", false)
  | 23 => ("SetAgainModel", "isMarked", "Z", false)
  | 24 => ("SetAgainModel", "wilfulOf", "I", false)
  | 25 => ("SetAgainModel", "wilfulTo", "I", false)
  | 26 => ("SetAgainModel", "isIll", "[Z", true)
  | 27 => ("SetAgainModel", "stand1", "[I", true)
  | 28 => ("SetAgainModel", "standBehind", "[I", true)
  | 29 => ("SetAgainModel", "turnsAll", "I", false)
  | 30 => ("SetAgainModel", "lossesAll", "I", false)
  | 31 => ("SetAgainModel", "turnCosts", "I", false)
  | 32 => ("SetAgainModel", "lossAt", "[I", true)
  | 33 => ("SetAgainModel", "chairOf", "[I", true)
  | 34 => ("SetAgainModel", "bestChair", "[I", true)
  | 35 => ("SetAgainModel", "leastChairs", "I", false)
  | 36 => ("SetAgainModel", "canStand", "[Z", true)
  | 37 => ("SetAgainModel", "canGoOn", "[Z", true)
  | 38 => ("SetAgainModel", "ledShifts", "I", false)
  | 39 => ("SetAgainModel", "ledTurns", "I", false)
  | 40 => ("SetAgainModel", "ledLosses", "I", false)
  | 41 => ("SetAgainModel", "ledDearest", "I", false)
  | 42 => ("SetAgainModel", "ledWho", "I", false)
  | 43 => ("SetAgainModel", "isKept", "Z", false)
  | 44 => ("SetAgainModel", "image", "[I", true)
  | 45 => ("SetAgainModel", "bodies", "I", false)
  | 46 => ("SetAgainModel", "bodyKind", "[I", true)
  | 47 => ("SetAgainModel", "trace", "[I", true)
  | 48 => ("SetAgainModel", "ran", "I", false)
  | 49 => ("SetAgainModel", "ownKind", "I", false)
  | 50 => ("SetAgainModel", "ownNumber", "I", false)
  | 51 => ("SetAgainModel", "shelf", "[I", true)
  | 52 => ("SetAgainModel", "many", "[I", true)
  | 53 => ("SetAgainModel", "items", "[J", true)
  | _ => ("SetAgainModel", "carried", "[J", true)
def tyX12 : Nat → FieldType := fun k => match k with
  | 0 => .array .int
  | 1 => .array .int
  | 2 => .array .int
  | 3 => .array .int
  | 4 => .int
  | 5 => .int
  | 6 => .int
  | 7 => .array .int
  | 8 => .array .int
  | 9 => .int
  | 10 => .array .int
  | 11 => .int
  | 12 => .int
  | 13 => .int
  | 14 => .int
  | 15 => .int
  | 16 => .int
  | 17 => .array .int
  | 18 => .array .int
  | 19 => .array .int
  | 20 => .int
  | 21 => .int
  | 22 => .int
  | 23 => .boolean
  | 24 => .int
  | 25 => .int
  | 26 => .array .boolean
  | 27 => .array .int
  | 28 => .array .int
  | 29 => .int
  | 30 => .int
  | 31 => .int
  | 32 => .array .int
  | 33 => .array .int
  | 34 => .array .int
  | 35 => .int
  | 36 => .array .boolean
  | 37 => .array .boolean
  | 38 => .int
  | 39 => .int
  | 40 => .int
  | 41 => .int
  | 42 => .int
  | 43 => .boolean
  | 44 => .array .int
  | 45 => .int
  | 46 => .array .int
  | 47 => .array .int
  | 48 => .int
  | 49 => .int
  | 50 => .int
  | 51 => .array .int
  | 52 => .array .int
  | 53 => .array .long
  | _ => .array .long
abbrev wsX120 : List Cond := u_ws RX12 TX12 55
theorem nmX12 : ∀ a, a < 55 → ∀ b, b < 55 → a ≠ b → (TX12 a).2.1 ≠ (TX12 b).2.1 := by decide +kernel
theorem tyX12_ok : ∀ k, k < 55 → parseFieldDescriptor (TX12 k).2.2.1 = some (tyX12 k) := by decide +kernel
abbrev cX12_within : ByteArray := prog_14_method_1_code
def yX12_within : MethodName := ⟨RX12, "within", "(JJJ)Z"⟩
abbrev cX12_sizeOf : ByteArray := prog_14_method_2_code
def yX12_sizeOf : MethodName := ⟨RX12, "sizeOf", "(I)I"⟩
abbrev cX12_isIn : ByteArray := prog_14_method_3_code
def yX12_isIn : MethodName := ⟨RX12, "isIn", "(II)Z"⟩
abbrev cX12_bitsOf : ByteArray := prog_14_method_4_code
def yX12_bitsOf : MethodName := ⟨RX12, "bitsOf", "(I)I"⟩
abbrev cX12_becomes : ByteArray := prog_14_method_6_code
def yX12_becomes : MethodName := ⟨RX12, "becomes", "(II)I"⟩
abbrev cX12_undo : ByteArray := prog_14_method_7_code
def yX12_undo : MethodName := ⟨RX12, "undo", "()I"⟩
abbrev cX12_redo : ByteArray := prog_14_method_8_code
def yX12_redo : MethodName := ⟨RX12, "redo", "()I"⟩
abbrev cX12_isSitter : ByteArray := prog_14_method_9_code
def yX12_isSitter : MethodName := ⟨RX12, "isSitter", "(J)Z"⟩
abbrev cX12_isPart : ByteArray := prog_14_method_10_code
def yX12_isPart : MethodName := ⟨RX12, "isPart", "(I)Z"⟩
abbrev cX12_isSetting : ByteArray := prog_14_method_11_code
def yX12_isSetting : MethodName := ⟨RX12, "isSetting", "(J)Z"⟩
abbrev cX12_numberOf : ByteArray := prog_14_method_12_code
def yX12_numberOf : MethodName := ⟨RX12, "numberOf", "(II)I"⟩
abbrev cX12_adds : ByteArray := prog_14_method_13_code
def yX12_adds : MethodName := ⟨RX12, "adds", "(IIII)V"⟩
abbrev cX12_sitter : ByteArray := prog_14_method_14_code
def yX12_sitter : MethodName := ⟨RX12, "sitter", "(II)I"⟩
abbrev cX12_sitters : ByteArray := prog_14_method_15_code
def yX12_sitters : MethodName := ⟨RX12, "sitters", "(III)I"⟩
abbrev cX12_placeOf : ByteArray := prog_14_method_16_code
def yX12_placeOf : MethodName := ⟨RX12, "placeOf", "(II)I"⟩
abbrev cX12_mostOf : ByteArray := prog_14_method_17_code
def yX12_mostOf : MethodName := ⟨RX12, "mostOf", "(I)I"⟩
abbrev cX12_mend : ByteArray := prog_14_method_18_code
def yX12_mend : MethodName := ⟨RX12, "mend", "(III)I"⟩
abbrev cX12_of : ByteArray := prog_14_method_19_code
def yX12_of : MethodName := ⟨RX12, "of", "(II)I"⟩
abbrev cX12_feed : ByteArray := prog_14_method_20_code
def yX12_feed : MethodName := ⟨RX12, "feed", "(I)I"⟩
abbrev cX12_byteAt : ByteArray := prog_14_method_21_code
def yX12_byteAt : MethodName := ⟨RX12, "byteAt", "()I"⟩
abbrev cX12_wrong : ByteArray := prog_14_method_22_code
def yX12_wrong : MethodName := ⟨RX12, "wrong", "()I"⟩
abbrev cX12_takes : ByteArray := prog_14_method_23_code
def yX12_takes : MethodName := ⟨RX12, "takes", "(I)Z"⟩
abbrev cX12_either : ByteArray := prog_14_method_24_code
def yX12_either : MethodName := ⟨RX12, "either", "()I"⟩
abbrev cX12_both : ByteArray := prog_14_method_25_code
def yX12_both : MethodName := ⟨RX12, "both", "()I"⟩
abbrev cX12_compared : ByteArray := prog_14_method_26_code
def yX12_compared : MethodName := ⟨RX12, "compared", "()I"⟩
abbrev cX12_sums : ByteArray := prog_14_method_27_code
def yX12_sums : MethodName := ⟨RX12, "sums", "()I"⟩
abbrev cX12_product : ByteArray := prog_14_method_28_code
def yX12_product : MethodName := ⟨RX12, "product", "()I"⟩
abbrev cX12_nameOf : ByteArray := prog_14_method_29_code
def yX12_nameOf : MethodName := ⟨RX12, "nameOf", "(I)I"⟩
abbrev cX12_one : ByteArray := prog_14_method_30_code
def yX12_one : MethodName := ⟨RX12, "one", "()I"⟩
abbrev cX12_workOut : ByteArray := prog_14_method_31_code
def yX12_workOut : MethodName := ⟨RX12, "workOut", "(II)I"⟩
abbrev cX12_law : ByteArray := prog_14_method_32_code
def yX12_law : MethodName := ⟨RX12, "law", "()I"⟩
abbrev cX12_lossOf : ByteArray := prog_14_method_33_code
def yX12_lossOf : MethodName := ⟨RX12, "lossOf", "(III)I"⟩
abbrev cX12_loss : ByteArray := prog_14_method_34_code
def yX12_loss : MethodName := ⟨RX12, "loss", "(III)I"⟩
abbrev cX12_bytesIs : ByteArray := prog_14_method_35_code
def yX12_bytesIs : MethodName := ⟨RX12, "bytesIs", "(I)I"⟩
abbrev cX12_shiftsOf : ByteArray := prog_14_method_36_code
def yX12_shiftsOf : MethodName := ⟨RX12, "shiftsOf", "(I)I"⟩
abbrev cX12_whoSits : ByteArray := prog_14_method_37_code
def yX12_whoSits : MethodName := ⟨RX12, "whoSits", "(II)I"⟩
abbrev cX12_anySits : ByteArray := prog_14_method_38_code
def yX12_anySits : MethodName := ⟨RX12, "anySits", "(I)Z"⟩
abbrev cX12_neverOf : ByteArray := prog_14_method_39_code
def yX12_neverOf : MethodName := ⟨RX12, "neverOf", "(III)I"⟩
abbrev cX12_worstOf : ByteArray := prog_14_method_40_code
def yX12_worstOf : MethodName := ⟨RX12, "worstOf", "(III)I"⟩
abbrev cX12_never : ByteArray := prog_14_method_41_code
def yX12_never : MethodName := ⟨RX12, "never", "(III)I"⟩
abbrev cX12_best : ByteArray := prog_14_method_42_code
def yX12_best : MethodName := ⟨RX12, "best", "(III)I"⟩
abbrev cX12_weightOf : ByteArray := prog_14_method_43_code
def yX12_weightOf : MethodName := ⟨RX12, "weightOf", "(I)I"⟩
abbrev cX12_weightTo : ByteArray := prog_14_method_44_code
def yX12_weightTo : MethodName := ⟨RX12, "weightTo", "(III)I"⟩
abbrev cX12_isWanted : ByteArray := prog_14_method_45_code
def yX12_isWanted : MethodName := ⟨RX12, "isWanted", "(III)Z"⟩
abbrev cX12_middle : ByteArray := prog_14_method_46_code
def yX12_middle : MethodName := ⟨RX12, "middle", "(II)I"⟩
abbrev cX12_asksLosses : ByteArray := prog_14_method_47_code
def yX12_asksLosses : MethodName := ⟨RX12, "asksLosses", "(II)V"⟩
abbrev cX12_slipped : ByteArray := prog_14_method_48_code
def yX12_slipped : MethodName := ⟨RX12, "slipped", "(II)I"⟩
abbrev cX12_costBy : ByteArray := prog_14_method_49_code
def yX12_costBy : MethodName := ⟨RX12, "costBy", "(IIII)I"⟩
abbrev cX12_shifts : ByteArray := prog_14_method_50_code
def yX12_shifts : MethodName := ⟨RX12, "shifts", "(III)I"⟩
abbrev cX12_once : ByteArray := prog_14_method_51_code
def yX12_once : MethodName := ⟨RX12, "once", "(III)I"⟩
abbrev cX12_nearBy : ByteArray := prog_14_method_52_code
def yX12_nearBy : MethodName := ⟨RX12, "nearBy", "(I)I"⟩
abbrev cX12_priceOf : ByteArray := prog_14_method_53_code
def yX12_priceOf : MethodName := ⟨RX12, "priceOf", "(I)I"⟩
abbrev cX12_turnsTo : ByteArray := prog_14_method_54_code
def yX12_turnsTo : MethodName := ⟨RX12, "turnsTo", "(III)V"⟩
abbrev cX12_comes : ByteArray := prog_14_method_55_code
def yX12_comes : MethodName := ⟨RX12, "comes", "(I)V"⟩
abbrev cX12_beginsWeek : ByteArray := prog_14_method_56_code
def yX12_beginsWeek : MethodName := ⟨RX12, "beginsWeek", "()V"⟩
abbrev cX12_weekOf : ByteArray := prog_14_method_57_code
def yX12_weekOf : MethodName := ⟨RX12, "weekOf", "(I)I"⟩
abbrev cX12_week : ByteArray := prog_14_method_58_code
def yX12_week : MethodName := ⟨RX12, "week", "(II)I"⟩
abbrev cX12_stands : ByteArray := prog_14_method_59_code
def yX12_stands : MethodName := ⟨RX12, "stands", "(III)I"⟩
abbrev cX12_pays : ByteArray := prog_14_method_60_code
def yX12_pays : MethodName := ⟨RX12, "pays", "(III)I"⟩
abbrev cX12_memories : ByteArray := prog_14_method_61_code
def yX12_memories : MethodName := ⟨RX12, "memories", "(III)I"⟩
abbrev cX12_marked : ByteArray := prog_14_method_62_code
def yX12_marked : MethodName := ⟨RX12, "marked", "(I)I"⟩
abbrev cX12_wilful : ByteArray := prog_14_method_63_code
def yX12_wilful : MethodName := ⟨RX12, "wilful", "(III)I"⟩
abbrev cX12_sitsSet : ByteArray := prog_14_method_64_code
def yX12_sitsSet : MethodName := ⟨RX12, "sitsSet", "(I)I"⟩
abbrev cX12_chairLoss : ByteArray := prog_14_method_65_code
def yX12_chairLoss : MethodName := ⟨RX12, "chairLoss", "(II)I"⟩
abbrev cX12_chairsOn : ByteArray := prog_14_method_66_code
def yX12_chairsOn : MethodName := ⟨RX12, "chairsOn", "(IIII)V"⟩
abbrev cX12_chairs : ByteArray := prog_14_method_67_code
def yX12_chairs : MethodName := ⟨RX12, "chairs", "(III)I"⟩
abbrev cX12_standsBy : ByteArray := prog_14_method_68_code
def yX12_standsBy : MethodName := ⟨RX12, "standsBy", "(III)I"⟩
abbrev cX12_isSeen : ByteArray := prog_14_method_69_code
def yX12_isSeen : MethodName := ⟨RX12, "isSeen", "(III)Z"⟩
abbrev cX12_may1 : ByteArray := prog_14_method_70_code
def yX12_may1 : MethodName := ⟨RX12, "may1", "(I)Z"⟩
abbrev cX12_who : ByteArray := prog_14_method_71_code
def yX12_who : MethodName := ⟨RX12, "who", "(III)I"⟩
abbrev cX12_judge : ByteArray := prog_14_method_72_code
def yX12_judge : MethodName := ⟨RX12, "judge", "(II)I"⟩
abbrev cX12_drawn : ByteArray := prog_14_method_73_code
def yX12_drawn : MethodName := ⟨RX12, "drawn", "(IIII)I"⟩
abbrev cX12_sit : ByteArray := prog_14_method_74_code
def yX12_sit : MethodName := ⟨RX12, "sit", "(I)I"⟩
abbrev cX12_set : ByteArray := prog_14_method_75_code
def yX12_set : MethodName := ⟨RX12, "set", "(II)I"⟩
abbrev cX12_night : ByteArray := prog_14_method_76_code
def yX12_night : MethodName := ⟨RX12, "night", "()I"⟩
abbrev cX12_led : ByteArray := prog_14_method_77_code
def yX12_led : MethodName := ⟨RX12, "led", "(I)I"⟩
abbrev cX12_image : ByteArray := prog_14_method_78_code
def yX12_image : MethodName := ⟨RX12, "image", "()I"⟩
abbrev cX12_back : ByteArray := prog_14_method_79_code
def yX12_back : MethodName := ⟨RX12, "back", "()I"⟩
abbrev cX12_isBody : ByteArray := prog_14_method_80_code
def yX12_isBody : MethodName := ⟨RX12, "isBody", "(I)Z"⟩
abbrev cX12_kindOf : ByteArray := prog_14_method_81_code
def yX12_kindOf : MethodName := ⟨RX12, "kindOf", "(I)I"⟩
abbrev cX12_body : ByteArray := prog_14_method_82_code
def yX12_body : MethodName := ⟨RX12, "body", "(I)I"⟩
abbrev cX12_above : ByteArray := prog_14_method_83_code
def yX12_above : MethodName := ⟨RX12, "above", "(I)I"⟩
abbrev cX12_begins : ByteArray := prog_14_method_84_code
def yX12_begins : MethodName := ⟨RX12, "begins", "(I)V"⟩
abbrev cX12_setsAs : ByteArray := prog_14_method_85_code
def yX12_setsAs : MethodName := ⟨RX12, "setsAs", "(II)I"⟩
abbrev cX12_sitsAs : ByteArray := prog_14_method_86_code
def yX12_sitsAs : MethodName := ⟨RX12, "sitsAs", "(II)I"⟩
abbrev cX12_slipsAs : ByteArray := prog_14_method_87_code
def yX12_slipsAs : MethodName := ⟨RX12, "slipsAs", "(II)I"⟩
abbrev cX12_tellsAs : ByteArray := prog_14_method_88_code
def yX12_tellsAs : MethodName := ⟨RX12, "tellsAs", "(II)I"⟩
abbrev cX12_act : ByteArray := prog_14_method_89_code
def yX12_act : MethodName := ⟨RX12, "act", "(III)I"⟩
abbrev cX12_trace : ByteArray := prog_14_method_90_code
def yX12_trace : MethodName := ⟨RX12, "trace", "(I)I"⟩
abbrev cX12_isShelf : ByteArray := prog_14_method_91_code
def yX12_isShelf : MethodName := ⟨RX12, "isShelf", "(I)Z"⟩
abbrev cX12_keep : ByteArray := prog_14_method_92_code
def yX12_keep : MethodName := ⟨RX12, "keep", "(II)I"⟩
abbrev cX12_row : ByteArray := prog_14_method_93_code
def yX12_row : MethodName := ⟨RX12, "row", "(III)I"⟩
abbrev cX12_refusal : ByteArray := prog_14_method_94_code
def yX12_refusal : MethodName := ⟨RX12, "refusal", "(II)I"⟩
abbrev cX12_asSort : ByteArray := prog_14_method_95_code
def yX12_asSort : MethodName := ⟨RX12, "asSort", "(IJ)J"⟩
abbrev cX12_put : ByteArray := prog_14_method_96_code
def yX12_put : MethodName := ⟨RX12, "put", "(IIJ)I"⟩
abbrev cX12_element : ByteArray := prog_14_method_97_code
def yX12_element : MethodName := ⟨RX12, "element", "(II)J"⟩
abbrev cX12_shift : ByteArray := prog_14_method_98_code
def yX12_shift : MethodName := ⟨RX12, "shift", "(IIIII)I"⟩
abbrev cX12_taken : ByteArray := prog_14_method_99_code
def yX12_taken : MethodName := ⟨RX12, "taken", "(II)I"⟩
abbrev cX12_count : ByteArray := prog_14_method_100_code
def yX12_count : MethodName := ⟨RX12, "count", "(I)I"⟩
def RJ6 : String := "java/lang/Integer"
abbrev cJ6_bitCount_0f7a4 : ByteArray := prog_15_method_49_code
def yJ6_bitCount_0f7a4 : MethodName := ⟨RJ6, "bitCount", "(I)I"⟩
theorem dX0_has_0 : decode cX0_has 0 = .ok (.iload_n 1, 1) := by decide +kernel
theorem dX0_has_1 : decode cX0_has 1 = .ok (.ifCond .lt 15, 3) := by decide +kernel
theorem dX0_has_4 : decode cX0_has 4 = .ok (.iload_n 1, 1) := by decide +kernel
theorem dX0_has_5 : decode cX0_has 5 = .ok (.aload_n 0, 1) := by decide +kernel
theorem dX0_has_6 : decode cX0_has 6 = .ok (.getfield 28, 3) := by decide +kernel
theorem dX0_has_9 : decode cX0_has 9 = .ok (.if_icmp .ge 7, 3) := by decide +kernel
theorem dX0_has_12 : decode cX0_has 12 = .ok (.iconst 1, 1) := by decide +kernel
theorem dX0_has_13 : decode cX0_has 13 = .ok (.goto 4, 3) := by decide +kernel
theorem dX0_has_16 : decode cX0_has 16 = .ok (.iconst 0, 1) := by decide +kernel
theorem dX0_has_17 : decode cX0_has 17 = .ok (.ireturn, 1) := by decide +kernel
theorem dX0_placeOf_0 : decode cX0_placeOf 0 = .ok (.iload_n 1, 1) := by decide +kernel
theorem dX0_placeOf_1 : decode cX0_placeOf 1 = .ok (.ifCond .lt 13, 3) := by decide +kernel
theorem dX0_placeOf_4 : decode cX0_placeOf 4 = .ok (.iload_n 2, 1) := by decide +kernel
theorem dX0_placeOf_5 : decode cX0_placeOf 5 = .ok (.ifCond .lt 9, 3) := by decide +kernel
theorem dX0_placeOf_8 : decode cX0_placeOf 8 = .ok (.iload_n 2, 1) := by decide +kernel
theorem dX0_placeOf_9 : decode cX0_placeOf 9 = .ok (.bipush 10, 2) := by decide +kernel
theorem dX0_placeOf_11 : decode cX0_placeOf 11 = .ok (.if_icmp .le 5, 3) := by decide +kernel
theorem dX0_placeOf_14 : decode cX0_placeOf 14 = .ok (.iconst (-1), 1) := by decide +kernel
theorem dX0_placeOf_15 : decode cX0_placeOf 15 = .ok (.ireturn, 1) := by decide +kernel
theorem dX0_placeOf_16 : decode cX0_placeOf 16 = .ok (.iload_n 2, 1) := by decide +kernel
theorem dX0_placeOf_17 : decode cX0_placeOf 17 = .ok (.bipush 8, 2) := by decide +kernel
theorem dX0_placeOf_19 : decode cX0_placeOf 19 = .ok (.if_icmp .ge 22, 3) := by decide +kernel
theorem dX0_placeOf_22 : decode cX0_placeOf 22 = .ok (.iload_n 1, 1) := by decide +kernel
theorem dX0_placeOf_23 : decode cX0_placeOf 23 = .ok (.aload_n 0, 1) := by decide +kernel
theorem dX0_placeOf_24 : decode cX0_placeOf 24 = .ok (.getfield 28, 3) := by decide +kernel
theorem dX0_placeOf_27 : decode cX0_placeOf 27 = .ok (.if_icmp .ge 12, 3) := by decide +kernel
theorem dX0_placeOf_30 : decode cX0_placeOf 30 = .ok (.iload_n 1, 1) := by decide +kernel
theorem dX0_placeOf_31 : decode cX0_placeOf 31 = .ok (.bipush 8, 2) := by decide +kernel
theorem dX0_placeOf_33 : decode cX0_placeOf 33 = .ok (.imul, 1) := by decide +kernel
theorem dX0_placeOf_34 : decode cX0_placeOf 34 = .ok (.iload_n 2, 1) := by decide +kernel
theorem dX0_placeOf_35 : decode cX0_placeOf 35 = .ok (.iadd, 1) := by decide +kernel
theorem dX0_placeOf_36 : decode cX0_placeOf 36 = .ok (.goto 4, 3) := by decide +kernel
theorem dX0_placeOf_39 : decode cX0_placeOf 39 = .ok (.iconst (-1), 1) := by decide +kernel
theorem dX0_placeOf_40 : decode cX0_placeOf 40 = .ok (.ireturn, 1) := by decide +kernel
theorem dX0_placeOf_41 : decode cX0_placeOf 41 = .ok (.iload_n 2, 1) := by decide +kernel
theorem dX0_placeOf_42 : decode cX0_placeOf 42 = .ok (.bipush 10, 2) := by decide +kernel
theorem dX0_placeOf_44 : decode cX0_placeOf 44 = .ok (.if_icmp .ne 14, 3) := by decide +kernel
theorem dX0_placeOf_47 : decode cX0_placeOf 47 = .ok (.iload_n 1, 1) := by decide +kernel
theorem dX0_placeOf_48 : decode cX0_placeOf 48 = .ok (.ifCond .ne 8, 3) := by decide +kernel
theorem dX0_placeOf_51 : decode cX0_placeOf 51 = .ok (.bipush 70, 2) := by decide +kernel
theorem dX0_placeOf_53 : decode cX0_placeOf 53 = .ok (.goto 4, 3) := by decide +kernel
theorem dX0_placeOf_56 : decode cX0_placeOf 56 = .ok (.iconst (-1), 1) := by decide +kernel
theorem dX0_placeOf_57 : decode cX0_placeOf 57 = .ok (.ireturn, 1) := by decide +kernel
theorem dX0_placeOf_58 : decode cX0_placeOf 58 = .ok (.iload_n 1, 1) := by decide +kernel
theorem dX0_placeOf_59 : decode cX0_placeOf 59 = .ok (.iconst 3, 1) := by decide +kernel
theorem dX0_placeOf_60 : decode cX0_placeOf 60 = .ok (.if_icmp .lt 5, 3) := by decide +kernel
theorem dX0_placeOf_63 : decode cX0_placeOf 63 = .ok (.iconst (-1), 1) := by decide +kernel
theorem dX0_placeOf_64 : decode cX0_placeOf 64 = .ok (.ireturn, 1) := by decide +kernel
theorem dX0_placeOf_65 : decode cX0_placeOf 65 = .ok (.iload_n 2, 1) := by decide +kernel
theorem dX0_placeOf_66 : decode cX0_placeOf 66 = .ok (.bipush 9, 2) := by decide +kernel
theorem dX0_placeOf_68 : decode cX0_placeOf 68 = .ok (.if_icmp .ne 8, 3) := by decide +kernel
theorem dX0_placeOf_71 : decode cX0_placeOf 71 = .ok (.bipush 67, 2) := by decide +kernel
theorem dX0_placeOf_73 : decode cX0_placeOf 73 = .ok (.goto 5, 3) := by decide +kernel
theorem dX0_placeOf_76 : decode cX0_placeOf 76 = .ok (.bipush 64, 2) := by decide +kernel
theorem dX0_placeOf_78 : decode cX0_placeOf 78 = .ok (.iload_n 1, 1) := by decide +kernel
theorem dX0_placeOf_79 : decode cX0_placeOf 79 = .ok (.iadd, 1) := by decide +kernel
theorem dX0_placeOf_80 : decode cX0_placeOf 80 = .ok (.ireturn, 1) := by decide +kernel
theorem dX0_comes_0 : decode cX0_comes 0 = .ok (.aload_n 0, 1) := by decide +kernel
theorem dX0_comes_1 : decode cX0_comes 1 = .ok (.getfield 28, 3) := by decide +kernel
theorem dX0_comes_4 : decode cX0_comes 4 = .ok (.bipush 8, 2) := by decide +kernel
theorem dX0_comes_6 : decode cX0_comes 6 = .ok (.if_icmp .lt 6, 3) := by decide +kernel
theorem dX0_comes_9 : decode cX0_comes 9 = .ok (.bipush (-3), 2) := by decide +kernel
theorem dX0_comes_11 : decode cX0_comes 11 = .ok (.ireturn, 1) := by decide +kernel
theorem dX0_comes_12 : decode cX0_comes 12 = .ok (.aload_n 0, 1) := by decide +kernel
theorem dX0_comes_13 : decode cX0_comes 13 = .ok (.getfield 28, 3) := by decide +kernel
theorem dX0_comes_16 : decode cX0_comes 16 = .ok (.bipush 8, 2) := by decide +kernel
theorem dX0_comes_18 : decode cX0_comes 18 = .ok (.imul, 1) := by decide +kernel
theorem dX0_comes_19 : decode cX0_comes 19 = .ok (.istore 5, 2) := by decide +kernel
theorem dX0_comes_21 : decode cX0_comes 21 = .ok (.aload_n 0, 1) := by decide +kernel
theorem dX0_comes_22 : decode cX0_comes 22 = .ok (.getfield 11, 3) := by decide +kernel
theorem dX0_comes_25 : decode cX0_comes 25 = .ok (.iload 5, 2) := by decide +kernel
theorem dX0_comes_27 : decode cX0_comes 27 = .ok (.iload_n 1, 1) := by decide +kernel
theorem dX0_comes_28 : decode cX0_comes 28 = .ok (.iastore, 1) := by decide +kernel
theorem dX0_comes_29 : decode cX0_comes 29 = .ok (.aload_n 0, 1) := by decide +kernel
theorem dX0_comes_30 : decode cX0_comes 30 = .ok (.getfield 11, 3) := by decide +kernel
theorem dX0_comes_33 : decode cX0_comes 33 = .ok (.iload 5, 2) := by decide +kernel
theorem dX0_comes_35 : decode cX0_comes 35 = .ok (.iconst 1, 1) := by decide +kernel
theorem dX0_comes_36 : decode cX0_comes 36 = .ok (.iadd, 1) := by decide +kernel
theorem dX0_comes_37 : decode cX0_comes 37 = .ok (.iload_n 2, 1) := by decide +kernel
theorem dX0_comes_38 : decode cX0_comes 38 = .ok (.iastore, 1) := by decide +kernel
theorem dX0_comes_39 : decode cX0_comes 39 = .ok (.aload_n 0, 1) := by decide +kernel
theorem dX0_comes_40 : decode cX0_comes 40 = .ok (.getfield 11, 3) := by decide +kernel
theorem dX0_comes_43 : decode cX0_comes 43 = .ok (.iload 5, 2) := by decide +kernel
theorem dX0_comes_45 : decode cX0_comes 45 = .ok (.iconst 2, 1) := by decide +kernel
theorem dX0_comes_46 : decode cX0_comes 46 = .ok (.iadd, 1) := by decide +kernel
theorem dX0_comes_47 : decode cX0_comes 47 = .ok (.iload_n 3, 1) := by decide +kernel
theorem dX0_comes_48 : decode cX0_comes 48 = .ok (.iastore, 1) := by decide +kernel
theorem dX0_comes_49 : decode cX0_comes 49 = .ok (.aload_n 0, 1) := by decide +kernel
theorem dX0_comes_50 : decode cX0_comes 50 = .ok (.getfield 11, 3) := by decide +kernel
theorem dX0_comes_53 : decode cX0_comes 53 = .ok (.iload 5, 2) := by decide +kernel
theorem dX0_comes_55 : decode cX0_comes 55 = .ok (.iconst 3, 1) := by decide +kernel
theorem dX0_comes_56 : decode cX0_comes 56 = .ok (.iadd, 1) := by decide +kernel
theorem dX0_comes_57 : decode cX0_comes 57 = .ok (.iconst 1, 1) := by decide +kernel
theorem dX0_comes_58 : decode cX0_comes 58 = .ok (.iastore, 1) := by decide +kernel
theorem dX0_comes_59 : decode cX0_comes 59 = .ok (.aload_n 0, 1) := by decide +kernel
theorem dX0_comes_60 : decode cX0_comes 60 = .ok (.getfield 11, 3) := by decide +kernel
theorem dX0_comes_63 : decode cX0_comes 63 = .ok (.iload 5, 2) := by decide +kernel
theorem dX0_comes_65 : decode cX0_comes 65 = .ok (.iconst 4, 1) := by decide +kernel
theorem dX0_comes_66 : decode cX0_comes 66 = .ok (.iadd, 1) := by decide +kernel
theorem dX0_comes_67 : decode cX0_comes 67 = .ok (.iconst 1, 1) := by decide +kernel
theorem dX0_comes_68 : decode cX0_comes 68 = .ok (.iastore, 1) := by decide +kernel
theorem dX0_comes_69 : decode cX0_comes 69 = .ok (.aload_n 0, 1) := by decide +kernel
theorem dX0_comes_70 : decode cX0_comes 70 = .ok (.getfield 11, 3) := by decide +kernel
theorem dX0_comes_73 : decode cX0_comes 73 = .ok (.iload 5, 2) := by decide +kernel
theorem dX0_comes_75 : decode cX0_comes 75 = .ok (.iconst 5, 1) := by decide +kernel
theorem dX0_comes_76 : decode cX0_comes 76 = .ok (.iadd, 1) := by decide +kernel
theorem dX0_comes_77 : decode cX0_comes 77 = .ok (.iload 4, 2) := by decide +kernel
theorem dX0_comes_79 : decode cX0_comes 79 = .ok (.iastore, 1) := by decide +kernel
theorem dX0_comes_80 : decode cX0_comes 80 = .ok (.aload_n 0, 1) := by decide +kernel
theorem dX0_comes_81 : decode cX0_comes 81 = .ok (.aload_n 0, 1) := by decide +kernel
theorem dX0_comes_82 : decode cX0_comes 82 = .ok (.getfield 28, 3) := by decide +kernel
theorem dX0_comes_85 : decode cX0_comes 85 = .ok (.invokevirtual 32, 3) := by decide +kernel
theorem dX0_comes_88 : decode cX0_comes 88 = .ok (.aload_n 0, 1) := by decide +kernel
theorem dX0_comes_89 : decode cX0_comes 89 = .ok (.dup, 1) := by decide +kernel
theorem dX0_comes_90 : decode cX0_comes 90 = .ok (.getfield 28, 3) := by decide +kernel
theorem dX0_comes_93 : decode cX0_comes 93 = .ok (.iconst 1, 1) := by decide +kernel
theorem dX0_comes_94 : decode cX0_comes 94 = .ok (.iadd, 1) := by decide +kernel
theorem dX0_comes_95 : decode cX0_comes 95 = .ok (.putfield 28, 3) := by decide +kernel
theorem dX0_comes_98 : decode cX0_comes 98 = .ok (.aload_n 0, 1) := by decide +kernel
theorem dX0_comes_99 : decode cX0_comes 99 = .ok (.getfield 28, 3) := by decide +kernel
theorem dX0_comes_102 : decode cX0_comes 102 = .ok (.iconst 1, 1) := by decide +kernel
theorem dX0_comes_103 : decode cX0_comes 103 = .ok (.isub, 1) := by decide +kernel
theorem dX0_comes_104 : decode cX0_comes 104 = .ok (.ireturn, 1) := by decide +kernel
theorem dX0_becomes_0 : decode cX0_becomes 0 = .ok (.iload_n 1, 1) := by decide +kernel
theorem dX0_becomes_1 : decode cX0_becomes 1 = .ok (.ifCond .lt 9, 3) := by decide +kernel
theorem dX0_becomes_4 : decode cX0_becomes 4 = .ok (.iload_n 1, 1) := by decide +kernel
theorem dX0_becomes_5 : decode cX0_becomes 5 = .ok (.bipush 70, 2) := by decide +kernel
theorem dX0_becomes_7 : decode cX0_becomes 7 = .ok (.if_icmp .le 4, 3) := by decide +kernel
theorem dX0_becomes_11 : decode cX0_becomes 11 = .ok (.aload_n 0, 1) := by decide +kernel
theorem dX0_becomes_12 : decode cX0_becomes 12 = .ok (.getfield 11, 3) := by decide +kernel
theorem dX0_becomes_15 : decode cX0_becomes 15 = .ok (.iload_n 1, 1) := by decide +kernel
theorem dX0_becomes_16 : decode cX0_becomes 16 = .ok (.iload_n 2, 1) := by decide +kernel
theorem dX0_becomes_17 : decode cX0_becomes 17 = .ok (.iastore, 1) := by decide +kernel
theorem dX0_becomes_18 : decode cX0_becomes 18 = .ok (.iload_n 1, 1) := by decide +kernel
theorem dX0_becomes_19 : decode cX0_becomes 19 = .ok (.bipush 64, 2) := by decide +kernel
theorem dX0_becomes_21 : decode cX0_becomes 21 = .ok (.if_icmp .ge 11, 3) := by decide +kernel
theorem dX0_becomes_24 : decode cX0_becomes 24 = .ok (.aload_n 0, 1) := by decide +kernel
theorem dX0_becomes_25 : decode cX0_becomes 25 = .ok (.iload_n 1, 1) := by decide +kernel
theorem dX0_becomes_26 : decode cX0_becomes 26 = .ok (.bipush 8, 2) := by decide +kernel
theorem dX0_becomes_28 : decode cX0_becomes 28 = .ok (.idiv, 1) := by decide +kernel
theorem dX0_becomes_29 : decode cX0_becomes 29 = .ok (.invokevirtual 32, 3) := by decide +kernel
theorem dX0_becomes_32 : decode cX0_becomes 32 = .ok (.return_, 1) := by decide +kernel
theorem dX0_numberOf_0 : decode cX0_numberOf 0 = .ok (.aload_n 0, 1) := by decide +kernel
theorem dX0_numberOf_1 : decode cX0_numberOf 1 = .ok (.getfield 11, 3) := by decide +kernel
theorem dX0_numberOf_4 : decode cX0_numberOf 4 = .ok (.iload_n 1, 1) := by decide +kernel
theorem dX0_numberOf_5 : decode cX0_numberOf 5 = .ok (.bipush 8, 2) := by decide +kernel
theorem dX0_numberOf_7 : decode cX0_numberOf 7 = .ok (.imul, 1) := by decide +kernel
theorem dX0_numberOf_8 : decode cX0_numberOf 8 = .ok (.iload_n 2, 1) := by decide +kernel
theorem dX0_numberOf_9 : decode cX0_numberOf 9 = .ok (.iadd, 1) := by decide +kernel
theorem dX0_numberOf_10 : decode cX0_numberOf 10 = .ok (.iaload, 1) := by decide +kernel
theorem dX0_numberOf_11 : decode cX0_numberOf 11 = .ok (.ireturn, 1) := by decide +kernel
theorem dX0_priceOf_0 : decode cX0_priceOf 0 = .ok (.aload_n 0, 1) := by decide +kernel
theorem dX0_priceOf_1 : decode cX0_priceOf 1 = .ok (.getfield 11, 3) := by decide +kernel
theorem dX0_priceOf_4 : decode cX0_priceOf 4 = .ok (.bipush 67, 2) := by decide +kernel
theorem dX0_priceOf_6 : decode cX0_priceOf 6 = .ok (.iload_n 1, 1) := by decide +kernel
theorem dX0_priceOf_7 : decode cX0_priceOf 7 = .ok (.iadd, 1) := by decide +kernel
theorem dX0_priceOf_8 : decode cX0_priceOf 8 = .ok (.iaload, 1) := by decide +kernel
theorem dX0_priceOf_9 : decode cX0_priceOf 9 = .ok (.ireturn, 1) := by decide +kernel
theorem dX0_fetch_0 : decode cX0_fetch 0 = .ok (.aload_n 0, 1) := by decide +kernel
theorem dX0_fetch_1 : decode cX0_fetch 1 = .ok (.getfield 11, 3) := by decide +kernel
theorem dX0_fetch_4 : decode cX0_fetch 4 = .ok (.bipush 70, 2) := by decide +kernel
theorem dX0_fetch_6 : decode cX0_fetch 6 = .ok (.iaload, 1) := by decide +kernel
theorem dX0_fetch_7 : decode cX0_fetch 7 = .ok (.ireturn, 1) := by decide +kernel
theorem dX0_slipped_0 : decode cX0_slipped 0 = .ok (.iconst 0, 1) := by decide +kernel
theorem dX0_slipped_1 : decode cX0_slipped 1 = .ok (.iload_n 2, 1) := by decide +kernel
theorem dX0_slipped_2 : decode cX0_slipped 2 = .ok (.aload_n 0, 1) := by decide +kernel
theorem dX0_slipped_3 : decode cX0_slipped 3 = .ok (.getfield 11, 3) := by decide +kernel
theorem dX0_slipped_6 : decode cX0_slipped 6 = .ok (.bipush 64, 2) := by decide +kernel
theorem dX0_slipped_8 : decode cX0_slipped 8 = .ok (.iload_n 1, 1) := by decide +kernel
theorem dX0_slipped_9 : decode cX0_slipped 9 = .ok (.iadd, 1) := by decide +kernel
theorem dX0_slipped_10 : decode cX0_slipped 10 = .ok (.iaload, 1) := by decide +kernel
theorem dX0_slipped_11 : decode cX0_slipped 11 = .ok (.isub, 1) := by decide +kernel
theorem dX0_slipped_12 : decode cX0_slipped 12 = .ok (.invokestatic 36, 3) := by decide +kernel
theorem dX0_slipped_15 : decode cX0_slipped 15 = .ok (.ireturn, 1) := by decide +kernel
theorem dX0_turned_0 : decode cX0_turned 0 = .ok (.aload_n 0, 1) := by decide +kernel
theorem dX0_turned_1 : decode cX0_turned 1 = .ok (.iload_n 1, 1) := by decide +kernel
theorem dX0_turned_2 : decode cX0_turned 2 = .ok (.iload_n 2, 1) := by decide +kernel
theorem dX0_turned_3 : decode cX0_turned 3 = .ok (.invokevirtual 42, 3) := by decide +kernel
theorem dX0_turned_6 : decode cX0_turned 6 = .ok (.istore 5, 2) := by decide +kernel
theorem dX0_turned_8 : decode cX0_turned 8 = .ok (.iload_n 3, 1) := by decide +kernel
theorem dX0_turned_9 : decode cX0_turned 9 = .ok (.iload 5, 2) := by decide +kernel
theorem dX0_turned_11 : decode cX0_turned 11 = .ok (.isub, 1) := by decide +kernel
theorem dX0_turned_12 : decode cX0_turned 12 = .ok (.invokestatic 45, 3) := by decide +kernel
theorem dX0_turned_15 : decode cX0_turned 15 = .ok (.iload 4, 2) := by decide +kernel
theorem dX0_turned_17 : decode cX0_turned 17 = .ok (.if_icmp .le 8, 3) := by decide +kernel
theorem dX0_turned_20 : decode cX0_turned 20 = .ok (.iload 5, 2) := by decide +kernel
theorem dX0_turned_22 : decode cX0_turned 22 = .ok (.goto 4, 3) := by decide +kernel
theorem dX0_turned_25 : decode cX0_turned 25 = .ok (.iload_n 3, 1) := by decide +kernel
theorem dX0_turned_26 : decode cX0_turned 26 = .ok (.ireturn, 1) := by decide +kernel
theorem dX0_lossAt_0 : decode cX0_lossAt 0 = .ok (.iload_n 1, 1) := by decide +kernel
theorem dX0_lossAt_1 : decode cX0_lossAt 1 = .ok (.iconst (-1), 1) := by decide +kernel
theorem dX0_lossAt_2 : decode cX0_lossAt 2 = .ok (.if_icmp .ne 5, 3) := by decide +kernel
theorem dX0_lossAt_5 : decode cX0_lossAt 5 = .ok (.iconst 0, 1) := by decide +kernel
theorem dX0_lossAt_6 : decode cX0_lossAt 6 = .ok (.ireturn, 1) := by decide +kernel
theorem dX0_lossAt_7 : decode cX0_lossAt 7 = .ok (.iload_n 1, 1) := by decide +kernel
theorem dX0_lossAt_8 : decode cX0_lossAt 8 = .ok (.sipush 183, 3) := by decide +kernel
theorem dX0_lossAt_11 : decode cX0_lossAt 11 = .ok (.imul, 1) := by decide +kernel
theorem dX0_lossAt_12 : decode cX0_lossAt 12 = .ok (.iload_n 2, 1) := by decide +kernel
theorem dX0_lossAt_13 : decode cX0_lossAt 13 = .ok (.bipush 61, 2) := by decide +kernel
theorem dX0_lossAt_15 : decode cX0_lossAt 15 = .ok (.imul, 1) := by decide +kernel
theorem dX0_lossAt_16 : decode cX0_lossAt 16 = .ok (.iadd, 1) := by decide +kernel
theorem dX0_lossAt_17 : decode cX0_lossAt 17 = .ok (.iload_n 3, 1) := by decide +kernel
theorem dX0_lossAt_18 : decode cX0_lossAt 18 = .ok (.iadd, 1) := by decide +kernel
theorem dX0_lossAt_19 : decode cX0_lossAt 19 = .ok (.istore 4, 2) := by decide +kernel
theorem dX0_lossAt_21 : decode cX0_lossAt 21 = .ok (.aload_n 0, 1) := by decide +kernel
theorem dX0_lossAt_22 : decode cX0_lossAt 22 = .ok (.getfield 25, 3) := by decide +kernel
theorem dX0_lossAt_25 : decode cX0_lossAt 25 = .ok (.iload 4, 2) := by decide +kernel
theorem dX0_lossAt_27 : decode cX0_lossAt 27 = .ok (.iaload, 1) := by decide +kernel
theorem dX0_lossAt_28 : decode cX0_lossAt 28 = .ok (.iconst (-1), 1) := by decide +kernel
theorem dX0_lossAt_29 : decode cX0_lossAt 29 = .ok (.if_icmp .ne 97, 3) := by decide +kernel
theorem dX0_lossAt_32 : decode cX0_lossAt 32 = .ok (.aload_n 0, 1) := by decide +kernel
theorem dX0_lossAt_33 : decode cX0_lossAt 33 = .ok (.iload_n 1, 1) := by decide +kernel
theorem dX0_lossAt_34 : decode cX0_lossAt 34 = .ok (.iload_n 2, 1) := by decide +kernel
theorem dX0_lossAt_35 : decode cX0_lossAt 35 = .ok (.invokevirtual 42, 3) := by decide +kernel
theorem dX0_lossAt_38 : decode cX0_lossAt 38 = .ok (.istore 5, 2) := by decide +kernel
theorem dX0_lossAt_40 : decode cX0_lossAt 40 = .ok (.aload_n 0, 1) := by decide +kernel
theorem dX0_lossAt_41 : decode cX0_lossAt 41 = .ok (.iload_n 1, 1) := by decide +kernel
theorem dX0_lossAt_42 : decode cX0_lossAt 42 = .ok (.iconst 5, 1) := by decide +kernel
theorem dX0_lossAt_43 : decode cX0_lossAt 43 = .ok (.invokevirtual 42, 3) := by decide +kernel
theorem dX0_lossAt_46 : decode cX0_lossAt 46 = .ok (.istore 6, 2) := by decide +kernel
theorem dX0_lossAt_48 : decode cX0_lossAt 48 = .ok (.aload_n 0, 1) := by decide +kernel
theorem dX0_lossAt_49 : decode cX0_lossAt 49 = .ok (.iload_n 1, 1) := by decide +kernel
theorem dX0_lossAt_50 : decode cX0_lossAt 50 = .ok (.iload_n 3, 1) := by decide +kernel
theorem dX0_lossAt_51 : decode cX0_lossAt 51 = .ok (.iload 5, 2) := by decide +kernel
theorem dX0_lossAt_53 : decode cX0_lossAt 53 = .ok (.if_icmp .le 7, 3) := by decide +kernel
theorem dX0_lossAt_56 : decode cX0_lossAt 56 = .ok (.iconst 3, 1) := by decide +kernel
theorem dX0_lossAt_57 : decode cX0_lossAt 57 = .ok (.goto 4, 3) := by decide +kernel
theorem dX0_lossAt_60 : decode cX0_lossAt 60 = .ok (.iconst 4, 1) := by decide +kernel
theorem dX0_lossAt_61 : decode cX0_lossAt 61 = .ok (.invokevirtual 42, 3) := by decide +kernel
theorem dX0_lossAt_64 : decode cX0_lossAt 64 = .ok (.istore 7, 2) := by decide +kernel
theorem dX0_lossAt_66 : decode cX0_lossAt 66 = .ok (.aload_n 0, 1) := by decide +kernel
theorem dX0_lossAt_67 : decode cX0_lossAt 67 = .ok (.getfield 21, 3) := by decide +kernel
theorem dX0_lossAt_70 : decode cX0_lossAt 70 = .ok (.getfield 49, 3) := by decide +kernel
theorem dX0_lossAt_73 : decode cX0_lossAt 73 = .ok (.ifCond .eq 19, 3) := by decide +kernel
theorem dX0_lossAt_76 : decode cX0_lossAt 76 = .ok (.aload_n 0, 1) := by decide +kernel
theorem dX0_lossAt_77 : decode cX0_lossAt 77 = .ok (.getfield 21, 3) := by decide +kernel
theorem dX0_lossAt_80 : decode cX0_lossAt 80 = .ok (.iload_n 3, 1) := by decide +kernel
theorem dX0_lossAt_81 : decode cX0_lossAt 81 = .ok (.iload 5, 2) := by decide +kernel
theorem dX0_lossAt_83 : decode cX0_lossAt 83 = .ok (.iload 6, 2) := by decide +kernel
theorem dX0_lossAt_85 : decode cX0_lossAt 85 = .ok (.iload_n 2, 1) := by decide +kernel
theorem dX0_lossAt_86 : decode cX0_lossAt 86 = .ok (.invokevirtual 53, 3) := by decide +kernel
theorem dX0_lossAt_89 : decode cX0_lossAt 89 = .ok (.goto 16, 3) := by decide +kernel
theorem dX0_lossAt_92 : decode cX0_lossAt 92 = .ok (.iload_n 3, 1) := by decide +kernel
theorem dX0_lossAt_93 : decode cX0_lossAt 93 = .ok (.iload 5, 2) := by decide +kernel
theorem dX0_lossAt_95 : decode cX0_lossAt 95 = .ok (.isub, 1) := by decide +kernel
theorem dX0_lossAt_96 : decode cX0_lossAt 96 = .ok (.invokestatic 45, 3) := by decide +kernel
theorem dX0_lossAt_99 : decode cX0_lossAt 99 = .ok (.iload 7, 2) := by decide +kernel
theorem dX0_lossAt_101 : decode cX0_lossAt 101 = .ok (.imul, 1) := by decide +kernel
theorem dX0_lossAt_102 : decode cX0_lossAt 102 = .ok (.iload 6, 2) := by decide +kernel
theorem dX0_lossAt_104 : decode cX0_lossAt 104 = .ok (.imul, 1) := by decide +kernel
theorem dX0_lossAt_105 : decode cX0_lossAt 105 = .ok (.istore 8, 2) := by decide +kernel
theorem dX0_lossAt_107 : decode cX0_lossAt 107 = .ok (.aload_n 0, 1) := by decide +kernel
theorem dX0_lossAt_108 : decode cX0_lossAt 108 = .ok (.getfield 25, 3) := by decide +kernel
theorem dX0_lossAt_111 : decode cX0_lossAt 111 = .ok (.iload 4, 2) := by decide +kernel
theorem dX0_lossAt_113 : decode cX0_lossAt 113 = .ok (.iconst 0, 1) := by decide +kernel
theorem dX0_lossAt_114 : decode cX0_lossAt 114 = .ok (.sipush 9999, 3) := by decide +kernel
theorem dX0_lossAt_117 : decode cX0_lossAt 117 = .ok (.iload 8, 2) := by decide +kernel
theorem dX0_lossAt_119 : decode cX0_lossAt 119 = .ok (.invokestatic 57, 3) := by decide +kernel
theorem dX0_lossAt_122 : decode cX0_lossAt 122 = .ok (.invokestatic 36, 3) := by decide +kernel
theorem dX0_lossAt_125 : decode cX0_lossAt 125 = .ok (.iastore, 1) := by decide +kernel
theorem dX0_lossAt_126 : decode cX0_lossAt 126 = .ok (.aload_n 0, 1) := by decide +kernel
theorem dX0_lossAt_127 : decode cX0_lossAt 127 = .ok (.getfield 25, 3) := by decide +kernel
theorem dX0_lossAt_130 : decode cX0_lossAt 130 = .ok (.iload 4, 2) := by decide +kernel
theorem dX0_lossAt_132 : decode cX0_lossAt 132 = .ok (.iaload, 1) := by decide +kernel
theorem dX0_lossAt_133 : decode cX0_lossAt 133 = .ok (.ireturn, 1) := by decide +kernel
theorem dX0_forgetAll_0 : decode cX0_forgetAll 0 = .ok (.iconst 0, 1) := by decide +kernel
theorem dX0_forgetAll_1 : decode cX0_forgetAll 1 = .ok (.istore_n 1, 1) := by decide +kernel
theorem dX0_forgetAll_2 : decode cX0_forgetAll 2 = .ok (.iload_n 1, 1) := by decide +kernel
theorem dX0_forgetAll_3 : decode cX0_forgetAll 3 = .ok (.bipush 8, 2) := by decide +kernel
theorem dX0_forgetAll_5 : decode cX0_forgetAll 5 = .ok (.if_icmp .ge 14, 3) := by decide +kernel
theorem dX0_forgetAll_8 : decode cX0_forgetAll 8 = .ok (.aload_n 0, 1) := by decide +kernel
theorem dX0_forgetAll_9 : decode cX0_forgetAll 9 = .ok (.iload_n 1, 1) := by decide +kernel
theorem dX0_forgetAll_10 : decode cX0_forgetAll 10 = .ok (.invokevirtual 32, 3) := by decide +kernel
theorem dX0_forgetAll_13 : decode cX0_forgetAll 13 = .ok (.iinc 1 1, 3) := by decide +kernel
theorem dX0_forgetAll_16 : decode cX0_forgetAll 16 = .ok (.goto (-14), 3) := by decide +kernel
theorem dX0_forgetAll_19 : decode cX0_forgetAll 19 = .ok (.return_, 1) := by decide +kernel
theorem dX0_forget_0 : decode cX0_forget 0 = .ok (.iload_n 1, 1) := by decide +kernel
theorem dX0_forget_1 : decode cX0_forget 1 = .ok (.iconst 1, 1) := by decide +kernel
theorem dX0_forget_2 : decode cX0_forget 2 = .ok (.iadd, 1) := by decide +kernel
theorem dX0_forget_3 : decode cX0_forget 3 = .ok (.sipush 183, 3) := by decide +kernel
theorem dX0_forget_6 : decode cX0_forget 6 = .ok (.imul, 1) := by decide +kernel
theorem dX0_forget_7 : decode cX0_forget 7 = .ok (.istore_n 2, 1) := by decide +kernel
theorem dX0_forget_8 : decode cX0_forget 8 = .ok (.iload_n 1, 1) := by decide +kernel
theorem dX0_forget_9 : decode cX0_forget 9 = .ok (.sipush 183, 3) := by decide +kernel
theorem dX0_forget_12 : decode cX0_forget 12 = .ok (.imul, 1) := by decide +kernel
theorem dX0_forget_13 : decode cX0_forget 13 = .ok (.istore_n 3, 1) := by decide +kernel
theorem dX0_forget_14 : decode cX0_forget 14 = .ok (.iload_n 3, 1) := by decide +kernel
theorem dX0_forget_15 : decode cX0_forget 15 = .ok (.iload_n 2, 1) := by decide +kernel
theorem dX0_forget_16 : decode cX0_forget 16 = .ok (.if_icmp .ge 16, 3) := by decide +kernel
theorem dX0_forget_19 : decode cX0_forget 19 = .ok (.aload_n 0, 1) := by decide +kernel
theorem dX0_forget_20 : decode cX0_forget 20 = .ok (.getfield 25, 3) := by decide +kernel
theorem dX0_forget_23 : decode cX0_forget 23 = .ok (.iload_n 3, 1) := by decide +kernel
theorem dX0_forget_24 : decode cX0_forget 24 = .ok (.iconst (-1), 1) := by decide +kernel
theorem dX0_forget_25 : decode cX0_forget 25 = .ok (.iastore, 1) := by decide +kernel
theorem dX0_forget_26 : decode cX0_forget 26 = .ok (.iinc 3 1, 3) := by decide +kernel
theorem dX0_forget_29 : decode cX0_forget 29 = .ok (.goto (-15), 3) := by decide +kernel
theorem dX0_forget_32 : decode cX0_forget 32 = .ok (.return_, 1) := by decide +kernel
theorem dX1_comes_0 : decode cX1_comes 0 = .ok (.aload_n 0, 1) := by decide +kernel
theorem dX1_comes_1 : decode cX1_comes 1 = .ok (.getfield 19, 3) := by decide +kernel
theorem dX1_comes_4 : decode cX1_comes 4 = .ok (.bipush 40, 2) := by decide +kernel
theorem dX1_comes_6 : decode cX1_comes 6 = .ok (.if_icmp .ne 7, 3) := by decide +kernel
theorem dX1_comes_9 : decode cX1_comes 9 = .ok (.aload_n 0, 1) := by decide +kernel
theorem dX1_comes_10 : decode cX1_comes 10 = .ok (.invokevirtual 23, 3) := by decide +kernel
theorem dX1_comes_13 : decode cX1_comes 13 = .ok (.aload_n 0, 1) := by decide +kernel
theorem dX1_comes_14 : decode cX1_comes 14 = .ok (.getfield 9, 3) := by decide +kernel
theorem dX1_comes_17 : decode cX1_comes 17 = .ok (.aload_n 0, 1) := by decide +kernel
theorem dX1_comes_18 : decode cX1_comes 18 = .ok (.getfield 19, 3) := by decide +kernel
theorem dX1_comes_21 : decode cX1_comes 21 = .ok (.iload_n 1, 1) := by decide +kernel
theorem dX1_comes_22 : decode cX1_comes 22 = .ok (.iastore, 1) := by decide +kernel
theorem dX1_comes_23 : decode cX1_comes 23 = .ok (.aload_n 0, 1) := by decide +kernel
theorem dX1_comes_24 : decode cX1_comes 24 = .ok (.getfield 13, 3) := by decide +kernel
theorem dX1_comes_27 : decode cX1_comes 27 = .ok (.aload_n 0, 1) := by decide +kernel
theorem dX1_comes_28 : decode cX1_comes 28 = .ok (.getfield 19, 3) := by decide +kernel
theorem dX1_comes_31 : decode cX1_comes 31 = .ok (.iload_n 2, 1) := by decide +kernel
theorem dX1_comes_32 : decode cX1_comes 32 = .ok (.iastore, 1) := by decide +kernel
theorem dX1_comes_33 : decode cX1_comes 33 = .ok (.aload_n 0, 1) := by decide +kernel
theorem dX1_comes_34 : decode cX1_comes 34 = .ok (.getfield 16, 3) := by decide +kernel
theorem dX1_comes_37 : decode cX1_comes 37 = .ok (.aload_n 0, 1) := by decide +kernel
theorem dX1_comes_38 : decode cX1_comes 38 = .ok (.getfield 19, 3) := by decide +kernel
theorem dX1_comes_41 : decode cX1_comes 41 = .ok (.iload_n 3, 1) := by decide +kernel
theorem dX1_comes_42 : decode cX1_comes 42 = .ok (.iastore, 1) := by decide +kernel
theorem dX1_comes_43 : decode cX1_comes 43 = .ok (.aload_n 0, 1) := by decide +kernel
theorem dX1_comes_44 : decode cX1_comes 44 = .ok (.dup, 1) := by decide +kernel
theorem dX1_comes_45 : decode cX1_comes 45 = .ok (.getfield 19, 3) := by decide +kernel
theorem dX1_comes_48 : decode cX1_comes 48 = .ok (.iconst 1, 1) := by decide +kernel
theorem dX1_comes_49 : decode cX1_comes 49 = .ok (.iadd, 1) := by decide +kernel
theorem dX1_comes_50 : decode cX1_comes 50 = .ok (.putfield 19, 3) := by decide +kernel
theorem dX1_comes_53 : decode cX1_comes 53 = .ok (.aload_n 0, 1) := by decide +kernel
theorem dX1_comes_54 : decode cX1_comes 54 = .ok (.aload_n 0, 1) := by decide +kernel
theorem dX1_comes_55 : decode cX1_comes 55 = .ok (.getfield 19, 3) := by decide +kernel
theorem dX1_comes_58 : decode cX1_comes 58 = .ok (.putfield 26, 3) := by decide +kernel
theorem dX1_comes_61 : decode cX1_comes 61 = .ok (.return_, 1) := by decide +kernel
theorem dX1_dropOldest_0 : decode cX1_dropOldest 0 = .ok (.aload_n 0, 1) := by decide +kernel
theorem dX1_dropOldest_1 : decode cX1_dropOldest 1 = .ok (.getfield 9, 3) := by decide +kernel
theorem dX1_dropOldest_4 : decode cX1_dropOldest 4 = .ok (.iconst 1, 1) := by decide +kernel
theorem dX1_dropOldest_5 : decode cX1_dropOldest 5 = .ok (.aload_n 0, 1) := by decide +kernel
theorem dX1_dropOldest_6 : decode cX1_dropOldest 6 = .ok (.getfield 9, 3) := by decide +kernel
theorem dX1_dropOldest_9 : decode cX1_dropOldest 9 = .ok (.iconst 0, 1) := by decide +kernel
theorem dX1_dropOldest_10 : decode cX1_dropOldest 10 = .ok (.bipush 39, 2) := by decide +kernel
theorem dX1_dropOldest_12 : decode cX1_dropOldest 12 = .ok (.invokestatic 29, 3) := by decide +kernel
theorem dX1_dropOldest_15 : decode cX1_dropOldest 15 = .ok (.aload_n 0, 1) := by decide +kernel
theorem dX1_dropOldest_16 : decode cX1_dropOldest 16 = .ok (.getfield 13, 3) := by decide +kernel
theorem dX1_dropOldest_19 : decode cX1_dropOldest 19 = .ok (.iconst 1, 1) := by decide +kernel
theorem dX1_dropOldest_20 : decode cX1_dropOldest 20 = .ok (.aload_n 0, 1) := by decide +kernel
theorem dX1_dropOldest_21 : decode cX1_dropOldest 21 = .ok (.getfield 13, 3) := by decide +kernel
theorem dX1_dropOldest_24 : decode cX1_dropOldest 24 = .ok (.iconst 0, 1) := by decide +kernel
theorem dX1_dropOldest_25 : decode cX1_dropOldest 25 = .ok (.bipush 39, 2) := by decide +kernel
theorem dX1_dropOldest_27 : decode cX1_dropOldest 27 = .ok (.invokestatic 29, 3) := by decide +kernel
theorem dX1_dropOldest_30 : decode cX1_dropOldest 30 = .ok (.aload_n 0, 1) := by decide +kernel
theorem dX1_dropOldest_31 : decode cX1_dropOldest 31 = .ok (.getfield 16, 3) := by decide +kernel
theorem dX1_dropOldest_34 : decode cX1_dropOldest 34 = .ok (.iconst 1, 1) := by decide +kernel
theorem dX1_dropOldest_35 : decode cX1_dropOldest 35 = .ok (.aload_n 0, 1) := by decide +kernel
theorem dX1_dropOldest_36 : decode cX1_dropOldest 36 = .ok (.getfield 16, 3) := by decide +kernel
theorem dX1_dropOldest_39 : decode cX1_dropOldest 39 = .ok (.iconst 0, 1) := by decide +kernel
theorem dX1_dropOldest_40 : decode cX1_dropOldest 40 = .ok (.bipush 39, 2) := by decide +kernel
theorem dX1_dropOldest_42 : decode cX1_dropOldest 42 = .ok (.invokestatic 29, 3) := by decide +kernel
theorem dX1_dropOldest_45 : decode cX1_dropOldest 45 = .ok (.aload_n 0, 1) := by decide +kernel
theorem dX1_dropOldest_46 : decode cX1_dropOldest 46 = .ok (.dup, 1) := by decide +kernel
theorem dX1_dropOldest_47 : decode cX1_dropOldest 47 = .ok (.getfield 19, 3) := by decide +kernel
theorem dX1_dropOldest_50 : decode cX1_dropOldest 50 = .ok (.iconst 1, 1) := by decide +kernel
theorem dX1_dropOldest_51 : decode cX1_dropOldest 51 = .ok (.isub, 1) := by decide +kernel
theorem dX1_dropOldest_52 : decode cX1_dropOldest 52 = .ok (.putfield 19, 3) := by decide +kernel
theorem dX1_dropOldest_55 : decode cX1_dropOldest 55 = .ok (.return_, 1) := by decide +kernel
theorem dX2_comes_0 : decode cX2_comes 0 = .ok (.aload_n 0, 1) := by decide +kernel
theorem dX2_comes_1 : decode cX2_comes 1 = .ok (.getfield 25, 3) := by decide +kernel
theorem dX2_comes_4 : decode cX2_comes 4 = .ok (.invokevirtual 29, 3) := by decide +kernel
theorem dX2_comes_7 : decode cX2_comes 7 = .ok (.aload_n 0, 1) := by decide +kernel
theorem dX2_comes_8 : decode cX2_comes 8 = .ok (.getfield 25, 3) := by decide +kernel
theorem dX2_comes_11 : decode cX2_comes 11 = .ok (.iload_n 1, 1) := by decide +kernel
theorem dX2_comes_12 : decode cX2_comes 12 = .ok (.invokevirtual 34, 3) := by decide +kernel
theorem dX2_comes_15 : decode cX2_comes 15 = .ok (.aload_n 0, 1) := by decide +kernel
theorem dX2_comes_16 : decode cX2_comes 16 = .ok (.getfield 25, 3) := by decide +kernel
theorem dX2_comes_19 : decode cX2_comes 19 = .ok (.getfield 38, 3) := by decide +kernel
theorem dX2_comes_22 : decode cX2_comes 22 = .ok (.iconst 0, 1) := by decide +kernel
theorem dX2_comes_23 : decode cX2_comes 23 = .ok (.aload_n 0, 1) := by decide +kernel
theorem dX2_comes_24 : decode cX2_comes 24 = .ok (.getfield 21, 3) := by decide +kernel
theorem dX2_comes_27 : decode cX2_comes 27 = .ok (.getfield 41, 3) := by decide +kernel
theorem dX2_comes_30 : decode cX2_comes 30 = .ok (.iconst 0, 1) := by decide +kernel
theorem dX2_comes_31 : decode cX2_comes 31 = .ok (.iconst 3, 1) := by decide +kernel
theorem dX2_comes_32 : decode cX2_comes 32 = .ok (.invokestatic 46, 3) := by decide +kernel
theorem dX2_comes_35 : decode cX2_comes 35 = .ok (.aload_n 0, 1) := by decide +kernel
theorem dX2_comes_36 : decode cX2_comes 36 = .ok (.getfield 11, 3) := by decide +kernel
theorem dX2_comes_39 : decode cX2_comes 39 = .ok (.iconst 0, 1) := by decide +kernel
theorem dX2_comes_40 : decode cX2_comes 40 = .ok (.iaload, 1) := by decide +kernel
theorem dX2_comes_41 : decode cX2_comes 41 = .ok (.ifCond .eq 19, 3) := by decide +kernel
theorem dX2_comes_44 : decode cX2_comes 44 = .ok (.aload_n 0, 1) := by decide +kernel
theorem dX2_comes_45 : decode cX2_comes 45 = .ok (.getfield 25, 3) := by decide +kernel
theorem dX2_comes_48 : decode cX2_comes 48 = .ok (.getfield 52, 3) := by decide +kernel
theorem dX2_comes_51 : decode cX2_comes 51 = .ok (.aload_n 0, 1) := by decide +kernel
theorem dX2_comes_52 : decode cX2_comes 52 = .ok (.getfield 11, 3) := by decide +kernel
theorem dX2_comes_55 : decode cX2_comes 55 = .ok (.iconst 3, 1) := by decide +kernel
theorem dX2_comes_56 : decode cX2_comes 56 = .ok (.iaload, 1) := by decide +kernel
theorem dX2_comes_57 : decode cX2_comes 57 = .ok (.if_icmp .le 23, 3) := by decide +kernel
theorem dX2_comes_60 : decode cX2_comes 60 = .ok (.aload_n 0, 1) := by decide +kernel
theorem dX2_comes_61 : decode cX2_comes 61 = .ok (.getfield 11, 3) := by decide +kernel
theorem dX2_comes_64 : decode cX2_comes 64 = .ok (.iconst 3, 1) := by decide +kernel
theorem dX2_comes_65 : decode cX2_comes 65 = .ok (.aload_n 0, 1) := by decide +kernel
theorem dX2_comes_66 : decode cX2_comes 66 = .ok (.getfield 25, 3) := by decide +kernel
theorem dX2_comes_69 : decode cX2_comes 69 = .ok (.getfield 52, 3) := by decide +kernel
theorem dX2_comes_72 : decode cX2_comes 72 = .ok (.iastore, 1) := by decide +kernel
theorem dX2_comes_73 : decode cX2_comes 73 = .ok (.aload_n 0, 1) := by decide +kernel
theorem dX2_comes_74 : decode cX2_comes 74 = .ok (.getfield 11, 3) := by decide +kernel
theorem dX2_comes_77 : decode cX2_comes 77 = .ok (.iconst 4, 1) := by decide +kernel
theorem dX2_comes_78 : decode cX2_comes 78 = .ok (.iload_n 1, 1) := by decide +kernel
theorem dX2_comes_79 : decode cX2_comes 79 = .ok (.iastore, 1) := by decide +kernel
theorem dX2_comes_80 : decode cX2_comes 80 = .ok (.aload_n 0, 1) := by decide +kernel
theorem dX2_comes_81 : decode cX2_comes 81 = .ok (.getfield 11, 3) := by decide +kernel
theorem dX2_comes_84 : decode cX2_comes 84 = .ok (.iconst 0, 1) := by decide +kernel
theorem dX2_comes_85 : decode cX2_comes 85 = .ok (.dup2, 1) := by decide +kernel
theorem dX2_comes_86 : decode cX2_comes 86 = .ok (.iaload, 1) := by decide +kernel
theorem dX2_comes_87 : decode cX2_comes 87 = .ok (.iconst 1, 1) := by decide +kernel
theorem dX2_comes_88 : decode cX2_comes 88 = .ok (.iadd, 1) := by decide +kernel
theorem dX2_comes_89 : decode cX2_comes 89 = .ok (.iastore, 1) := by decide +kernel
theorem dX2_comes_90 : decode cX2_comes 90 = .ok (.aload_n 0, 1) := by decide +kernel
theorem dX2_comes_91 : decode cX2_comes 91 = .ok (.getfield 11, 3) := by decide +kernel
theorem dX2_comes_94 : decode cX2_comes 94 = .ok (.iconst 1, 1) := by decide +kernel
theorem dX2_comes_95 : decode cX2_comes 95 = .ok (.dup2, 1) := by decide +kernel
theorem dX2_comes_96 : decode cX2_comes 96 = .ok (.iaload, 1) := by decide +kernel
theorem dX2_comes_97 : decode cX2_comes 97 = .ok (.aload_n 0, 1) := by decide +kernel
theorem dX2_comes_98 : decode cX2_comes 98 = .ok (.getfield 25, 3) := by decide +kernel
theorem dX2_comes_101 : decode cX2_comes 101 = .ok (.invokevirtual 56, 3) := by decide +kernel
theorem dX2_comes_104 : decode cX2_comes 104 = .ok (.iadd, 1) := by decide +kernel
theorem dX2_comes_105 : decode cX2_comes 105 = .ok (.iastore, 1) := by decide +kernel
theorem dX2_comes_106 : decode cX2_comes 106 = .ok (.aload_n 0, 1) := by decide +kernel
theorem dX2_comes_107 : decode cX2_comes 107 = .ok (.getfield 11, 3) := by decide +kernel
theorem dX2_comes_110 : decode cX2_comes 110 = .ok (.iconst 2, 1) := by decide +kernel
theorem dX2_comes_111 : decode cX2_comes 111 = .ok (.dup2, 1) := by decide +kernel
theorem dX2_comes_112 : decode cX2_comes 112 = .ok (.iaload, 1) := by decide +kernel
theorem dX2_comes_113 : decode cX2_comes 113 = .ok (.aload_n 0, 1) := by decide +kernel
theorem dX2_comes_114 : decode cX2_comes 114 = .ok (.getfield 25, 3) := by decide +kernel
theorem dX2_comes_117 : decode cX2_comes 117 = .ok (.getfield 60, 3) := by decide +kernel
theorem dX2_comes_120 : decode cX2_comes 120 = .ok (.iadd, 1) := by decide +kernel
theorem dX2_comes_121 : decode cX2_comes 121 = .ok (.iastore, 1) := by decide +kernel
theorem dX2_comes_122 : decode cX2_comes 122 = .ok (.aload_n 0, 1) := by decide +kernel
theorem dX2_comes_123 : decode cX2_comes 123 = .ok (.getfield 25, 3) := by decide +kernel
theorem dX2_comes_126 : decode cX2_comes 126 = .ok (.getfield 52, 3) := by decide +kernel
theorem dX2_comes_129 : decode cX2_comes 129 = .ok (.ireturn, 1) := by decide +kernel
theorem dX2_turns_0 : decode cX2_turns 0 = .ok (.iload_n 2, 1) := by decide +kernel
theorem dX2_turns_1 : decode cX2_turns 1 = .ok (.aload_n 0, 1) := by decide +kernel
theorem dX2_turns_2 : decode cX2_turns 2 = .ok (.getfield 21, 3) := by decide +kernel
theorem dX2_turns_5 : decode cX2_turns 5 = .ok (.getfield 41, 3) := by decide +kernel
theorem dX2_turns_8 : decode cX2_turns 8 = .ok (.iload_n 1, 1) := by decide +kernel
theorem dX2_turns_9 : decode cX2_turns 9 = .ok (.iaload, 1) := by decide +kernel
theorem dX2_turns_10 : decode cX2_turns 10 = .ok (.isub, 1) := by decide +kernel
theorem dX2_turns_11 : decode cX2_turns 11 = .ok (.invokestatic 63, 3) := by decide +kernel
theorem dX2_turns_14 : decode cX2_turns 14 = .ok (.istore_n 3, 1) := by decide +kernel
theorem dX2_turns_15 : decode cX2_turns 15 = .ok (.aload_n 0, 1) := by decide +kernel
theorem dX2_turns_16 : decode cX2_turns 16 = .ok (.getfield 21, 3) := by decide +kernel
theorem dX2_turns_19 : decode cX2_turns 19 = .ok (.getfield 41, 3) := by decide +kernel
theorem dX2_turns_22 : decode cX2_turns 22 = .ok (.iload_n 1, 1) := by decide +kernel
theorem dX2_turns_23 : decode cX2_turns 23 = .ok (.iload_n 2, 1) := by decide +kernel
theorem dX2_turns_24 : decode cX2_turns 24 = .ok (.iastore, 1) := by decide +kernel
theorem dX2_turns_25 : decode cX2_turns 25 = .ok (.aload_n 0, 1) := by decide +kernel
theorem dX2_turns_26 : decode cX2_turns 26 = .ok (.getfield 11, 3) := by decide +kernel
theorem dX2_turns_29 : decode cX2_turns 29 = .ok (.iconst 1, 1) := by decide +kernel
theorem dX2_turns_30 : decode cX2_turns 30 = .ok (.dup2, 1) := by decide +kernel
theorem dX2_turns_31 : decode cX2_turns 31 = .ok (.iaload, 1) := by decide +kernel
theorem dX2_turns_32 : decode cX2_turns 32 = .ok (.iload_n 3, 1) := by decide +kernel
theorem dX2_turns_33 : decode cX2_turns 33 = .ok (.iadd, 1) := by decide +kernel
theorem dX2_turns_34 : decode cX2_turns 34 = .ok (.iastore, 1) := by decide +kernel
theorem dX2_turns_35 : decode cX2_turns 35 = .ok (.iload_n 3, 1) := by decide +kernel
theorem dX2_turns_36 : decode cX2_turns 36 = .ok (.ireturn, 1) := by decide +kernel
theorem dX2_allSlip_0 : decode cX2_allSlip 0 = .ok (.iconst 0, 1) := by decide +kernel
theorem dX2_allSlip_1 : decode cX2_allSlip 1 = .ok (.istore_n 1, 1) := by decide +kernel
theorem dX2_allSlip_2 : decode cX2_allSlip 2 = .ok (.iconst 0, 1) := by decide +kernel
theorem dX2_allSlip_3 : decode cX2_allSlip 3 = .ok (.istore_n 2, 1) := by decide +kernel
theorem dX2_allSlip_4 : decode cX2_allSlip 4 = .ok (.iload_n 2, 1) := by decide +kernel
theorem dX2_allSlip_5 : decode cX2_allSlip 5 = .ok (.iconst 3, 1) := by decide +kernel
theorem dX2_allSlip_6 : decode cX2_allSlip 6 = .ok (.if_icmp .ge 53, 3) := by decide +kernel
theorem dX2_allSlip_9 : decode cX2_allSlip 9 = .ok (.aload_n 0, 1) := by decide +kernel
theorem dX2_allSlip_10 : decode cX2_allSlip 10 = .ok (.getfield 21, 3) := by decide +kernel
theorem dX2_allSlip_13 : decode cX2_allSlip 13 = .ok (.iload_n 2, 1) := by decide +kernel
theorem dX2_allSlip_14 : decode cX2_allSlip 14 = .ok (.aload_n 0, 1) := by decide +kernel
theorem dX2_allSlip_15 : decode cX2_allSlip 15 = .ok (.getfield 21, 3) := by decide +kernel
theorem dX2_allSlip_18 : decode cX2_allSlip 18 = .ok (.getfield 41, 3) := by decide +kernel
theorem dX2_allSlip_21 : decode cX2_allSlip 21 = .ok (.iload_n 2, 1) := by decide +kernel
theorem dX2_allSlip_22 : decode cX2_allSlip 22 = .ok (.iaload, 1) := by decide +kernel
theorem dX2_allSlip_23 : decode cX2_allSlip 23 = .ok (.invokevirtual 69, 3) := by decide +kernel
theorem dX2_allSlip_26 : decode cX2_allSlip 26 = .ok (.istore_n 3, 1) := by decide +kernel
theorem dX2_allSlip_27 : decode cX2_allSlip 27 = .ok (.iload_n 3, 1) := by decide +kernel
theorem dX2_allSlip_28 : decode cX2_allSlip 28 = .ok (.aload_n 0, 1) := by decide +kernel
theorem dX2_allSlip_29 : decode cX2_allSlip 29 = .ok (.getfield 21, 3) := by decide +kernel
theorem dX2_allSlip_32 : decode cX2_allSlip 32 = .ok (.getfield 41, 3) := by decide +kernel
theorem dX2_allSlip_35 : decode cX2_allSlip 35 = .ok (.iload_n 2, 1) := by decide +kernel
theorem dX2_allSlip_36 : decode cX2_allSlip 36 = .ok (.iaload, 1) := by decide +kernel
theorem dX2_allSlip_37 : decode cX2_allSlip 37 = .ok (.if_icmp .eq 6, 3) := by decide +kernel
theorem dX2_allSlip_40 : decode cX2_allSlip 40 = .ok (.iinc 1 1, 3) := by decide +kernel
theorem dX2_allSlip_43 : decode cX2_allSlip 43 = .ok (.aload_n 0, 1) := by decide +kernel
theorem dX2_allSlip_44 : decode cX2_allSlip 44 = .ok (.getfield 21, 3) := by decide +kernel
theorem dX2_allSlip_47 : decode cX2_allSlip 47 = .ok (.getfield 41, 3) := by decide +kernel
theorem dX2_allSlip_50 : decode cX2_allSlip 50 = .ok (.iload_n 2, 1) := by decide +kernel
theorem dX2_allSlip_51 : decode cX2_allSlip 51 = .ok (.iload_n 3, 1) := by decide +kernel
theorem dX2_allSlip_52 : decode cX2_allSlip 52 = .ok (.iastore, 1) := by decide +kernel
theorem dX2_allSlip_53 : decode cX2_allSlip 53 = .ok (.iinc 2 1, 3) := by decide +kernel
theorem dX2_allSlip_56 : decode cX2_allSlip 56 = .ok (.goto (-52), 3) := by decide +kernel
theorem dX2_allSlip_59 : decode cX2_allSlip 59 = .ok (.iload_n 1, 1) := by decide +kernel
theorem dX2_allSlip_60 : decode cX2_allSlip 60 = .ok (.ireturn, 1) := by decide +kernel
theorem dX2_keepImage_0 : decode cX2_keepImage 0 = .ok (.aload_n 0, 1) := by decide +kernel
theorem dX2_keepImage_1 : decode cX2_keepImage 1 = .ok (.getfield 11, 3) := by decide +kernel
theorem dX2_keepImage_4 : decode cX2_keepImage 4 = .ok (.iconst 0, 1) := by decide +kernel
theorem dX2_keepImage_5 : decode cX2_keepImage 5 = .ok (.aload_n 0, 1) := by decide +kernel
theorem dX2_keepImage_6 : decode cX2_keepImage 6 = .ok (.getfield 15, 3) := by decide +kernel
theorem dX2_keepImage_9 : decode cX2_keepImage 9 = .ok (.iconst 0, 1) := by decide +kernel
theorem dX2_keepImage_10 : decode cX2_keepImage 10 = .ok (.iconst 5, 1) := by decide +kernel
theorem dX2_keepImage_11 : decode cX2_keepImage 11 = .ok (.invokestatic 46, 3) := by decide +kernel
theorem dX2_keepImage_14 : decode cX2_keepImage 14 = .ok (.aload_n 0, 1) := by decide +kernel
theorem dX2_keepImage_15 : decode cX2_keepImage 15 = .ok (.getfield 21, 3) := by decide +kernel
theorem dX2_keepImage_18 : decode cX2_keepImage 18 = .ok (.getfield 41, 3) := by decide +kernel
theorem dX2_keepImage_21 : decode cX2_keepImage 21 = .ok (.iconst 0, 1) := by decide +kernel
theorem dX2_keepImage_22 : decode cX2_keepImage 22 = .ok (.aload_n 0, 1) := by decide +kernel
theorem dX2_keepImage_23 : decode cX2_keepImage 23 = .ok (.getfield 18, 3) := by decide +kernel
theorem dX2_keepImage_26 : decode cX2_keepImage 26 = .ok (.iconst 0, 1) := by decide +kernel
theorem dX2_keepImage_27 : decode cX2_keepImage 27 = .ok (.iconst 3, 1) := by decide +kernel
theorem dX2_keepImage_28 : decode cX2_keepImage 28 = .ok (.invokestatic 46, 3) := by decide +kernel
theorem dX2_keepImage_31 : decode cX2_keepImage 31 = .ok (.aload_n 0, 1) := by decide +kernel
theorem dX2_keepImage_32 : decode cX2_keepImage 32 = .ok (.iconst 1, 1) := by decide +kernel
theorem dX2_keepImage_33 : decode cX2_keepImage 33 = .ok (.putfield 73, 3) := by decide +kernel
theorem dX2_keepImage_36 : decode cX2_keepImage 36 = .ok (.aload_n 0, 1) := by decide +kernel
theorem dX2_keepImage_37 : decode cX2_keepImage 37 = .ok (.getfield 11, 3) := by decide +kernel
theorem dX2_keepImage_40 : decode cX2_keepImage 40 = .ok (.iconst 0, 1) := by decide +kernel
theorem dX2_keepImage_41 : decode cX2_keepImage 41 = .ok (.iaload, 1) := by decide +kernel
theorem dX2_keepImage_42 : decode cX2_keepImage 42 = .ok (.ireturn, 1) := by decide +kernel
theorem dX2_layBack_0 : decode cX2_layBack 0 = .ok (.aload_n 0, 1) := by decide +kernel
theorem dX2_layBack_1 : decode cX2_layBack 1 = .ok (.getfield 73, 3) := by decide +kernel
theorem dX2_layBack_4 : decode cX2_layBack 4 = .ok (.ifCond .ne 6, 3) := by decide +kernel
theorem dX2_layBack_7 : decode cX2_layBack 7 = .ok (.bipush (-5), 2) := by decide +kernel
theorem dX2_layBack_9 : decode cX2_layBack 9 = .ok (.ireturn, 1) := by decide +kernel
theorem dX2_layBack_10 : decode cX2_layBack 10 = .ok (.aload_n 0, 1) := by decide +kernel
theorem dX2_layBack_11 : decode cX2_layBack 11 = .ok (.getfield 15, 3) := by decide +kernel
theorem dX2_layBack_14 : decode cX2_layBack 14 = .ok (.iconst 0, 1) := by decide +kernel
theorem dX2_layBack_15 : decode cX2_layBack 15 = .ok (.aload_n 0, 1) := by decide +kernel
theorem dX2_layBack_16 : decode cX2_layBack 16 = .ok (.getfield 11, 3) := by decide +kernel
theorem dX2_layBack_19 : decode cX2_layBack 19 = .ok (.iconst 0, 1) := by decide +kernel
theorem dX2_layBack_20 : decode cX2_layBack 20 = .ok (.iconst 5, 1) := by decide +kernel
theorem dX2_layBack_21 : decode cX2_layBack 21 = .ok (.invokestatic 46, 3) := by decide +kernel
theorem dX2_layBack_24 : decode cX2_layBack 24 = .ok (.aload_n 0, 1) := by decide +kernel
theorem dX2_layBack_25 : decode cX2_layBack 25 = .ok (.getfield 18, 3) := by decide +kernel
theorem dX2_layBack_28 : decode cX2_layBack 28 = .ok (.iconst 0, 1) := by decide +kernel
theorem dX2_layBack_29 : decode cX2_layBack 29 = .ok (.aload_n 0, 1) := by decide +kernel
theorem dX2_layBack_30 : decode cX2_layBack 30 = .ok (.getfield 21, 3) := by decide +kernel
theorem dX2_layBack_33 : decode cX2_layBack 33 = .ok (.getfield 41, 3) := by decide +kernel
theorem dX2_layBack_36 : decode cX2_layBack 36 = .ok (.iconst 0, 1) := by decide +kernel
theorem dX2_layBack_37 : decode cX2_layBack 37 = .ok (.iconst 3, 1) := by decide +kernel
theorem dX2_layBack_38 : decode cX2_layBack 38 = .ok (.invokestatic 46, 3) := by decide +kernel
theorem dX2_layBack_41 : decode cX2_layBack 41 = .ok (.aload_n 0, 1) := by decide +kernel
theorem dX2_layBack_42 : decode cX2_layBack 42 = .ok (.getfield 11, 3) := by decide +kernel
theorem dX2_layBack_45 : decode cX2_layBack 45 = .ok (.iconst 0, 1) := by decide +kernel
theorem dX2_layBack_46 : decode cX2_layBack 46 = .ok (.iaload, 1) := by decide +kernel
theorem dX2_layBack_47 : decode cX2_layBack 47 = .ok (.ireturn, 1) := by decide +kernel
theorem dX3_comes_0 : decode cX3_comes 0 = .ok (.aload_n 0, 1) := by decide +kernel
theorem dX3_comes_1 : decode cX3_comes 1 = .ok (.getfield 18, 3) := by decide +kernel
theorem dX3_comes_4 : decode cX3_comes 4 = .ok (.bipush 50, 2) := by decide +kernel
theorem dX3_comes_6 : decode cX3_comes 6 = .ok (.if_icmp .lt 6, 3) := by decide +kernel
theorem dX3_comes_9 : decode cX3_comes 9 = .ok (.bipush (-3), 2) := by decide +kernel
theorem dX3_comes_11 : decode cX3_comes 11 = .ok (.ireturn, 1) := by decide +kernel
theorem dX3_comes_12 : decode cX3_comes 12 = .ok (.aload_n 0, 1) := by decide +kernel
theorem dX3_comes_13 : decode cX3_comes 13 = .ok (.getfield 9, 3) := by decide +kernel
theorem dX3_comes_16 : decode cX3_comes 16 = .ok (.aload_n 0, 1) := by decide +kernel
theorem dX3_comes_17 : decode cX3_comes 17 = .ok (.getfield 18, 3) := by decide +kernel
theorem dX3_comes_20 : decode cX3_comes 20 = .ok (.iload_n 1, 1) := by decide +kernel
theorem dX3_comes_21 : decode cX3_comes 21 = .ok (.iastore, 1) := by decide +kernel
theorem dX3_comes_22 : decode cX3_comes 22 = .ok (.aload_n 0, 1) := by decide +kernel
theorem dX3_comes_23 : decode cX3_comes 23 = .ok (.dup, 1) := by decide +kernel
theorem dX3_comes_24 : decode cX3_comes 24 = .ok (.getfield 18, 3) := by decide +kernel
theorem dX3_comes_27 : decode cX3_comes 27 = .ok (.iconst 1, 1) := by decide +kernel
theorem dX3_comes_28 : decode cX3_comes 28 = .ok (.iadd, 1) := by decide +kernel
theorem dX3_comes_29 : decode cX3_comes 29 = .ok (.putfield 18, 3) := by decide +kernel
theorem dX3_comes_32 : decode cX3_comes 32 = .ok (.aload_n 0, 1) := by decide +kernel
theorem dX3_comes_33 : decode cX3_comes 33 = .ok (.getfield 18, 3) := by decide +kernel
theorem dX3_comes_36 : decode cX3_comes 36 = .ok (.iconst 1, 1) := by decide +kernel
theorem dX3_comes_37 : decode cX3_comes 37 = .ok (.isub, 1) := by decide +kernel
theorem dX3_comes_38 : decode cX3_comes 38 = .ok (.ireturn, 1) := by decide +kernel
theorem dX3_takenFor_0 : decode cX3_takenFor 0 = .ok (.aload_n 0, 1) := by decide +kernel
theorem dX3_takenFor_1 : decode cX3_takenFor 1 = .ok (.getfield 9, 3) := by decide +kernel
theorem dX3_takenFor_4 : decode cX3_takenFor 4 = .ok (.iload_n 1, 1) := by decide +kernel
theorem dX3_takenFor_5 : decode cX3_takenFor 5 = .ok (.iaload, 1) := by decide +kernel
theorem dX3_takenFor_6 : decode cX3_takenFor 6 = .ok (.istore_n 3, 1) := by decide +kernel
theorem dX3_takenFor_7 : decode cX3_takenFor 7 = .ok (.iconst 0, 1) := by decide +kernel
theorem dX3_takenFor_8 : decode cX3_takenFor 8 = .ok (.istore 4, 2) := by decide +kernel
theorem dX3_takenFor_10 : decode cX3_takenFor 10 = .ok (.iload 4, 2) := by decide +kernel
theorem dX3_takenFor_12 : decode cX3_takenFor 12 = .ok (.bipush 8, 2) := by decide +kernel
theorem dX3_takenFor_14 : decode cX3_takenFor 14 = .ok (.if_icmp .ge 31, 3) := by decide +kernel
theorem dX3_takenFor_17 : decode cX3_takenFor 17 = .ok (.iload_n 3, 1) := by decide +kernel
theorem dX3_takenFor_18 : decode cX3_takenFor 18 = .ok (.ifCond .lt 27, 3) := by decide +kernel
theorem dX3_takenFor_21 : decode cX3_takenFor 21 = .ok (.iload_n 3, 1) := by decide +kernel
theorem dX3_takenFor_22 : decode cX3_takenFor 22 = .ok (.iload_n 2, 1) := by decide +kernel
theorem dX3_takenFor_23 : decode cX3_takenFor 23 = .ok (.if_icmp .ne 10, 3) := by decide +kernel
theorem dX3_takenFor_26 : decode cX3_takenFor 26 = .ok (.aload_n 0, 1) := by decide +kernel
theorem dX3_takenFor_27 : decode cX3_takenFor 27 = .ok (.getfield 9, 3) := by decide +kernel
theorem dX3_takenFor_30 : decode cX3_takenFor 30 = .ok (.iload_n 1, 1) := by decide +kernel
theorem dX3_takenFor_31 : decode cX3_takenFor 31 = .ok (.iaload, 1) := by decide +kernel
theorem dX3_takenFor_32 : decode cX3_takenFor 32 = .ok (.ireturn, 1) := by decide +kernel
theorem dX3_takenFor_33 : decode cX3_takenFor 33 = .ok (.getstatic 22, 3) := by decide +kernel
theorem dX3_takenFor_36 : decode cX3_takenFor 36 = .ok (.iload_n 3, 1) := by decide +kernel
theorem dX3_takenFor_37 : decode cX3_takenFor 37 = .ok (.iaload, 1) := by decide +kernel
theorem dX3_takenFor_38 : decode cX3_takenFor 38 = .ok (.istore_n 3, 1) := by decide +kernel
theorem dX3_takenFor_39 : decode cX3_takenFor 39 = .ok (.iinc 4 1, 3) := by decide +kernel
theorem dX3_takenFor_42 : decode cX3_takenFor 42 = .ok (.goto (-32), 3) := by decide +kernel
theorem dX3_takenFor_45 : decode cX3_takenFor 45 = .ok (.bipush (-12), 2) := by decide +kernel
theorem dX3_takenFor_47 : decode cX3_takenFor 47 = .ok (.ireturn, 1) := by decide +kernel
theorem dX3_acts_0 : decode cX3_acts 0 = .ok (.aload_n 0, 1) := by decide +kernel
theorem dX3_acts_1 : decode cX3_acts 1 = .ok (.iconst 0, 1) := by decide +kernel
theorem dX3_acts_2 : decode cX3_acts 2 = .ok (.putfield 25, 3) := by decide +kernel
theorem dX3_acts_5 : decode cX3_acts 5 = .ok (.iload_n 1, 1) := by decide +kernel
theorem dX3_acts_6 : decode cX3_acts 6 = .ok (.ifCond .lt 20, 3) := by decide +kernel
theorem dX3_acts_9 : decode cX3_acts 9 = .ok (.iload_n 1, 1) := by decide +kernel
theorem dX3_acts_10 : decode cX3_acts 10 = .ok (.aload_n 0, 1) := by decide +kernel
theorem dX3_acts_11 : decode cX3_acts 11 = .ok (.getfield 18, 3) := by decide +kernel
theorem dX3_acts_14 : decode cX3_acts 14 = .ok (.if_icmp .ge 12, 3) := by decide +kernel
theorem dX3_acts_17 : decode cX3_acts 17 = .ok (.iload_n 2, 1) := by decide +kernel
theorem dX3_acts_18 : decode cX3_acts 18 = .ok (.ifCond .lt 8, 3) := by decide +kernel
theorem dX3_acts_21 : decode cX3_acts 21 = .ok (.iload_n 2, 1) := by decide +kernel
theorem dX3_acts_22 : decode cX3_acts 22 = .ok (.iconst 4, 1) := by decide +kernel
theorem dX3_acts_23 : decode cX3_acts 23 = .ok (.if_icmp .lt 5, 3) := by decide +kernel
theorem dX3_acts_26 : decode cX3_acts 26 = .ok (.iconst 0, 1) := by decide +kernel
theorem dX3_acts_27 : decode cX3_acts 27 = .ok (.ireturn, 1) := by decide +kernel
theorem dX3_acts_28 : decode cX3_acts 28 = .ok (.aload_n 0, 1) := by decide +kernel
theorem dX3_acts_29 : decode cX3_acts 29 = .ok (.aload_n 0, 1) := by decide +kernel
theorem dX3_acts_30 : decode cX3_acts 30 = .ok (.getfield 9, 3) := by decide +kernel
theorem dX3_acts_33 : decode cX3_acts 33 = .ok (.iload_n 1, 1) := by decide +kernel
theorem dX3_acts_34 : decode cX3_acts 34 = .ok (.iaload, 1) := by decide +kernel
theorem dX3_acts_35 : decode cX3_acts 35 = .ok (.putfield 28, 3) := by decide +kernel
theorem dX3_acts_38 : decode cX3_acts 38 = .ok (.aload_n 0, 1) := by decide +kernel
theorem dX3_acts_39 : decode cX3_acts 39 = .ok (.iload_n 1, 1) := by decide +kernel
theorem dX3_acts_40 : decode cX3_acts 40 = .ok (.putfield 31, 3) := by decide +kernel
theorem dX3_acts_43 : decode cX3_acts 43 = .ok (.aload_n 0, 1) := by decide +kernel
theorem dX3_acts_44 : decode cX3_acts 44 = .ok (.aload_n 0, 1) := by decide +kernel
theorem dX3_acts_45 : decode cX3_acts 45 = .ok (.getfield 28, 3) := by decide +kernel
theorem dX3_acts_48 : decode cX3_acts 48 = .ok (.iload_n 2, 1) := by decide +kernel
theorem dX3_acts_49 : decode cX3_acts 49 = .ok (.iload_n 3, 1) := by decide +kernel
theorem dX3_acts_50 : decode cX3_acts 50 = .ok (.iconst 0, 1) := by decide +kernel
theorem dX3_acts_51 : decode cX3_acts 51 = .ok (.invokevirtual 34, 3) := by decide +kernel
theorem dX3_acts_54 : decode cX3_acts 54 = .ok (.ireturn, 1) := by decide +kernel
theorem dX3_does_0 : decode cX3_does 0 = .ok (.iload_n 1, 1) := by decide +kernel
theorem dX3_does_1 : decode cX3_does 1 = .ok (.iload_n 2, 1) := by decide +kernel
theorem dX3_does_2 : decode cX3_does 2 = .ok (.invokestatic 38, 3) := by decide +kernel
theorem dX3_does_5 : decode cX3_does 5 = .ok (.istore 5, 2) := by decide +kernel
theorem dX3_does_7 : decode cX3_does 7 = .ok (.iload 5, 2) := by decide +kernel
theorem dX3_does_9 : decode cX3_does 9 = .ok (.ifCond .lt 10, 3) := by decide +kernel
theorem dX3_does_12 : decode cX3_does 12 = .ok (.iload 4, 2) := by decide +kernel
theorem dX3_does_14 : decode cX3_does 14 = .ok (.bipush 40, 2) := by decide +kernel
theorem dX3_does_16 : decode cX3_does 16 = .ok (.if_icmp .le 5, 3) := by decide +kernel
theorem dX3_does_21 : decode cX3_does 21 = .ok (.getstatic 42, 3) := by decide +kernel
theorem dX3_does_24 : decode cX3_does 24 = .ok (.iload 5, 2) := by decide +kernel
theorem dX3_does_26 : decode cX3_does 26 = .ok (.iconst 4, 1) := by decide +kernel
theorem dX3_does_27 : decode cX3_does 27 = .ok (.imul, 1) := by decide +kernel
theorem dX3_does_28 : decode cX3_does 28 = .ok (.iload_n 2, 1) := by decide +kernel
theorem dX3_does_29 : decode cX3_does 29 = .ok (.iadd, 1) := by decide +kernel
theorem dX3_does_30 : decode cX3_does 30 = .ok (.iaload, 1) := by decide +kernel
theorem dX3_does_31 : decode cX3_does 31 = .ok (.istore 6, 2) := by decide +kernel
theorem dX3_does_33 : decode cX3_does 33 = .ok (.aload_n 0, 1) := by decide +kernel
theorem dX3_does_34 : decode cX3_does 34 = .ok (.getfield 25, 3) := by decide +kernel
theorem dX3_does_37 : decode cX3_does 37 = .ok (.bipush 24, 2) := by decide +kernel
theorem dX3_does_39 : decode cX3_does 39 = .ok (.if_icmp .ge 14, 3) := by decide +kernel
theorem dX3_does_42 : decode cX3_does 42 = .ok (.aload_n 0, 1) := by decide +kernel
theorem dX3_does_43 : decode cX3_does 43 = .ok (.getfield 15, 3) := by decide +kernel
theorem dX3_does_46 : decode cX3_does 46 = .ok (.aload_n 0, 1) := by decide +kernel
theorem dX3_does_47 : decode cX3_does 47 = .ok (.getfield 25, 3) := by decide +kernel
theorem dX3_does_50 : decode cX3_does 50 = .ok (.iload 6, 2) := by decide +kernel
theorem dX3_does_52 : decode cX3_does 52 = .ok (.iastore, 1) := by decide +kernel
theorem dX3_does_53 : decode cX3_does 53 = .ok (.aload_n 0, 1) := by decide +kernel
theorem dX3_does_54 : decode cX3_does 54 = .ok (.dup, 1) := by decide +kernel
theorem dX3_does_55 : decode cX3_does 55 = .ok (.getfield 25, 3) := by decide +kernel
theorem dX3_does_58 : decode cX3_does 58 = .ok (.iconst 1, 1) := by decide +kernel
theorem dX3_does_59 : decode cX3_does 59 = .ok (.iadd, 1) := by decide +kernel
theorem dX3_does_60 : decode cX3_does 60 = .ok (.putfield 25, 3) := by decide +kernel
theorem dX3_does_63 : decode cX3_does 63 = .ok (.aload_n 0, 1) := by decide +kernel
theorem dX3_does_64 : decode cX3_does 64 = .ok (.iload 6, 2) := by decide +kernel
theorem dX3_does_66 : decode cX3_does 66 = .ok (.getstatic 22, 3) := by decide +kernel
theorem dX3_does_69 : decode cX3_does 69 = .ok (.iload 5, 2) := by decide +kernel
theorem dX3_does_71 : decode cX3_does 71 = .ok (.iaload, 1) := by decide +kernel
theorem dX3_does_72 : decode cX3_does 72 = .ok (.iload_n 3, 1) := by decide +kernel
theorem dX3_does_73 : decode cX3_does 73 = .ok (.iload 4, 2) := by decide +kernel
theorem dX3_does_75 : decode cX3_does 75 = .ok (.iconst 1, 1) := by decide +kernel
theorem dX3_does_76 : decode cX3_does 76 = .ok (.iadd, 1) := by decide +kernel
theorem dX3_does_77 : decode cX3_does 77 = .ok (.invokevirtual 45, 3) := by decide +kernel
theorem dX3_does_80 : decode cX3_does 80 = .ok (.ireturn, 1) := by decide +kernel
theorem dX3_ownerOf_0 : decode cX3_ownerOf 0 = .ok (.iload_n 0, 1) := by decide +kernel
theorem dX3_ownerOf_1 : decode cX3_ownerOf 1 = .ok (.istore_n 2, 1) := by decide +kernel
theorem dX3_ownerOf_2 : decode cX3_ownerOf 2 = .ok (.iconst 0, 1) := by decide +kernel
theorem dX3_ownerOf_3 : decode cX3_ownerOf 3 = .ok (.istore_n 3, 1) := by decide +kernel
theorem dX3_ownerOf_4 : decode cX3_ownerOf 4 = .ok (.iload_n 3, 1) := by decide +kernel
theorem dX3_ownerOf_5 : decode cX3_ownerOf 5 = .ok (.bipush 8, 2) := by decide +kernel
theorem dX3_ownerOf_7 : decode cX3_ownerOf 7 = .ok (.if_icmp .ge 33, 3) := by decide +kernel
theorem dX3_ownerOf_10 : decode cX3_ownerOf 10 = .ok (.iload_n 2, 1) := by decide +kernel
theorem dX3_ownerOf_11 : decode cX3_ownerOf 11 = .ok (.ifCond .lt 29, 3) := by decide +kernel
theorem dX3_ownerOf_14 : decode cX3_ownerOf 14 = .ok (.getstatic 42, 3) := by decide +kernel
theorem dX3_ownerOf_17 : decode cX3_ownerOf 17 = .ok (.iload_n 2, 1) := by decide +kernel
theorem dX3_ownerOf_18 : decode cX3_ownerOf 18 = .ok (.iconst 4, 1) := by decide +kernel
theorem dX3_ownerOf_19 : decode cX3_ownerOf 19 = .ok (.imul, 1) := by decide +kernel
theorem dX3_ownerOf_20 : decode cX3_ownerOf 20 = .ok (.iload_n 1, 1) := by decide +kernel
theorem dX3_ownerOf_21 : decode cX3_ownerOf 21 = .ok (.iadd, 1) := by decide +kernel
theorem dX3_ownerOf_22 : decode cX3_ownerOf 22 = .ok (.iaload, 1) := by decide +kernel
theorem dX3_ownerOf_23 : decode cX3_ownerOf 23 = .ok (.ifCond .eq 5, 3) := by decide +kernel
theorem dX3_ownerOf_26 : decode cX3_ownerOf 26 = .ok (.iload_n 2, 1) := by decide +kernel
theorem dX3_ownerOf_27 : decode cX3_ownerOf 27 = .ok (.ireturn, 1) := by decide +kernel
theorem dX3_ownerOf_28 : decode cX3_ownerOf 28 = .ok (.getstatic 22, 3) := by decide +kernel
theorem dX3_ownerOf_31 : decode cX3_ownerOf 31 = .ok (.iload_n 2, 1) := by decide +kernel
theorem dX3_ownerOf_32 : decode cX3_ownerOf 32 = .ok (.iaload, 1) := by decide +kernel
theorem dX3_ownerOf_33 : decode cX3_ownerOf 33 = .ok (.istore_n 2, 1) := by decide +kernel
theorem dX3_ownerOf_34 : decode cX3_ownerOf 34 = .ok (.iinc 3 1, 3) := by decide +kernel
theorem dX3_ownerOf_37 : decode cX3_ownerOf 37 = .ok (.goto (-33), 3) := by decide +kernel
theorem dX3_runs_0 : decode cX3_runs 0 = .ok (.iload_n 1, 1) := by decide +kernel
theorem dX3_runs_1 : decode cX3_runs 1 = .ok (.lookupswitch 299 #[(1, 115), (2, 122), (10, 148), (11, 163), (20, 170), (30, 182), (40, 193), (41, 205), (50, 217), (60, 240), (70, 252), (80, 264), (81, 287)], 115) := by decide +kernel
theorem dX3_runs_116 : decode cX3_runs 116 = .ok (.iload_n 3, 1) := by decide +kernel
theorem dX3_runs_117 : decode cX3_runs 117 = .ok (.aload_n 0, 1) := by decide +kernel
theorem dX3_runs_118 : decode cX3_runs 118 = .ok (.getfield 31, 3) := by decide +kernel
theorem dX3_runs_121 : decode cX3_runs 121 = .ok (.iadd, 1) := by decide +kernel
theorem dX3_runs_122 : decode cX3_runs 122 = .ok (.ireturn, 1) := by decide +kernel
theorem dX3_runs_123 : decode cX3_runs 123 = .ok (.aload_n 0, 1) := by decide +kernel
theorem dX3_runs_124 : decode cX3_runs 124 = .ok (.aload_n 0, 1) := by decide +kernel
theorem dX3_runs_125 : decode cX3_runs 125 = .ok (.getfield 28, 3) := by decide +kernel
theorem dX3_runs_128 : decode cX3_runs 128 = .ok (.iconst 1, 1) := by decide +kernel
theorem dX3_runs_129 : decode cX3_runs 129 = .ok (.iload_n 3, 1) := by decide +kernel
theorem dX3_runs_130 : decode cX3_runs 130 = .ok (.iload 4, 2) := by decide +kernel
theorem dX3_runs_132 : decode cX3_runs 132 = .ok (.invokevirtual 34, 3) := by decide +kernel
theorem dX3_runs_135 : decode cX3_runs 135 = .ok (.aload_n 0, 1) := by decide +kernel
theorem dX3_runs_136 : decode cX3_runs 136 = .ok (.aload_n 0, 1) := by decide +kernel
theorem dX3_runs_137 : decode cX3_runs 137 = .ok (.getfield 28, 3) := by decide +kernel
theorem dX3_runs_140 : decode cX3_runs 140 = .ok (.iconst 2, 1) := by decide +kernel
theorem dX3_runs_141 : decode cX3_runs 141 = .ok (.iconst 1, 1) := by decide +kernel
theorem dX3_runs_142 : decode cX3_runs 142 = .ok (.iload 4, 2) := by decide +kernel
theorem dX3_runs_144 : decode cX3_runs 144 = .ok (.invokevirtual 34, 3) := by decide +kernel
theorem dX3_runs_147 : decode cX3_runs 147 = .ok (.isub, 1) := by decide +kernel
theorem dX3_runs_148 : decode cX3_runs 148 = .ok (.ireturn, 1) := by decide +kernel
theorem dX3_runs_149 : decode cX3_runs 149 = .ok (.aload_n 0, 1) := by decide +kernel
theorem dX3_runs_150 : decode cX3_runs 150 = .ok (.aload_n 0, 1) := by decide +kernel
theorem dX3_runs_151 : decode cX3_runs 151 = .ok (.getfield 28, 3) := by decide +kernel
theorem dX3_runs_154 : decode cX3_runs 154 = .ok (.iconst 0, 1) := by decide +kernel
theorem dX3_runs_155 : decode cX3_runs 155 = .ok (.iload_n 3, 1) := by decide +kernel
theorem dX3_runs_156 : decode cX3_runs 156 = .ok (.iload 4, 2) := by decide +kernel
theorem dX3_runs_158 : decode cX3_runs 158 = .ok (.invokevirtual 34, 3) := by decide +kernel
theorem dX3_runs_161 : decode cX3_runs 161 = .ok (.iconst 2, 1) := by decide +kernel
theorem dX3_runs_162 : decode cX3_runs 162 = .ok (.imul, 1) := by decide +kernel
theorem dX3_runs_163 : decode cX3_runs 163 = .ok (.ireturn, 1) := by decide +kernel
theorem dX3_runs_164 : decode cX3_runs 164 = .ok (.iload_n 3, 1) := by decide +kernel
theorem dX3_runs_165 : decode cX3_runs 165 = .ok (.aload_n 0, 1) := by decide +kernel
theorem dX3_runs_166 : decode cX3_runs 166 = .ok (.getfield 31, 3) := by decide +kernel
theorem dX3_runs_169 : decode cX3_runs 169 = .ok (.ixor, 1) := by decide +kernel
theorem dX3_runs_170 : decode cX3_runs 170 = .ok (.ireturn, 1) := by decide +kernel
theorem dX3_runs_171 : decode cX3_runs 171 = .ok (.aload_n 0, 1) := by decide +kernel
theorem dX3_runs_172 : decode cX3_runs 172 = .ok (.iload_n 2, 1) := by decide +kernel
theorem dX3_runs_173 : decode cX3_runs 173 = .ok (.iconst 0, 1) := by decide +kernel
theorem dX3_runs_174 : decode cX3_runs 174 = .ok (.iload_n 3, 1) := by decide +kernel
theorem dX3_runs_175 : decode cX3_runs 175 = .ok (.iload 4, 2) := by decide +kernel
theorem dX3_runs_177 : decode cX3_runs 177 = .ok (.invokevirtual 34, 3) := by decide +kernel
theorem dX3_runs_180 : decode cX3_runs 180 = .ok (.iconst 3, 1) := by decide +kernel
theorem dX3_runs_181 : decode cX3_runs 181 = .ok (.iadd, 1) := by decide +kernel
theorem dX3_runs_182 : decode cX3_runs 182 = .ok (.ireturn, 1) := by decide +kernel
theorem dX3_runs_183 : decode cX3_runs 183 = .ok (.aload_n 0, 1) := by decide +kernel
theorem dX3_runs_184 : decode cX3_runs 184 = .ok (.iload_n 2, 1) := by decide +kernel
theorem dX3_runs_185 : decode cX3_runs 185 = .ok (.iconst 1, 1) := by decide +kernel
theorem dX3_runs_186 : decode cX3_runs 186 = .ok (.iload_n 3, 1) := by decide +kernel
theorem dX3_runs_187 : decode cX3_runs 187 = .ok (.iload 4, 2) := by decide +kernel
theorem dX3_runs_189 : decode cX3_runs 189 = .ok (.invokevirtual 34, 3) := by decide +kernel
theorem dX3_runs_192 : decode cX3_runs 192 = .ok (.ineg, 1) := by decide +kernel
theorem dX3_runs_193 : decode cX3_runs 193 = .ok (.ireturn, 1) := by decide +kernel
theorem dX3_runs_194 : decode cX3_runs 194 = .ok (.aload_n 0, 1) := by decide +kernel
theorem dX3_runs_195 : decode cX3_runs 195 = .ok (.iload_n 2, 1) := by decide +kernel
theorem dX3_runs_196 : decode cX3_runs 196 = .ok (.iconst 2, 1) := by decide +kernel
theorem dX3_runs_197 : decode cX3_runs 197 = .ok (.iload_n 3, 1) := by decide +kernel
theorem dX3_runs_198 : decode cX3_runs 198 = .ok (.iload 4, 2) := by decide +kernel
theorem dX3_runs_200 : decode cX3_runs 200 = .ok (.invokevirtual 34, 3) := by decide +kernel
theorem dX3_runs_203 : decode cX3_runs 203 = .ok (.iconst 3, 1) := by decide +kernel
theorem dX3_runs_204 : decode cX3_runs 204 = .ok (.imul, 1) := by decide +kernel
theorem dX3_runs_205 : decode cX3_runs 205 = .ok (.ireturn, 1) := by decide +kernel
theorem dX3_runs_206 : decode cX3_runs 206 = .ok (.aload_n 0, 1) := by decide +kernel
theorem dX3_runs_207 : decode cX3_runs 207 = .ok (.iload_n 2, 1) := by decide +kernel
theorem dX3_runs_208 : decode cX3_runs 208 = .ok (.iconst 1, 1) := by decide +kernel
theorem dX3_runs_209 : decode cX3_runs 209 = .ok (.iload_n 3, 1) := by decide +kernel
theorem dX3_runs_210 : decode cX3_runs 210 = .ok (.iconst 1, 1) := by decide +kernel
theorem dX3_runs_211 : decode cX3_runs 211 = .ok (.iadd, 1) := by decide +kernel
theorem dX3_runs_212 : decode cX3_runs 212 = .ok (.iload 4, 2) := by decide +kernel
theorem dX3_runs_214 : decode cX3_runs 214 = .ok (.invokevirtual 34, 3) := by decide +kernel
theorem dX3_runs_217 : decode cX3_runs 217 = .ok (.ireturn, 1) := by decide +kernel
theorem dX3_runs_218 : decode cX3_runs 218 = .ok (.aload_n 0, 1) := by decide +kernel
theorem dX3_runs_219 : decode cX3_runs 219 = .ok (.iload_n 2, 1) := by decide +kernel
theorem dX3_runs_220 : decode cX3_runs 220 = .ok (.iconst 2, 1) := by decide +kernel
theorem dX3_runs_221 : decode cX3_runs 221 = .ok (.iload_n 3, 1) := by decide +kernel
theorem dX3_runs_222 : decode cX3_runs 222 = .ok (.iload 4, 2) := by decide +kernel
theorem dX3_runs_224 : decode cX3_runs 224 = .ok (.invokevirtual 34, 3) := by decide +kernel
theorem dX3_runs_227 : decode cX3_runs 227 = .ok (.aload_n 0, 1) := by decide +kernel
theorem dX3_runs_228 : decode cX3_runs 228 = .ok (.aload_n 0, 1) := by decide +kernel
theorem dX3_runs_229 : decode cX3_runs 229 = .ok (.getfield 28, 3) := by decide +kernel
theorem dX3_runs_232 : decode cX3_runs 232 = .ok (.iconst 0, 1) := by decide +kernel
theorem dX3_runs_233 : decode cX3_runs 233 = .ok (.iconst 2, 1) := by decide +kernel
theorem dX3_runs_234 : decode cX3_runs 234 = .ok (.iload 4, 2) := by decide +kernel
theorem dX3_runs_236 : decode cX3_runs 236 = .ok (.invokevirtual 34, 3) := by decide +kernel
theorem dX3_runs_239 : decode cX3_runs 239 = .ok (.isub, 1) := by decide +kernel
theorem dX3_runs_240 : decode cX3_runs 240 = .ok (.ireturn, 1) := by decide +kernel
theorem dX3_runs_241 : decode cX3_runs 241 = .ok (.aload_n 0, 1) := by decide +kernel
theorem dX3_runs_242 : decode cX3_runs 242 = .ok (.iload_n 2, 1) := by decide +kernel
theorem dX3_runs_243 : decode cX3_runs 243 = .ok (.iconst 3, 1) := by decide +kernel
theorem dX3_runs_244 : decode cX3_runs 244 = .ok (.iload_n 3, 1) := by decide +kernel
theorem dX3_runs_245 : decode cX3_runs 245 = .ok (.iload 4, 2) := by decide +kernel
theorem dX3_runs_247 : decode cX3_runs 247 = .ok (.invokevirtual 34, 3) := by decide +kernel
theorem dX3_runs_250 : decode cX3_runs 250 = .ok (.iconst 5, 1) := by decide +kernel
theorem dX3_runs_251 : decode cX3_runs 251 = .ok (.ixor, 1) := by decide +kernel
theorem dX3_runs_252 : decode cX3_runs 252 = .ok (.ireturn, 1) := by decide +kernel
theorem dX3_runs_253 : decode cX3_runs 253 = .ok (.aload_n 0, 1) := by decide +kernel
theorem dX3_runs_254 : decode cX3_runs 254 = .ok (.iload_n 2, 1) := by decide +kernel
theorem dX3_runs_255 : decode cX3_runs 255 = .ok (.iconst 0, 1) := by decide +kernel
theorem dX3_runs_256 : decode cX3_runs 256 = .ok (.iload_n 3, 1) := by decide +kernel
theorem dX3_runs_257 : decode cX3_runs 257 = .ok (.iload 4, 2) := by decide +kernel
theorem dX3_runs_259 : decode cX3_runs 259 = .ok (.invokevirtual 34, 3) := by decide +kernel
theorem dX3_runs_262 : decode cX3_runs 262 = .ok (.iconst 2, 1) := by decide +kernel
theorem dX3_runs_263 : decode cX3_runs 263 = .ok (.imul, 1) := by decide +kernel
theorem dX3_runs_264 : decode cX3_runs 264 = .ok (.ireturn, 1) := by decide +kernel
theorem dX3_runs_265 : decode cX3_runs 265 = .ok (.aload_n 0, 1) := by decide +kernel
theorem dX3_runs_266 : decode cX3_runs 266 = .ok (.iload_n 2, 1) := by decide +kernel
theorem dX3_runs_267 : decode cX3_runs 267 = .ok (.iconst 1, 1) := by decide +kernel
theorem dX3_runs_268 : decode cX3_runs 268 = .ok (.iload_n 3, 1) := by decide +kernel
theorem dX3_runs_269 : decode cX3_runs 269 = .ok (.iload 4, 2) := by decide +kernel
theorem dX3_runs_271 : decode cX3_runs 271 = .ok (.invokevirtual 34, 3) := by decide +kernel
theorem dX3_runs_274 : decode cX3_runs 274 = .ok (.aload_n 0, 1) := by decide +kernel
theorem dX3_runs_275 : decode cX3_runs 275 = .ok (.aload_n 0, 1) := by decide +kernel
theorem dX3_runs_276 : decode cX3_runs 276 = .ok (.getfield 28, 3) := by decide +kernel
theorem dX3_runs_279 : decode cX3_runs 279 = .ok (.iconst 2, 1) := by decide +kernel
theorem dX3_runs_280 : decode cX3_runs 280 = .ok (.iconst 2, 1) := by decide +kernel
theorem dX3_runs_281 : decode cX3_runs 281 = .ok (.iload 4, 2) := by decide +kernel
theorem dX3_runs_283 : decode cX3_runs 283 = .ok (.invokevirtual 34, 3) := by decide +kernel
theorem dX3_runs_286 : decode cX3_runs 286 = .ok (.iadd, 1) := by decide +kernel
theorem dX3_runs_287 : decode cX3_runs 287 = .ok (.ireturn, 1) := by decide +kernel
theorem dX3_runs_288 : decode cX3_runs 288 = .ok (.aload_n 0, 1) := by decide +kernel
theorem dX3_runs_289 : decode cX3_runs 289 = .ok (.iload_n 2, 1) := by decide +kernel
theorem dX3_runs_290 : decode cX3_runs 290 = .ok (.iconst 3, 1) := by decide +kernel
theorem dX3_runs_291 : decode cX3_runs 291 = .ok (.iload_n 3, 1) := by decide +kernel
theorem dX3_runs_292 : decode cX3_runs 292 = .ok (.iload 4, 2) := by decide +kernel
theorem dX3_runs_294 : decode cX3_runs 294 = .ok (.invokevirtual 34, 3) := by decide +kernel
theorem dX3_runs_297 : decode cX3_runs 297 = .ok (.iconst 1, 1) := by decide +kernel
theorem dX3_runs_298 : decode cX3_runs 298 = .ok (.isub, 1) := by decide +kernel
theorem dX3_runs_299 : decode cX3_runs 299 = .ok (.ireturn, 1) := by decide +kernel
theorem dX4_begin_0 : decode cX4_begin 0 = .ok (.aload_n 0, 1) := by decide +kernel
theorem dX4_begin_1 : decode cX4_begin 1 = .ok (.iconst 0, 1) := by decide +kernel
theorem dX4_begin_2 : decode cX4_begin 2 = .ok (.putfield 36, 3) := by decide +kernel
theorem dX4_begin_5 : decode cX4_begin 5 = .ok (.aload_n 0, 1) := by decide +kernel
theorem dX4_begin_6 : decode cX4_begin 6 = .ok (.iconst 0, 1) := by decide +kernel
theorem dX4_begin_7 : decode cX4_begin 7 = .ok (.putfield 39, 3) := by decide +kernel
theorem dX4_begin_10 : decode cX4_begin 10 = .ok (.iconst 0, 1) := by decide +kernel
theorem dX4_begin_11 : decode cX4_begin 11 = .ok (.istore_n 1, 1) := by decide +kernel
theorem dX4_begin_12 : decode cX4_begin 12 = .ok (.iload_n 1, 1) := by decide +kernel
theorem dX4_begin_13 : decode cX4_begin 13 = .ok (.iconst 3, 1) := by decide +kernel
theorem dX4_begin_14 : decode cX4_begin 14 = .ok (.if_icmp .ge 16, 3) := by decide +kernel
theorem dX4_begin_17 : decode cX4_begin 17 = .ok (.aload_n 0, 1) := by decide +kernel
theorem dX4_begin_18 : decode cX4_begin 18 = .ok (.getfield 15, 3) := by decide +kernel
theorem dX4_begin_21 : decode cX4_begin 21 = .ok (.iload_n 1, 1) := by decide +kernel
theorem dX4_begin_22 : decode cX4_begin 22 = .ok (.iconst 0, 1) := by decide +kernel
theorem dX4_begin_23 : decode cX4_begin 23 = .ok (.iastore, 1) := by decide +kernel
theorem dX4_begin_24 : decode cX4_begin 24 = .ok (.iinc 1 1, 3) := by decide +kernel
theorem dX4_begin_27 : decode cX4_begin 27 = .ok (.goto (-15), 3) := by decide +kernel
theorem dX4_begin_30 : decode cX4_begin 30 = .ok (.iconst 0, 1) := by decide +kernel
theorem dX4_begin_31 : decode cX4_begin 31 = .ok (.istore_n 1, 1) := by decide +kernel
theorem dX4_begin_32 : decode cX4_begin 32 = .ok (.iload_n 1, 1) := by decide +kernel
theorem dX4_begin_33 : decode cX4_begin 33 = .ok (.bipush 8, 2) := by decide +kernel
theorem dX4_begin_35 : decode cX4_begin 35 = .ok (.if_icmp .ge 16, 3) := by decide +kernel
theorem dX4_begin_38 : decode cX4_begin 38 = .ok (.aload_n 0, 1) := by decide +kernel
theorem dX4_begin_39 : decode cX4_begin 39 = .ok (.getfield 18, 3) := by decide +kernel
theorem dX4_begin_42 : decode cX4_begin 42 = .ok (.iload_n 1, 1) := by decide +kernel
theorem dX4_begin_43 : decode cX4_begin 43 = .ok (.iconst 0, 1) := by decide +kernel
theorem dX4_begin_44 : decode cX4_begin 44 = .ok (.iastore, 1) := by decide +kernel
theorem dX4_begin_45 : decode cX4_begin 45 = .ok (.iinc 1 1, 3) := by decide +kernel
theorem dX4_begin_48 : decode cX4_begin 48 = .ok (.goto (-16), 3) := by decide +kernel
theorem dX4_begin_51 : decode cX4_begin 51 = .ok (.aload_n 0, 1) := by decide +kernel
theorem dX4_begin_52 : decode cX4_begin 52 = .ok (.invokevirtual 42, 3) := by decide +kernel
theorem dX4_begin_55 : decode cX4_begin 55 = .ok (.return_, 1) := by decide +kernel
theorem dX4_standAsNow_0 : decode cX4_standAsNow 0 = .ok (.iconst 0, 1) := by decide +kernel
theorem dX4_standAsNow_1 : decode cX4_standAsNow 1 = .ok (.istore_n 1, 1) := by decide +kernel
theorem dX4_standAsNow_2 : decode cX4_standAsNow 2 = .ok (.iload_n 1, 1) := by decide +kernel
theorem dX4_standAsNow_3 : decode cX4_standAsNow 3 = .ok (.iconst 3, 1) := by decide +kernel
theorem dX4_standAsNow_4 : decode cX4_standAsNow 4 = .ok (.if_icmp .ge 24, 3) := by decide +kernel
theorem dX4_standAsNow_7 : decode cX4_standAsNow 7 = .ok (.aload_n 0, 1) := by decide +kernel
theorem dX4_standAsNow_8 : decode cX4_standAsNow 8 = .ok (.getfield 9, 3) := by decide +kernel
theorem dX4_standAsNow_11 : decode cX4_standAsNow 11 = .ok (.iload_n 1, 1) := by decide +kernel
theorem dX4_standAsNow_12 : decode cX4_standAsNow 12 = .ok (.aload_n 0, 1) := by decide +kernel
theorem dX4_standAsNow_13 : decode cX4_standAsNow 13 = .ok (.getfield 28, 3) := by decide +kernel
theorem dX4_standAsNow_16 : decode cX4_standAsNow 16 = .ok (.getfield 45, 3) := by decide +kernel
theorem dX4_standAsNow_19 : decode cX4_standAsNow 19 = .ok (.iload_n 1, 1) := by decide +kernel
theorem dX4_standAsNow_20 : decode cX4_standAsNow 20 = .ok (.iaload, 1) := by decide +kernel
theorem dX4_standAsNow_21 : decode cX4_standAsNow 21 = .ok (.iastore, 1) := by decide +kernel
theorem dX4_standAsNow_22 : decode cX4_standAsNow 22 = .ok (.iinc 1 1, 3) := by decide +kernel
theorem dX4_standAsNow_25 : decode cX4_standAsNow 25 = .ok (.goto (-23), 3) := by decide +kernel
theorem dX4_standAsNow_28 : decode cX4_standAsNow 28 = .ok (.return_, 1) := by decide +kernel
theorem dX4_live_0 : decode cX4_live 0 = .ok (.aload_n 0, 1) := by decide +kernel
theorem dX4_live_1 : decode cX4_live 1 = .ok (.invokevirtual 50, 3) := by decide +kernel
theorem dX4_live_4 : decode cX4_live 4 = .ok (.iconst 0, 1) := by decide +kernel
theorem dX4_live_5 : decode cX4_live 5 = .ok (.istore_n 2, 1) := by decide +kernel
theorem dX4_live_6 : decode cX4_live 6 = .ok (.iload_n 2, 1) := by decide +kernel
theorem dX4_live_7 : decode cX4_live 7 = .ok (.iload_n 1, 1) := by decide +kernel
theorem dX4_live_8 : decode cX4_live 8 = .ok (.if_icmp .ge 22, 3) := by decide +kernel
theorem dX4_live_11 : decode cX4_live 11 = .ok (.aload_n 0, 1) := by decide +kernel
theorem dX4_live_12 : decode cX4_live 12 = .ok (.aload_n 0, 1) := by decide +kernel
theorem dX4_live_13 : decode cX4_live 13 = .ok (.getfield 32, 3) := by decide +kernel
theorem dX4_live_16 : decode cX4_live 16 = .ok (.getfield 53, 3) := by decide +kernel
theorem dX4_live_19 : decode cX4_live 19 = .ok (.iload_n 2, 1) := by decide +kernel
theorem dX4_live_20 : decode cX4_live 20 = .ok (.iaload, 1) := by decide +kernel
theorem dX4_live_21 : decode cX4_live 21 = .ok (.invokevirtual 58, 3) := by decide +kernel
theorem dX4_live_24 : decode cX4_live 24 = .ok (.iinc 2 1, 3) := by decide +kernel
theorem dX4_live_27 : decode cX4_live 27 = .ok (.goto (-21), 3) := by decide +kernel
theorem dX4_live_30 : decode cX4_live 30 = .ok (.return_, 1) := by decide +kernel
theorem dX4_pass_0 : decode cX4_pass 0 = .ok (.iload_n 1, 1) := by decide +kernel
theorem dX4_pass_1 : decode cX4_pass 1 = .ok (.iconst (-1), 1) := by decide +kernel
theorem dX4_pass_2 : decode cX4_pass 2 = .ok (.if_icmp .eq 20, 3) := by decide +kernel
theorem dX4_pass_5 : decode cX4_pass 5 = .ok (.aload_n 0, 1) := by decide +kernel
theorem dX4_pass_6 : decode cX4_pass 6 = .ok (.iload_n 1, 1) := by decide +kernel
theorem dX4_pass_7 : decode cX4_pass 7 = .ok (.invokevirtual 62, 3) := by decide +kernel
theorem dX4_pass_10 : decode cX4_pass 10 = .ok (.iload_n 1, 1) := by decide +kernel
theorem dX4_pass_11 : decode cX4_pass 11 = .ok (.aload_n 0, 1) := by decide +kernel
theorem dX4_pass_12 : decode cX4_pass 12 = .ok (.getfield 25, 3) := by decide +kernel
theorem dX4_pass_15 : decode cX4_pass 15 = .ok (.if_icmp .ne 7, 3) := by decide +kernel
theorem dX4_pass_18 : decode cX4_pass 18 = .ok (.aload_n 0, 1) := by decide +kernel
theorem dX4_pass_19 : decode cX4_pass 19 = .ok (.invokevirtual 65, 3) := by decide +kernel
theorem dX4_pass_22 : decode cX4_pass 22 = .ok (.aload_n 0, 1) := by decide +kernel
theorem dX4_pass_23 : decode cX4_pass 23 = .ok (.invokevirtual 68, 3) := by decide +kernel
theorem dX4_pass_26 : decode cX4_pass 26 = .ok (.return_, 1) := by decide +kernel
theorem dX4_comes_0 : decode cX4_comes 0 = .ok (.iload_n 1, 1) := by decide +kernel
theorem dX4_comes_1 : decode cX4_comes 1 = .ok (.aload_n 0, 1) := by decide +kernel
theorem dX4_comes_2 : decode cX4_comes 2 = .ok (.getfield 21, 3) := by decide +kernel
theorem dX4_comes_5 : decode cX4_comes 5 = .ok (.if_icmp .ne 10, 3) := by decide +kernel
theorem dX4_comes_8 : decode cX4_comes 8 = .ok (.aload_n 0, 1) := by decide +kernel
theorem dX4_comes_9 : decode cX4_comes 9 = .ok (.getfield 71, 3) := by decide +kernel
theorem dX4_comes_12 : decode cX4_comes 12 = .ok (.goto 13, 3) := by decide +kernel
theorem dX4_comes_15 : decode cX4_comes 15 = .ok (.aload_n 0, 1) := by decide +kernel
theorem dX4_comes_16 : decode cX4_comes 16 = .ok (.getfield 28, 3) := by decide +kernel
theorem dX4_comes_19 : decode cX4_comes 19 = .ok (.iload_n 1, 1) := by decide +kernel
theorem dX4_comes_20 : decode cX4_comes 20 = .ok (.bipush 6, 2) := by decide +kernel
theorem dX4_comes_22 : decode cX4_comes 22 = .ok (.invokevirtual 74, 3) := by decide +kernel
theorem dX4_comes_25 : decode cX4_comes 25 = .ok (.istore_n 2, 1) := by decide +kernel
theorem dX4_comes_26 : decode cX4_comes 26 = .ok (.iconst 0, 1) := by decide +kernel
theorem dX4_comes_27 : decode cX4_comes 27 = .ok (.istore_n 3, 1) := by decide +kernel
theorem dX4_comes_28 : decode cX4_comes 28 = .ok (.iload_n 3, 1) := by decide +kernel
theorem dX4_comes_29 : decode cX4_comes 29 = .ok (.iconst 3, 1) := by decide +kernel
theorem dX4_comes_30 : decode cX4_comes 30 = .ok (.if_icmp .ge 94, 3) := by decide +kernel
theorem dX4_comes_33 : decode cX4_comes 33 = .ok (.aload_n 0, 1) := by decide +kernel
theorem dX4_comes_34 : decode cX4_comes 34 = .ok (.iload_n 3, 1) := by decide +kernel
theorem dX4_comes_35 : decode cX4_comes 35 = .ok (.aload_n 0, 1) := by decide +kernel
theorem dX4_comes_36 : decode cX4_comes 36 = .ok (.getfield 28, 3) := by decide +kernel
theorem dX4_comes_39 : decode cX4_comes 39 = .ok (.iload_n 1, 1) := by decide +kernel
theorem dX4_comes_40 : decode cX4_comes 40 = .ok (.iload_n 3, 1) := by decide +kernel
theorem dX4_comes_41 : decode cX4_comes 41 = .ok (.aload_n 0, 1) := by decide +kernel
theorem dX4_comes_42 : decode cX4_comes 42 = .ok (.getfield 9, 3) := by decide +kernel
theorem dX4_comes_45 : decode cX4_comes 45 = .ok (.iload_n 3, 1) := by decide +kernel
theorem dX4_comes_46 : decode cX4_comes 46 = .ok (.iaload, 1) := by decide +kernel
theorem dX4_comes_47 : decode cX4_comes 47 = .ok (.iload_n 2, 1) := by decide +kernel
theorem dX4_comes_48 : decode cX4_comes 48 = .ok (.invokevirtual 78, 3) := by decide +kernel
theorem dX4_comes_51 : decode cX4_comes 51 = .ok (.invokevirtual 82, 3) := by decide +kernel
theorem dX4_comes_54 : decode cX4_comes 54 = .ok (.istore 4, 2) := by decide +kernel
theorem dX4_comes_56 : decode cX4_comes 56 = .ok (.aload_n 0, 1) := by decide +kernel
theorem dX4_comes_57 : decode cX4_comes 57 = .ok (.getfield 18, 3) := by decide +kernel
theorem dX4_comes_60 : decode cX4_comes 60 = .ok (.iload_n 1, 1) := by decide +kernel
theorem dX4_comes_61 : decode cX4_comes 61 = .ok (.dup2, 1) := by decide +kernel
theorem dX4_comes_62 : decode cX4_comes 62 = .ok (.iaload, 1) := by decide +kernel
theorem dX4_comes_63 : decode cX4_comes 63 = .ok (.iconst 0, 1) := by decide +kernel
theorem dX4_comes_64 : decode cX4_comes 64 = .ok (.iload 4, 2) := by decide +kernel
theorem dX4_comes_66 : decode cX4_comes 66 = .ok (.aload_n 0, 1) := by decide +kernel
theorem dX4_comes_67 : decode cX4_comes 67 = .ok (.getfield 28, 3) := by decide +kernel
theorem dX4_comes_70 : decode cX4_comes 70 = .ok (.invokevirtual 85, 3) := by decide +kernel
theorem dX4_comes_73 : decode cX4_comes 73 = .ok (.isub, 1) := by decide +kernel
theorem dX4_comes_74 : decode cX4_comes 74 = .ok (.invokestatic 89, 3) := by decide +kernel
theorem dX4_comes_77 : decode cX4_comes 77 = .ok (.iadd, 1) := by decide +kernel
theorem dX4_comes_78 : decode cX4_comes 78 = .ok (.iastore, 1) := by decide +kernel
theorem dX4_comes_79 : decode cX4_comes 79 = .ok (.aload_n 0, 1) := by decide +kernel
theorem dX4_comes_80 : decode cX4_comes 80 = .ok (.getfield 28, 3) := by decide +kernel
theorem dX4_comes_83 : decode cX4_comes 83 = .ok (.iload_n 1, 1) := by decide +kernel
theorem dX4_comes_84 : decode cX4_comes 84 = .ok (.iload_n 3, 1) := by decide +kernel
theorem dX4_comes_85 : decode cX4_comes 85 = .ok (.aload_n 0, 1) := by decide +kernel
theorem dX4_comes_86 : decode cX4_comes 86 = .ok (.getfield 9, 3) := by decide +kernel
theorem dX4_comes_89 : decode cX4_comes 89 = .ok (.iload_n 3, 1) := by decide +kernel
theorem dX4_comes_90 : decode cX4_comes 90 = .ok (.iaload, 1) := by decide +kernel
theorem dX4_comes_91 : decode cX4_comes 91 = .ok (.invokevirtual 94, 3) := by decide +kernel
theorem dX4_comes_94 : decode cX4_comes 94 = .ok (.istore 5, 2) := by decide +kernel
theorem dX4_comes_96 : decode cX4_comes 96 = .ok (.aload_n 0, 1) := by decide +kernel
theorem dX4_comes_97 : decode cX4_comes 97 = .ok (.dup, 1) := by decide +kernel
theorem dX4_comes_98 : decode cX4_comes 98 = .ok (.getfield 36, 3) := by decide +kernel
theorem dX4_comes_101 : decode cX4_comes 101 = .ok (.iload 5, 2) := by decide +kernel
theorem dX4_comes_103 : decode cX4_comes 103 = .ok (.iadd, 1) := by decide +kernel
theorem dX4_comes_104 : decode cX4_comes 104 = .ok (.putfield 36, 3) := by decide +kernel
theorem dX4_comes_107 : decode cX4_comes 107 = .ok (.aload_n 0, 1) := by decide +kernel
theorem dX4_comes_108 : decode cX4_comes 108 = .ok (.dup, 1) := by decide +kernel
theorem dX4_comes_109 : decode cX4_comes 109 = .ok (.getfield 39, 3) := by decide +kernel
theorem dX4_comes_112 : decode cX4_comes 112 = .ok (.iload 5, 2) := by decide +kernel
theorem dX4_comes_114 : decode cX4_comes 114 = .ok (.iadd, 1) := by decide +kernel
theorem dX4_comes_115 : decode cX4_comes 115 = .ok (.putfield 39, 3) := by decide +kernel
theorem dX4_comes_118 : decode cX4_comes 118 = .ok (.iinc 3 1, 3) := by decide +kernel
theorem dX4_comes_121 : decode cX4_comes 121 = .ok (.goto (-93), 3) := by decide +kernel
theorem dX4_comes_124 : decode cX4_comes 124 = .ok (.return_, 1) := by decide +kernel
theorem dX4_leaves_0 : decode cX4_leaves 0 = .ok (.iconst 0, 1) := by decide +kernel
theorem dX4_leaves_1 : decode cX4_leaves 1 = .ok (.istore_n 1, 1) := by decide +kernel
theorem dX4_leaves_2 : decode cX4_leaves 2 = .ok (.iload_n 1, 1) := by decide +kernel
theorem dX4_leaves_3 : decode cX4_leaves 3 = .ok (.iconst 3, 1) := by decide +kernel
theorem dX4_leaves_4 : decode cX4_leaves 4 = .ok (.if_icmp .ge 19, 3) := by decide +kernel
theorem dX4_leaves_7 : decode cX4_leaves 7 = .ok (.aload_n 0, 1) := by decide +kernel
theorem dX4_leaves_8 : decode cX4_leaves 8 = .ok (.iload_n 1, 1) := by decide +kernel
theorem dX4_leaves_9 : decode cX4_leaves 9 = .ok (.aload_n 0, 1) := by decide +kernel
theorem dX4_leaves_10 : decode cX4_leaves 10 = .ok (.getfield 98, 3) := by decide +kernel
theorem dX4_leaves_13 : decode cX4_leaves 13 = .ok (.invokevirtual 82, 3) := by decide +kernel
theorem dX4_leaves_16 : decode cX4_leaves 16 = .ok (.pop, 1) := by decide +kernel
theorem dX4_leaves_17 : decode cX4_leaves 17 = .ok (.iinc 1 1, 3) := by decide +kernel
theorem dX4_leaves_20 : decode cX4_leaves 20 = .ok (.goto (-18), 3) := by decide +kernel
theorem dX4_leaves_23 : decode cX4_leaves 23 = .ok (.return_, 1) := by decide +kernel
theorem dX4_turnTo_0 : decode cX4_turnTo 0 = .ok (.iload_n 2, 1) := by decide +kernel
theorem dX4_turnTo_1 : decode cX4_turnTo 1 = .ok (.aload_n 0, 1) := by decide +kernel
theorem dX4_turnTo_2 : decode cX4_turnTo 2 = .ok (.getfield 9, 3) := by decide +kernel
theorem dX4_turnTo_5 : decode cX4_turnTo 5 = .ok (.iload_n 1, 1) := by decide +kernel
theorem dX4_turnTo_6 : decode cX4_turnTo 6 = .ok (.iaload, 1) := by decide +kernel
theorem dX4_turnTo_7 : decode cX4_turnTo 7 = .ok (.isub, 1) := by decide +kernel
theorem dX4_turnTo_8 : decode cX4_turnTo 8 = .ok (.invokestatic 101, 3) := by decide +kernel
theorem dX4_turnTo_11 : decode cX4_turnTo 11 = .ok (.istore_n 3, 1) := by decide +kernel
theorem dX4_turnTo_12 : decode cX4_turnTo 12 = .ok (.iload_n 3, 1) := by decide +kernel
theorem dX4_turnTo_13 : decode cX4_turnTo 13 = .ok (.aload_n 0, 1) := by decide +kernel
theorem dX4_turnTo_14 : decode cX4_turnTo 14 = .ok (.getfield 28, 3) := by decide +kernel
theorem dX4_turnTo_17 : decode cX4_turnTo 17 = .ok (.iload_n 1, 1) := by decide +kernel
theorem dX4_turnTo_18 : decode cX4_turnTo 18 = .ok (.invokevirtual 105, 3) := by decide +kernel
theorem dX4_turnTo_21 : decode cX4_turnTo 21 = .ok (.imul, 1) := by decide +kernel
theorem dX4_turnTo_22 : decode cX4_turnTo 22 = .ok (.istore 4, 2) := by decide +kernel
theorem dX4_turnTo_24 : decode cX4_turnTo 24 = .ok (.aload_n 0, 1) := by decide +kernel
theorem dX4_turnTo_25 : decode cX4_turnTo 25 = .ok (.getfield 15, 3) := by decide +kernel
theorem dX4_turnTo_28 : decode cX4_turnTo 28 = .ok (.iload_n 1, 1) := by decide +kernel
theorem dX4_turnTo_29 : decode cX4_turnTo 29 = .ok (.dup2, 1) := by decide +kernel
theorem dX4_turnTo_30 : decode cX4_turnTo 30 = .ok (.iaload, 1) := by decide +kernel
theorem dX4_turnTo_31 : decode cX4_turnTo 31 = .ok (.iload_n 3, 1) := by decide +kernel
theorem dX4_turnTo_32 : decode cX4_turnTo 32 = .ok (.iadd, 1) := by decide +kernel
theorem dX4_turnTo_33 : decode cX4_turnTo 33 = .ok (.iastore, 1) := by decide +kernel
theorem dX4_turnTo_34 : decode cX4_turnTo 34 = .ok (.aload_n 0, 1) := by decide +kernel
theorem dX4_turnTo_35 : decode cX4_turnTo 35 = .ok (.dup, 1) := by decide +kernel
theorem dX4_turnTo_36 : decode cX4_turnTo 36 = .ok (.getfield 39, 3) := by decide +kernel
theorem dX4_turnTo_39 : decode cX4_turnTo 39 = .ok (.iload 4, 2) := by decide +kernel
theorem dX4_turnTo_41 : decode cX4_turnTo 41 = .ok (.iadd, 1) := by decide +kernel
theorem dX4_turnTo_42 : decode cX4_turnTo 42 = .ok (.putfield 39, 3) := by decide +kernel
theorem dX4_turnTo_45 : decode cX4_turnTo 45 = .ok (.aload_n 0, 1) := by decide +kernel
theorem dX4_turnTo_46 : decode cX4_turnTo 46 = .ok (.getfield 9, 3) := by decide +kernel
theorem dX4_turnTo_49 : decode cX4_turnTo 49 = .ok (.iload_n 1, 1) := by decide +kernel
theorem dX4_turnTo_50 : decode cX4_turnTo 50 = .ok (.iload_n 2, 1) := by decide +kernel
theorem dX4_turnTo_51 : decode cX4_turnTo 51 = .ok (.iastore, 1) := by decide +kernel
theorem dX4_turnTo_52 : decode cX4_turnTo 52 = .ok (.iload 4, 2) := by decide +kernel
theorem dX4_turnTo_54 : decode cX4_turnTo 54 = .ok (.ireturn, 1) := by decide +kernel
theorem dX4_slip_0 : decode cX4_slip 0 = .ok (.iconst 0, 1) := by decide +kernel
theorem dX4_slip_1 : decode cX4_slip 1 = .ok (.istore_n 1, 1) := by decide +kernel
theorem dX4_slip_2 : decode cX4_slip 2 = .ok (.iload_n 1, 1) := by decide +kernel
theorem dX4_slip_3 : decode cX4_slip 3 = .ok (.iconst 3, 1) := by decide +kernel
theorem dX4_slip_4 : decode cX4_slip 4 = .ok (.if_icmp .ge 29, 3) := by decide +kernel
theorem dX4_slip_7 : decode cX4_slip 7 = .ok (.aload_n 0, 1) := by decide +kernel
theorem dX4_slip_8 : decode cX4_slip 8 = .ok (.getfield 9, 3) := by decide +kernel
theorem dX4_slip_11 : decode cX4_slip 11 = .ok (.iload_n 1, 1) := by decide +kernel
theorem dX4_slip_12 : decode cX4_slip 12 = .ok (.aload_n 0, 1) := by decide +kernel
theorem dX4_slip_13 : decode cX4_slip 13 = .ok (.getfield 28, 3) := by decide +kernel
theorem dX4_slip_16 : decode cX4_slip 16 = .ok (.iload_n 1, 1) := by decide +kernel
theorem dX4_slip_17 : decode cX4_slip 17 = .ok (.aload_n 0, 1) := by decide +kernel
theorem dX4_slip_18 : decode cX4_slip 18 = .ok (.getfield 9, 3) := by decide +kernel
theorem dX4_slip_21 : decode cX4_slip 21 = .ok (.iload_n 1, 1) := by decide +kernel
theorem dX4_slip_22 : decode cX4_slip 22 = .ok (.iaload, 1) := by decide +kernel
theorem dX4_slip_23 : decode cX4_slip 23 = .ok (.invokevirtual 108, 3) := by decide +kernel
theorem dX4_slip_26 : decode cX4_slip 26 = .ok (.iastore, 1) := by decide +kernel
theorem dX4_slip_27 : decode cX4_slip 27 = .ok (.iinc 1 1, 3) := by decide +kernel
theorem dX4_slip_30 : decode cX4_slip 30 = .ok (.goto (-28), 3) := by decide +kernel
theorem dX4_slip_33 : decode cX4_slip 33 = .ok (.return_, 1) := by decide +kernel
theorem dX4_allTurns_0 : decode cX4_allTurns 0 = .ok (.iconst 0, 1) := by decide +kernel
theorem dX4_allTurns_1 : decode cX4_allTurns 1 = .ok (.istore_n 1, 1) := by decide +kernel
theorem dX4_allTurns_2 : decode cX4_allTurns 2 = .ok (.iconst 0, 1) := by decide +kernel
theorem dX4_allTurns_3 : decode cX4_allTurns 3 = .ok (.istore_n 2, 1) := by decide +kernel
theorem dX4_allTurns_4 : decode cX4_allTurns 4 = .ok (.iload_n 2, 1) := by decide +kernel
theorem dX4_allTurns_5 : decode cX4_allTurns 5 = .ok (.iconst 3, 1) := by decide +kernel
theorem dX4_allTurns_6 : decode cX4_allTurns 6 = .ok (.if_icmp .ge 18, 3) := by decide +kernel
theorem dX4_allTurns_9 : decode cX4_allTurns 9 = .ok (.iload_n 1, 1) := by decide +kernel
theorem dX4_allTurns_10 : decode cX4_allTurns 10 = .ok (.aload_n 0, 1) := by decide +kernel
theorem dX4_allTurns_11 : decode cX4_allTurns 11 = .ok (.getfield 15, 3) := by decide +kernel
theorem dX4_allTurns_14 : decode cX4_allTurns 14 = .ok (.iload_n 2, 1) := by decide +kernel
theorem dX4_allTurns_15 : decode cX4_allTurns 15 = .ok (.iaload, 1) := by decide +kernel
theorem dX4_allTurns_16 : decode cX4_allTurns 16 = .ok (.iadd, 1) := by decide +kernel
theorem dX4_allTurns_17 : decode cX4_allTurns 17 = .ok (.istore_n 1, 1) := by decide +kernel
theorem dX4_allTurns_18 : decode cX4_allTurns 18 = .ok (.iinc 2 1, 3) := by decide +kernel
theorem dX4_allTurns_21 : decode cX4_allTurns 21 = .ok (.goto (-17), 3) := by decide +kernel
theorem dX4_allTurns_24 : decode cX4_allTurns 24 = .ok (.iload_n 1, 1) := by decide +kernel
theorem dX4_allTurns_25 : decode cX4_allTurns 25 = .ok (.ireturn, 1) := by decide +kernel
theorem dX4_bestNear_0 : decode cX4_bestNear 0 = .ok (.iconst 0, 1) := by decide +kernel
theorem dX4_bestNear_1 : decode cX4_bestNear 1 = .ok (.istore_n 3, 1) := by decide +kernel
theorem dX4_bestNear_2 : decode cX4_bestNear 2 = .ok (.iconst 0, 1) := by decide +kernel
theorem dX4_bestNear_3 : decode cX4_bestNear 3 = .ok (.istore 4, 2) := by decide +kernel
theorem dX4_bestNear_5 : decode cX4_bestNear 5 = .ok (.aload_n 0, 1) := by decide +kernel
theorem dX4_bestNear_6 : decode cX4_bestNear 6 = .ok (.iload_n 1, 1) := by decide +kernel
theorem dX4_bestNear_7 : decode cX4_bestNear 7 = .ok (.putfield 21, 3) := by decide +kernel
theorem dX4_bestNear_10 : decode cX4_bestNear 10 = .ok (.iconst 0, 1) := by decide +kernel
theorem dX4_bestNear_11 : decode cX4_bestNear 11 = .ok (.istore 5, 2) := by decide +kernel
theorem dX4_bestNear_13 : decode cX4_bestNear 13 = .ok (.iload 5, 2) := by decide +kernel
theorem dX4_bestNear_15 : decode cX4_bestNear 15 = .ok (.bipush 60, 2) := by decide +kernel
theorem dX4_bestNear_17 : decode cX4_bestNear 17 = .ok (.if_icmp .gt 49, 3) := by decide +kernel
theorem dX4_bestNear_20 : decode cX4_bestNear 20 = .ok (.aload_n 0, 1) := by decide +kernel
theorem dX4_bestNear_21 : decode cX4_bestNear 21 = .ok (.iload 5, 2) := by decide +kernel
theorem dX4_bestNear_23 : decode cX4_bestNear 23 = .ok (.putfield 71, 3) := by decide +kernel
theorem dX4_bestNear_26 : decode cX4_bestNear 26 = .ok (.aload_n 0, 1) := by decide +kernel
theorem dX4_bestNear_27 : decode cX4_bestNear 27 = .ok (.aload_n 0, 1) := by decide +kernel
theorem dX4_bestNear_28 : decode cX4_bestNear 28 = .ok (.getfield 32, 3) := by decide +kernel
theorem dX4_bestNear_31 : decode cX4_bestNear 31 = .ok (.getfield 111, 3) := by decide +kernel
theorem dX4_bestNear_34 : decode cX4_bestNear 34 = .ok (.invokevirtual 114, 3) := by decide +kernel
theorem dX4_bestNear_37 : decode cX4_bestNear 37 = .ok (.iload 5, 2) := by decide +kernel
theorem dX4_bestNear_39 : decode cX4_bestNear 39 = .ok (.ifCond .eq 12, 3) := by decide +kernel
theorem dX4_bestNear_42 : decode cX4_bestNear 42 = .ok (.aload_n 0, 1) := by decide +kernel
theorem dX4_bestNear_43 : decode cX4_bestNear 43 = .ok (.getfield 39, 3) := by decide +kernel
theorem dX4_bestNear_46 : decode cX4_bestNear 46 = .ok (.iload 4, 2) := by decide +kernel
theorem dX4_bestNear_48 : decode cX4_bestNear 48 = .ok (.if_icmp .ge 12, 3) := by decide +kernel
theorem dX4_bestNear_51 : decode cX4_bestNear 51 = .ok (.iload 5, 2) := by decide +kernel
theorem dX4_bestNear_53 : decode cX4_bestNear 53 = .ok (.istore_n 3, 1) := by decide +kernel
theorem dX4_bestNear_54 : decode cX4_bestNear 54 = .ok (.aload_n 0, 1) := by decide +kernel
theorem dX4_bestNear_55 : decode cX4_bestNear 55 = .ok (.getfield 39, 3) := by decide +kernel
theorem dX4_bestNear_58 : decode cX4_bestNear 58 = .ok (.istore 4, 2) := by decide +kernel
theorem dX4_bestNear_60 : decode cX4_bestNear 60 = .ok (.iinc 5 1, 3) := by decide +kernel
theorem dX4_bestNear_63 : decode cX4_bestNear 63 = .ok (.goto (-50), 3) := by decide +kernel
theorem dX4_bestNear_66 : decode cX4_bestNear 66 = .ok (.aload_n 0, 1) := by decide +kernel
theorem dX4_bestNear_67 : decode cX4_bestNear 67 = .ok (.iconst (-1), 1) := by decide +kernel
theorem dX4_bestNear_68 : decode cX4_bestNear 68 = .ok (.putfield 21, 3) := by decide +kernel
theorem dX4_bestNear_71 : decode cX4_bestNear 71 = .ok (.iload_n 2, 1) := by decide +kernel
theorem dX4_bestNear_72 : decode cX4_bestNear 72 = .ok (.ifCond .ne 7, 3) := by decide +kernel
theorem dX4_bestNear_75 : decode cX4_bestNear 75 = .ok (.iload_n 3, 1) := by decide +kernel
theorem dX4_bestNear_76 : decode cX4_bestNear 76 = .ok (.goto 5, 3) := by decide +kernel
theorem dX4_bestNear_79 : decode cX4_bestNear 79 = .ok (.iload 4, 2) := by decide +kernel
theorem dX4_bestNear_81 : decode cX4_bestNear 81 = .ok (.ireturn, 1) := by decide +kernel
theorem dX4_bestMemories_0 : decode cX4_bestMemories 0 = .ok (.aload_n 0, 1) := by decide +kernel
theorem dX4_bestMemories_1 : decode cX4_bestMemories 1 = .ok (.aload_n 0, 1) := by decide +kernel
theorem dX4_bestMemories_2 : decode cX4_bestMemories 2 = .ok (.getfield 32, 3) := by decide +kernel
theorem dX4_bestMemories_5 : decode cX4_bestMemories 5 = .ok (.getfield 111, 3) := by decide +kernel
theorem dX4_bestMemories_8 : decode cX4_bestMemories 8 = .ok (.invokevirtual 114, 3) := by decide +kernel
theorem dX4_bestMemories_11 : decode cX4_bestMemories 11 = .ok (.iconst 0, 1) := by decide +kernel
theorem dX4_bestMemories_12 : decode cX4_bestMemories 12 = .ok (.istore_n 3, 1) := by decide +kernel
theorem dX4_bestMemories_13 : decode cX4_bestMemories 13 = .ok (.iconst 0, 1) := by decide +kernel
theorem dX4_bestMemories_14 : decode cX4_bestMemories 14 = .ok (.istore 4, 2) := by decide +kernel
theorem dX4_bestMemories_16 : decode cX4_bestMemories 16 = .ok (.iconst 1, 1) := by decide +kernel
theorem dX4_bestMemories_17 : decode cX4_bestMemories 17 = .ok (.istore 5, 2) := by decide +kernel
theorem dX4_bestMemories_19 : decode cX4_bestMemories 19 = .ok (.iload 5, 2) := by decide +kernel
theorem dX4_bestMemories_21 : decode cX4_bestMemories 21 = .ok (.iconst 1, 1) := by decide +kernel
theorem dX4_bestMemories_22 : decode cX4_bestMemories 22 = .ok (.aload_n 0, 1) := by decide +kernel
theorem dX4_bestMemories_23 : decode cX4_bestMemories 23 = .ok (.getfield 28, 3) := by decide +kernel
theorem dX4_bestMemories_26 : decode cX4_bestMemories 26 = .ok (.getfield 117, 3) := by decide +kernel
theorem dX4_bestMemories_29 : decode cX4_bestMemories 29 = .ok (.ishl, 1) := by decide +kernel
theorem dX4_bestMemories_30 : decode cX4_bestMemories 30 = .ok (.if_icmp .ge 72, 3) := by decide +kernel
theorem dX4_bestMemories_33 : decode cX4_bestMemories 33 = .ok (.iload 5, 2) := by decide +kernel
theorem dX4_bestMemories_35 : decode cX4_bestMemories 35 = .ok (.invokestatic 119, 3) := by decide +kernel
theorem dX4_bestMemories_38 : decode cX4_bestMemories 38 = .ok (.istore 6, 2) := by decide +kernel
theorem dX4_bestMemories_40 : decode cX4_bestMemories 40 = .ok (.aload_n 0, 1) := by decide +kernel
theorem dX4_bestMemories_41 : decode cX4_bestMemories 41 = .ok (.iload 5, 2) := by decide +kernel
theorem dX4_bestMemories_43 : decode cX4_bestMemories 43 = .ok (.invokevirtual 124, 3) := by decide +kernel
theorem dX4_bestMemories_46 : decode cX4_bestMemories 46 = .ok (.istore 7, 2) := by decide +kernel
theorem dX4_bestMemories_48 : decode cX4_bestMemories 48 = .ok (.iload 7, 2) := by decide +kernel
theorem dX4_bestMemories_50 : decode cX4_bestMemories 50 = .ok (.iload 4, 2) := by decide +kernel
theorem dX4_bestMemories_52 : decode cX4_bestMemories 52 = .ok (.if_icmp .ne 16, 3) := by decide +kernel
theorem dX4_bestMemories_55 : decode cX4_bestMemories 55 = .ok (.iload 6, 2) := by decide +kernel
theorem dX4_bestMemories_57 : decode cX4_bestMemories 57 = .ok (.iload_n 3, 1) := by decide +kernel
theorem dX4_bestMemories_58 : decode cX4_bestMemories 58 = .ok (.invokestatic 119, 3) := by decide +kernel
theorem dX4_bestMemories_61 : decode cX4_bestMemories 61 = .ok (.if_icmp .ge 7, 3) := by decide +kernel
theorem dX4_bestMemories_64 : decode cX4_bestMemories 64 = .ok (.iconst 1, 1) := by decide +kernel
theorem dX4_bestMemories_65 : decode cX4_bestMemories 65 = .ok (.goto 4, 3) := by decide +kernel
theorem dX4_bestMemories_68 : decode cX4_bestMemories 68 = .ok (.iconst 0, 1) := by decide +kernel
theorem dX4_bestMemories_69 : decode cX4_bestMemories 69 = .ok (.istore 8, 2) := by decide +kernel
theorem dX4_bestMemories_71 : decode cX4_bestMemories 71 = .ok (.iload 6, 2) := by decide +kernel
theorem dX4_bestMemories_73 : decode cX4_bestMemories 73 = .ok (.iload_n 1, 1) := by decide +kernel
theorem dX4_bestMemories_74 : decode cX4_bestMemories 74 = .ok (.if_icmp .gt 22, 3) := by decide +kernel
theorem dX4_bestMemories_77 : decode cX4_bestMemories 77 = .ok (.iload 7, 2) := by decide +kernel
theorem dX4_bestMemories_79 : decode cX4_bestMemories 79 = .ok (.iload 4, 2) := by decide +kernel
theorem dX4_bestMemories_81 : decode cX4_bestMemories 81 = .ok (.if_icmp .gt 8, 3) := by decide +kernel
theorem dX4_bestMemories_84 : decode cX4_bestMemories 84 = .ok (.iload 8, 2) := by decide +kernel
theorem dX4_bestMemories_86 : decode cX4_bestMemories 86 = .ok (.ifCond .eq 10, 3) := by decide +kernel
theorem dX4_bestMemories_89 : decode cX4_bestMemories 89 = .ok (.iload 5, 2) := by decide +kernel
theorem dX4_bestMemories_91 : decode cX4_bestMemories 91 = .ok (.istore_n 3, 1) := by decide +kernel
theorem dX4_bestMemories_92 : decode cX4_bestMemories 92 = .ok (.iload 7, 2) := by decide +kernel
theorem dX4_bestMemories_94 : decode cX4_bestMemories 94 = .ok (.istore 4, 2) := by decide +kernel
theorem dX4_bestMemories_96 : decode cX4_bestMemories 96 = .ok (.iinc 5 1, 3) := by decide +kernel
theorem dX4_bestMemories_99 : decode cX4_bestMemories 99 = .ok (.goto (-80), 3) := by decide +kernel
theorem dX4_bestMemories_102 : decode cX4_bestMemories 102 = .ok (.iload_n 2, 1) := by decide +kernel
theorem dX4_bestMemories_103 : decode cX4_bestMemories 103 = .ok (.ifCond .ne 7, 3) := by decide +kernel
theorem dX4_bestMemories_106 : decode cX4_bestMemories 106 = .ok (.iload_n 3, 1) := by decide +kernel
theorem dX4_bestMemories_107 : decode cX4_bestMemories 107 = .ok (.goto 10, 3) := by decide +kernel
theorem dX4_bestMemories_110 : decode cX4_bestMemories 110 = .ok (.aload_n 0, 1) := by decide +kernel
theorem dX4_bestMemories_111 : decode cX4_bestMemories 111 = .ok (.getfield 39, 3) := by decide +kernel
theorem dX4_bestMemories_114 : decode cX4_bestMemories 114 = .ok (.iload 4, 2) := by decide +kernel
theorem dX4_bestMemories_116 : decode cX4_bestMemories 116 = .ok (.isub, 1) := by decide +kernel
theorem dX4_bestMemories_117 : decode cX4_bestMemories 117 = .ok (.ireturn, 1) := by decide +kernel
theorem dX4_sparedBy_0 : decode cX4_sparedBy 0 = .ok (.iconst 0, 1) := by decide +kernel
theorem dX4_sparedBy_1 : decode cX4_sparedBy 1 = .ok (.istore_n 2, 1) := by decide +kernel
theorem dX4_sparedBy_2 : decode cX4_sparedBy 2 = .ok (.iconst 0, 1) := by decide +kernel
theorem dX4_sparedBy_3 : decode cX4_sparedBy 3 = .ok (.istore_n 3, 1) := by decide +kernel
theorem dX4_sparedBy_4 : decode cX4_sparedBy 4 = .ok (.iload_n 3, 1) := by decide +kernel
theorem dX4_sparedBy_5 : decode cX4_sparedBy 5 = .ok (.bipush 8, 2) := by decide +kernel
theorem dX4_sparedBy_7 : decode cX4_sparedBy 7 = .ok (.if_icmp .ge 26, 3) := by decide +kernel
theorem dX4_sparedBy_10 : decode cX4_sparedBy 10 = .ok (.iload_n 1, 1) := by decide +kernel
theorem dX4_sparedBy_11 : decode cX4_sparedBy 11 = .ok (.iload_n 3, 1) := by decide +kernel
theorem dX4_sparedBy_12 : decode cX4_sparedBy 12 = .ok (.ishr, 1) := by decide +kernel
theorem dX4_sparedBy_13 : decode cX4_sparedBy 13 = .ok (.iconst 1, 1) := by decide +kernel
theorem dX4_sparedBy_14 : decode cX4_sparedBy 14 = .ok (.iand, 1) := by decide +kernel
theorem dX4_sparedBy_15 : decode cX4_sparedBy 15 = .ok (.ifCond .eq 12, 3) := by decide +kernel
theorem dX4_sparedBy_18 : decode cX4_sparedBy 18 = .ok (.iload_n 2, 1) := by decide +kernel
theorem dX4_sparedBy_19 : decode cX4_sparedBy 19 = .ok (.aload_n 0, 1) := by decide +kernel
theorem dX4_sparedBy_20 : decode cX4_sparedBy 20 = .ok (.getfield 18, 3) := by decide +kernel
theorem dX4_sparedBy_23 : decode cX4_sparedBy 23 = .ok (.iload_n 3, 1) := by decide +kernel
theorem dX4_sparedBy_24 : decode cX4_sparedBy 24 = .ok (.iaload, 1) := by decide +kernel
theorem dX4_sparedBy_25 : decode cX4_sparedBy 25 = .ok (.iadd, 1) := by decide +kernel
theorem dX4_sparedBy_26 : decode cX4_sparedBy 26 = .ok (.istore_n 2, 1) := by decide +kernel
theorem dX4_sparedBy_27 : decode cX4_sparedBy 27 = .ok (.iinc 3 1, 3) := by decide +kernel
theorem dX4_sparedBy_30 : decode cX4_sparedBy 30 = .ok (.goto (-26), 3) := by decide +kernel
theorem dX4_sparedBy_33 : decode cX4_sparedBy 33 = .ok (.iload_n 2, 1) := by decide +kernel
theorem dX4_sparedBy_34 : decode cX4_sparedBy 34 = .ok (.ireturn, 1) := by decide +kernel
theorem dX4_savedByMarks_0 : decode cX4_savedByMarks 0 = .ok (.aload_n 0, 1) := by decide +kernel
theorem dX4_savedByMarks_1 : decode cX4_savedByMarks 1 = .ok (.aload_n 0, 1) := by decide +kernel
theorem dX4_savedByMarks_2 : decode cX4_savedByMarks 2 = .ok (.getfield 32, 3) := by decide +kernel
theorem dX4_savedByMarks_5 : decode cX4_savedByMarks 5 = .ok (.getfield 111, 3) := by decide +kernel
theorem dX4_savedByMarks_8 : decode cX4_savedByMarks 8 = .ok (.invokevirtual 114, 3) := by decide +kernel
theorem dX4_savedByMarks_11 : decode cX4_savedByMarks 11 = .ok (.iconst 0, 1) := by decide +kernel
theorem dX4_savedByMarks_12 : decode cX4_savedByMarks 12 = .ok (.istore_n 1, 1) := by decide +kernel
theorem dX4_savedByMarks_13 : decode cX4_savedByMarks 13 = .ok (.iconst 0, 1) := by decide +kernel
theorem dX4_savedByMarks_14 : decode cX4_savedByMarks 14 = .ok (.istore_n 2, 1) := by decide +kernel
theorem dX4_savedByMarks_15 : decode cX4_savedByMarks 15 = .ok (.iload_n 2, 1) := by decide +kernel
theorem dX4_savedByMarks_16 : decode cX4_savedByMarks 16 = .ok (.iconst 3, 1) := by decide +kernel
theorem dX4_savedByMarks_17 : decode cX4_savedByMarks 17 = .ok (.if_icmp .ge 33, 3) := by decide +kernel
theorem dX4_savedByMarks_20 : decode cX4_savedByMarks 20 = .ok (.aload_n 0, 1) := by decide +kernel
theorem dX4_savedByMarks_21 : decode cX4_savedByMarks 21 = .ok (.getfield 28, 3) := by decide +kernel
theorem dX4_savedByMarks_24 : decode cX4_savedByMarks 24 = .ok (.iload_n 2, 1) := by decide +kernel
theorem dX4_savedByMarks_25 : decode cX4_savedByMarks 25 = .ok (.invokevirtual 105, 3) := by decide +kernel
theorem dX4_savedByMarks_28 : decode cX4_savedByMarks 28 = .ok (.istore_n 3, 1) := by decide +kernel
theorem dX4_savedByMarks_29 : decode cX4_savedByMarks 29 = .ok (.iload_n 1, 1) := by decide +kernel
theorem dX4_savedByMarks_30 : decode cX4_savedByMarks 30 = .ok (.aload_n 0, 1) := by decide +kernel
theorem dX4_savedByMarks_31 : decode cX4_savedByMarks 31 = .ok (.getfield 15, 3) := by decide +kernel
theorem dX4_savedByMarks_34 : decode cX4_savedByMarks 34 = .ok (.iload_n 2, 1) := by decide +kernel
theorem dX4_savedByMarks_35 : decode cX4_savedByMarks 35 = .ok (.iaload, 1) := by decide +kernel
theorem dX4_savedByMarks_36 : decode cX4_savedByMarks 36 = .ok (.iload_n 3, 1) := by decide +kernel
theorem dX4_savedByMarks_37 : decode cX4_savedByMarks 37 = .ok (.iload_n 3, 1) := by decide +kernel
theorem dX4_savedByMarks_38 : decode cX4_savedByMarks 38 = .ok (.iconst 2, 1) := by decide +kernel
theorem dX4_savedByMarks_39 : decode cX4_savedByMarks 39 = .ok (.idiv, 1) := by decide +kernel
theorem dX4_savedByMarks_40 : decode cX4_savedByMarks 40 = .ok (.isub, 1) := by decide +kernel
theorem dX4_savedByMarks_41 : decode cX4_savedByMarks 41 = .ok (.imul, 1) := by decide +kernel
theorem dX4_savedByMarks_42 : decode cX4_savedByMarks 42 = .ok (.iadd, 1) := by decide +kernel
theorem dX4_savedByMarks_43 : decode cX4_savedByMarks 43 = .ok (.istore_n 1, 1) := by decide +kernel
theorem dX4_savedByMarks_44 : decode cX4_savedByMarks 44 = .ok (.iinc 2 1, 3) := by decide +kernel
theorem dX4_savedByMarks_47 : decode cX4_savedByMarks 47 = .ok (.goto (-32), 3) := by decide +kernel
theorem dX4_savedByMarks_50 : decode cX4_savedByMarks 50 = .ok (.iload_n 1, 1) := by decide +kernel
theorem dX4_savedByMarks_51 : decode cX4_savedByMarks 51 = .ok (.ireturn, 1) := by decide +kernel
theorem dX4_moreByWilful_0 : decode cX4_moreByWilful 0 = .ok (.aload_n 0, 1) := by decide +kernel
theorem dX4_moreByWilful_1 : decode cX4_moreByWilful 1 = .ok (.aload_n 0, 1) := by decide +kernel
theorem dX4_moreByWilful_2 : decode cX4_moreByWilful 2 = .ok (.getfield 32, 3) := by decide +kernel
theorem dX4_moreByWilful_5 : decode cX4_moreByWilful 5 = .ok (.getfield 111, 3) := by decide +kernel
theorem dX4_moreByWilful_8 : decode cX4_moreByWilful 8 = .ok (.invokevirtual 114, 3) := by decide +kernel
theorem dX4_moreByWilful_11 : decode cX4_moreByWilful 11 = .ok (.aload_n 0, 1) := by decide +kernel
theorem dX4_moreByWilful_12 : decode cX4_moreByWilful 12 = .ok (.getfield 39, 3) := by decide +kernel
theorem dX4_moreByWilful_15 : decode cX4_moreByWilful 15 = .ok (.istore_n 3, 1) := by decide +kernel
theorem dX4_moreByWilful_16 : decode cX4_moreByWilful 16 = .ok (.aload_n 0, 1) := by decide +kernel
theorem dX4_moreByWilful_17 : decode cX4_moreByWilful 17 = .ok (.iload_n 1, 1) := by decide +kernel
theorem dX4_moreByWilful_18 : decode cX4_moreByWilful 18 = .ok (.putfield 25, 3) := by decide +kernel
theorem dX4_moreByWilful_21 : decode cX4_moreByWilful 21 = .ok (.aload_n 0, 1) := by decide +kernel
theorem dX4_moreByWilful_22 : decode cX4_moreByWilful 22 = .ok (.iload_n 2, 1) := by decide +kernel
theorem dX4_moreByWilful_23 : decode cX4_moreByWilful 23 = .ok (.putfield 98, 3) := by decide +kernel
theorem dX4_moreByWilful_26 : decode cX4_moreByWilful 26 = .ok (.aload_n 0, 1) := by decide +kernel
theorem dX4_moreByWilful_27 : decode cX4_moreByWilful 27 = .ok (.aload_n 0, 1) := by decide +kernel
theorem dX4_moreByWilful_28 : decode cX4_moreByWilful 28 = .ok (.getfield 32, 3) := by decide +kernel
theorem dX4_moreByWilful_31 : decode cX4_moreByWilful 31 = .ok (.getfield 111, 3) := by decide +kernel
theorem dX4_moreByWilful_34 : decode cX4_moreByWilful 34 = .ok (.invokevirtual 114, 3) := by decide +kernel
theorem dX4_moreByWilful_37 : decode cX4_moreByWilful 37 = .ok (.aload_n 0, 1) := by decide +kernel
theorem dX4_moreByWilful_38 : decode cX4_moreByWilful 38 = .ok (.iconst (-1), 1) := by decide +kernel
theorem dX4_moreByWilful_39 : decode cX4_moreByWilful 39 = .ok (.putfield 25, 3) := by decide +kernel
theorem dX4_moreByWilful_42 : decode cX4_moreByWilful 42 = .ok (.aload_n 0, 1) := by decide +kernel
theorem dX4_moreByWilful_43 : decode cX4_moreByWilful 43 = .ok (.getfield 39, 3) := by decide +kernel
theorem dX4_moreByWilful_46 : decode cX4_moreByWilful 46 = .ok (.iload_n 3, 1) := by decide +kernel
theorem dX4_moreByWilful_47 : decode cX4_moreByWilful 47 = .ok (.isub, 1) := by decide +kernel
theorem dX4_moreByWilful_48 : decode cX4_moreByWilful 48 = .ok (.ireturn, 1) := by decide +kernel
theorem dX4_drawWeeks_0 : decode cX4_drawWeeks 0 = .ok (.iload_n 1, 1) := by decide +kernel
theorem dX4_drawWeeks_1 : decode cX4_drawWeeks 1 = .ok (.istore_n 3, 1) := by decide +kernel
theorem dX4_drawWeeks_2 : decode cX4_drawWeeks 2 = .ok (.iconst 0, 1) := by decide +kernel
theorem dX4_drawWeeks_3 : decode cX4_drawWeeks 3 = .ok (.istore 4, 2) := by decide +kernel
theorem dX4_drawWeeks_5 : decode cX4_drawWeeks 5 = .ok (.aload_n 0, 1) := by decide +kernel
theorem dX4_drawWeeks_6 : decode cX4_drawWeeks 6 = .ok (.invokevirtual 50, 3) := by decide +kernel
theorem dX4_drawWeeks_9 : decode cX4_drawWeeks 9 = .ok (.iconst 0, 1) := by decide +kernel
theorem dX4_drawWeeks_10 : decode cX4_drawWeeks 10 = .ok (.istore 5, 2) := by decide +kernel
theorem dX4_drawWeeks_12 : decode cX4_drawWeeks 12 = .ok (.iload 5, 2) := by decide +kernel
theorem dX4_drawWeeks_14 : decode cX4_drawWeeks 14 = .ok (.iload_n 2, 1) := by decide +kernel
theorem dX4_drawWeeks_15 : decode cX4_drawWeeks 15 = .ok (.if_icmp .ge 94, 3) := by decide +kernel
theorem dX4_drawWeeks_18 : decode cX4_drawWeeks 18 = .ok (.aload_n 0, 1) := by decide +kernel
theorem dX4_drawWeeks_19 : decode cX4_drawWeeks 19 = .ok (.invokevirtual 42, 3) := by decide +kernel
theorem dX4_drawWeeks_22 : decode cX4_drawWeeks 22 = .ok (.iconst 0, 1) := by decide +kernel
theorem dX4_drawWeeks_23 : decode cX4_drawWeeks 23 = .ok (.istore 6, 2) := by decide +kernel
theorem dX4_drawWeeks_25 : decode cX4_drawWeeks 25 = .ok (.iload 6, 2) := by decide +kernel
theorem dX4_drawWeeks_27 : decode cX4_drawWeeks 27 = .ok (.aload_n 0, 1) := by decide +kernel
theorem dX4_drawWeeks_28 : decode cX4_drawWeeks 28 = .ok (.getfield 32, 3) := by decide +kernel
theorem dX4_drawWeeks_31 : decode cX4_drawWeeks 31 = .ok (.getfield 111, 3) := by decide +kernel
theorem dX4_drawWeeks_34 : decode cX4_drawWeeks 34 = .ok (.if_icmp .ge 69, 3) := by decide +kernel
theorem dX4_drawWeeks_37 : decode cX4_drawWeeks 37 = .ok (.aload_n 0, 1) := by decide +kernel
theorem dX4_drawWeeks_38 : decode cX4_drawWeeks 38 = .ok (.getfield 32, 3) := by decide +kernel
theorem dX4_drawWeeks_41 : decode cX4_drawWeeks 41 = .ok (.getfield 53, 3) := by decide +kernel
theorem dX4_drawWeeks_44 : decode cX4_drawWeeks 44 = .ok (.iload 6, 2) := by decide +kernel
theorem dX4_drawWeeks_46 : decode cX4_drawWeeks 46 = .ok (.iaload, 1) := by decide +kernel
theorem dX4_drawWeeks_47 : decode cX4_drawWeeks 47 = .ok (.istore 7, 2) := by decide +kernel
theorem dX4_drawWeeks_49 : decode cX4_drawWeeks 49 = .ok (.iload 7, 2) := by decide +kernel
theorem dX4_drawWeeks_51 : decode cX4_drawWeeks 51 = .ok (.iconst (-1), 1) := by decide +kernel
theorem dX4_drawWeeks_52 : decode cX4_drawWeeks 52 = .ok (.if_icmp .eq 39, 3) := by decide +kernel
theorem dX4_drawWeeks_55 : decode cX4_drawWeeks 55 = .ok (.iload_n 3, 1) := by decide +kernel
theorem dX4_drawWeeks_56 : decode cX4_drawWeeks 56 = .ok (.ldc 127, 2) := by decide +kernel
theorem dX4_drawWeeks_58 : decode cX4_drawWeeks 58 = .ok (.imul, 1) := by decide +kernel
theorem dX4_drawWeeks_59 : decode cX4_drawWeeks 59 = .ok (.sipush 12345, 3) := by decide +kernel
theorem dX4_drawWeeks_62 : decode cX4_drawWeeks 62 = .ok (.iadd, 1) := by decide +kernel
theorem dX4_drawWeeks_63 : decode cX4_drawWeeks 63 = .ok (.istore_n 3, 1) := by decide +kernel
theorem dX4_drawWeeks_64 : decode cX4_drawWeeks 64 = .ok (.iload_n 3, 1) := by decide +kernel
theorem dX4_drawWeeks_65 : decode cX4_drawWeeks 65 = .ok (.bipush 8, 2) := by decide +kernel
theorem dX4_drawWeeks_67 : decode cX4_drawWeeks 67 = .ok (.iushr, 1) := by decide +kernel
theorem dX4_drawWeeks_68 : decode cX4_drawWeeks 68 = .ok (.bipush 12, 2) := by decide +kernel
theorem dX4_drawWeeks_70 : decode cX4_drawWeeks 70 = .ok (.irem, 1) := by decide +kernel
theorem dX4_drawWeeks_71 : decode cX4_drawWeeks 71 = .ok (.aload_n 0, 1) := by decide +kernel
theorem dX4_drawWeeks_72 : decode cX4_drawWeeks 72 = .ok (.getfield 28, 3) := by decide +kernel
theorem dX4_drawWeeks_75 : decode cX4_drawWeeks 75 = .ok (.iload 7, 2) := by decide +kernel
theorem dX4_drawWeeks_77 : decode cX4_drawWeeks 77 = .ok (.bipush 7, 2) := by decide +kernel
theorem dX4_drawWeeks_79 : decode cX4_drawWeeks 79 = .ok (.invokevirtual 74, 3) := by decide +kernel
theorem dX4_drawWeeks_82 : decode cX4_drawWeeks 82 = .ok (.if_icmp .ge 9, 3) := by decide +kernel
theorem dX4_drawWeeks_85 : decode cX4_drawWeeks 85 = .ok (.iconst (-1), 1) := by decide +kernel
theorem dX4_drawWeeks_86 : decode cX4_drawWeeks 86 = .ok (.istore 7, 2) := by decide +kernel
theorem dX4_drawWeeks_88 : decode cX4_drawWeeks 88 = .ok (.iinc 4 1, 3) := by decide +kernel
theorem dX4_drawWeeks_91 : decode cX4_drawWeeks 91 = .ok (.aload_n 0, 1) := by decide +kernel
theorem dX4_drawWeeks_92 : decode cX4_drawWeeks 92 = .ok (.iload 7, 2) := by decide +kernel
theorem dX4_drawWeeks_94 : decode cX4_drawWeeks 94 = .ok (.invokevirtual 58, 3) := by decide +kernel
theorem dX4_drawWeeks_97 : decode cX4_drawWeeks 97 = .ok (.iinc 6 1, 3) := by decide +kernel
theorem dX4_drawWeeks_100 : decode cX4_drawWeeks 100 = .ok (.goto (-75), 3) := by decide +kernel
theorem dX4_drawWeeks_103 : decode cX4_drawWeeks 103 = .ok (.iinc 5 1, 3) := by decide +kernel
theorem dX4_drawWeeks_106 : decode cX4_drawWeeks 106 = .ok (.goto (-94), 3) := by decide +kernel
theorem dX4_drawWeeks_109 : decode cX4_drawWeeks 109 = .ok (.iload 4, 2) := by decide +kernel
theorem dX4_drawWeeks_111 : decode cX4_drawWeeks 111 = .ok (.ireturn, 1) := by decide +kernel
theorem dX5_takes_0 : decode cX5_takes 0 = .ok (.aload_n 0, 1) := by decide +kernel
theorem dX5_takes_1 : decode cX5_takes 1 = .ok (.getfield 24, 3) := by decide +kernel
theorem dX5_takes_4 : decode cX5_takes 4 = .ok (.bipush 120, 2) := by decide +kernel
theorem dX5_takes_6 : decode cX5_takes 6 = .ok (.if_icmp .lt 6, 3) := by decide +kernel
theorem dX5_takes_9 : decode cX5_takes 9 = .ok (.bipush (-3), 2) := by decide +kernel
theorem dX5_takes_11 : decode cX5_takes 11 = .ok (.ireturn, 1) := by decide +kernel
theorem dX5_takes_12 : decode cX5_takes 12 = .ok (.aload_n 0, 1) := by decide +kernel
theorem dX5_takes_13 : decode cX5_takes 13 = .ok (.getfield 11, 3) := by decide +kernel
theorem dX5_takes_16 : decode cX5_takes 16 = .ok (.aload_n 0, 1) := by decide +kernel
theorem dX5_takes_17 : decode cX5_takes 17 = .ok (.getfield 24, 3) := by decide +kernel
theorem dX5_takes_20 : decode cX5_takes 20 = .ok (.iload_n 1, 1) := by decide +kernel
theorem dX5_takes_21 : decode cX5_takes 21 = .ok (.iastore, 1) := by decide +kernel
theorem dX5_takes_22 : decode cX5_takes 22 = .ok (.aload_n 0, 1) := by decide +kernel
theorem dX5_takes_23 : decode cX5_takes 23 = .ok (.dup, 1) := by decide +kernel
theorem dX5_takes_24 : decode cX5_takes 24 = .ok (.getfield 24, 3) := by decide +kernel
theorem dX5_takes_27 : decode cX5_takes 27 = .ok (.iconst 1, 1) := by decide +kernel
theorem dX5_takes_28 : decode cX5_takes 28 = .ok (.iadd, 1) := by decide +kernel
theorem dX5_takes_29 : decode cX5_takes 29 = .ok (.putfield 24, 3) := by decide +kernel
theorem dX5_takes_32 : decode cX5_takes 32 = .ok (.aload_n 0, 1) := by decide +kernel
theorem dX5_takes_33 : decode cX5_takes 33 = .ok (.getfield 24, 3) := by decide +kernel
theorem dX5_takes_36 : decode cX5_takes 36 = .ok (.ireturn, 1) := by decide +kernel
theorem dX5_isRead_0 : decode cX5_isRead 0 = .ok (.aload_n 0, 1) := by decide +kernel
theorem dX5_isRead_1 : decode cX5_isRead 1 = .ok (.iconst 0, 1) := by decide +kernel
theorem dX5_isRead_2 : decode cX5_isRead 2 = .ok (.putfield 28, 3) := by decide +kernel
theorem dX5_isRead_5 : decode cX5_isRead 5 = .ok (.aload_n 0, 1) := by decide +kernel
theorem dX5_isRead_6 : decode cX5_isRead 6 = .ok (.iconst (-1), 1) := by decide +kernel
theorem dX5_isRead_7 : decode cX5_isRead 7 = .ok (.putfield 31, 3) := by decide +kernel
theorem dX5_isRead_10 : decode cX5_isRead 10 = .ok (.aload_n 0, 1) := by decide +kernel
theorem dX5_isRead_11 : decode cX5_isRead 11 = .ok (.iconst 0, 1) := by decide +kernel
theorem dX5_isRead_12 : decode cX5_isRead 12 = .ok (.putfield 34, 3) := by decide +kernel
theorem dX5_isRead_15 : decode cX5_isRead 15 = .ok (.aload_n 0, 1) := by decide +kernel
theorem dX5_isRead_16 : decode cX5_isRead 16 = .ok (.invokevirtual 37, 3) := by decide +kernel
theorem dX5_isRead_19 : decode cX5_isRead 19 = .ok (.aload_n 0, 1) := by decide +kernel
theorem dX5_isRead_20 : decode cX5_isRead 20 = .ok (.iconst 0, 1) := by decide +kernel
theorem dX5_isRead_21 : decode cX5_isRead 21 = .ok (.putfield 24, 3) := by decide +kernel
theorem dX5_isRead_24 : decode cX5_isRead 24 = .ok (.aload_n 0, 1) := by decide +kernel
theorem dX5_isRead_25 : decode cX5_isRead 25 = .ok (.getfield 31, 3) := by decide +kernel
theorem dX5_isRead_28 : decode cX5_isRead 28 = .ok (.ifCond .lt 11, 3) := by decide +kernel
theorem dX5_isRead_31 : decode cX5_isRead 31 = .ok (.bipush (-100), 2) := by decide +kernel
theorem dX5_isRead_33 : decode cX5_isRead 33 = .ok (.aload_n 0, 1) := by decide +kernel
theorem dX5_isRead_34 : decode cX5_isRead 34 = .ok (.getfield 31, 3) := by decide +kernel
theorem dX5_isRead_37 : decode cX5_isRead 37 = .ok (.isub, 1) := by decide +kernel
theorem dX5_isRead_38 : decode cX5_isRead 38 = .ok (.ireturn, 1) := by decide +kernel
theorem dX5_isRead_39 : decode cX5_isRead 39 = .ok (.aload_n 0, 1) := by decide +kernel
theorem dX5_isRead_40 : decode cX5_isRead 40 = .ok (.getfield 15, 3) := by decide +kernel
theorem dX5_isRead_43 : decode cX5_isRead 43 = .ok (.iconst 0, 1) := by decide +kernel
theorem dX5_isRead_44 : decode cX5_isRead 44 = .ok (.aload_n 0, 1) := by decide +kernel
theorem dX5_isRead_45 : decode cX5_isRead 45 = .ok (.getfield 18, 3) := by decide +kernel
theorem dX5_isRead_48 : decode cX5_isRead 48 = .ok (.iconst 0, 1) := by decide +kernel
theorem dX5_isRead_49 : decode cX5_isRead 49 = .ok (.aload_n 0, 1) := by decide +kernel
theorem dX5_isRead_50 : decode cX5_isRead 50 = .ok (.getfield 34, 3) := by decide +kernel
theorem dX5_isRead_53 : decode cX5_isRead 53 = .ok (.invokestatic 40, 3) := by decide +kernel
theorem dX5_isRead_56 : decode cX5_isRead 56 = .ok (.aload_n 0, 1) := by decide +kernel
theorem dX5_isRead_57 : decode cX5_isRead 57 = .ok (.aload_n 0, 1) := by decide +kernel
theorem dX5_isRead_58 : decode cX5_isRead 58 = .ok (.getfield 34, 3) := by decide +kernel
theorem dX5_isRead_61 : decode cX5_isRead 61 = .ok (.putfield 46, 3) := by decide +kernel
theorem dX5_isRead_64 : decode cX5_isRead 64 = .ok (.aload_n 0, 1) := by decide +kernel
theorem dX5_isRead_65 : decode cX5_isRead 65 = .ok (.iconst 1, 1) := by decide +kernel
theorem dX5_isRead_66 : decode cX5_isRead 66 = .ok (.putfield 49, 3) := by decide +kernel
theorem dX5_isRead_69 : decode cX5_isRead 69 = .ok (.iconst 1, 1) := by decide +kernel
theorem dX5_isRead_70 : decode cX5_isRead 70 = .ok (.ireturn, 1) := by decide +kernel
theorem dX5_lines_0 : decode cX5_lines 0 = .ok (.aload_n 0, 1) := by decide +kernel
theorem dX5_lines_1 : decode cX5_lines 1 = .ok (.invokevirtual 53, 3) := by decide +kernel
theorem dX5_lines_4 : decode cX5_lines 4 = .ok (.iconst 0, 1) := by decide +kernel
theorem dX5_lines_5 : decode cX5_lines 5 = .ok (.istore_n 1, 1) := by decide +kernel
theorem dX5_lines_6 : decode cX5_lines 6 = .ok (.iload_n 1, 1) := by decide +kernel
theorem dX5_lines_7 : decode cX5_lines 7 = .ok (.bipush 120, 2) := by decide +kernel
theorem dX5_lines_9 : decode cX5_lines 9 = .ok (.if_icmp .ge 32, 3) := by decide +kernel
theorem dX5_lines_12 : decode cX5_lines 12 = .ok (.aload_n 0, 1) := by decide +kernel
theorem dX5_lines_13 : decode cX5_lines 13 = .ok (.invokevirtual 56, 3) := by decide +kernel
theorem dX5_lines_16 : decode cX5_lines 16 = .ok (.bipush 59, 2) := by decide +kernel
theorem dX5_lines_18 : decode cX5_lines 18 = .ok (.if_icmp .ne 23, 3) := by decide +kernel
theorem dX5_lines_21 : decode cX5_lines 21 = .ok (.aload_n 0, 1) := by decide +kernel
theorem dX5_lines_22 : decode cX5_lines 22 = .ok (.dup, 1) := by decide +kernel
theorem dX5_lines_23 : decode cX5_lines 23 = .ok (.getfield 28, 3) := by decide +kernel
theorem dX5_lines_26 : decode cX5_lines 26 = .ok (.iconst 1, 1) := by decide +kernel
theorem dX5_lines_27 : decode cX5_lines 27 = .ok (.iadd, 1) := by decide +kernel
theorem dX5_lines_28 : decode cX5_lines 28 = .ok (.putfield 28, 3) := by decide +kernel
theorem dX5_lines_31 : decode cX5_lines 31 = .ok (.aload_n 0, 1) := by decide +kernel
theorem dX5_lines_32 : decode cX5_lines 32 = .ok (.invokevirtual 53, 3) := by decide +kernel
theorem dX5_lines_35 : decode cX5_lines 35 = .ok (.iinc 1 1, 3) := by decide +kernel
theorem dX5_lines_38 : decode cX5_lines 38 = .ok (.goto (-32), 3) := by decide +kernel
theorem dX5_lines_41 : decode cX5_lines 41 = .ok (.aload_n 0, 1) := by decide +kernel
theorem dX5_lines_42 : decode cX5_lines 42 = .ok (.getfield 28, 3) := by decide +kernel
theorem dX5_lines_45 : decode cX5_lines 45 = .ok (.aload_n 0, 1) := by decide +kernel
theorem dX5_lines_46 : decode cX5_lines 46 = .ok (.getfield 24, 3) := by decide +kernel
theorem dX5_lines_49 : decode cX5_lines 49 = .ok (.if_icmp .ge 7, 3) := by decide +kernel
theorem dX5_lines_52 : decode cX5_lines 52 = .ok (.aload_n 0, 1) := by decide +kernel
theorem dX5_lines_53 : decode cX5_lines 53 = .ok (.invokevirtual 60, 3) := by decide +kernel
theorem dX5_lines_56 : decode cX5_lines 56 = .ok (.return_, 1) := by decide +kernel
theorem dX5_line_0 : decode cX5_line 0 = .ok (.aload_n 0, 1) := by decide +kernel
theorem dX5_line_1 : decode cX5_line 1 = .ok (.iconst 0, 1) := by decide +kernel
theorem dX5_line_2 : decode cX5_line 2 = .ok (.invokevirtual 63, 3) := by decide +kernel
theorem dX5_line_5 : decode cX5_line 5 = .ok (.aload_n 0, 1) := by decide +kernel
theorem dX5_line_6 : decode cX5_line 6 = .ok (.invokevirtual 56, 3) := by decide +kernel
theorem dX5_line_9 : decode cX5_line 9 = .ok (.bipush 63, 2) := by decide +kernel
theorem dX5_line_11 : decode cX5_line 11 = .ok (.if_icmp .ne 24, 3) := by decide +kernel
theorem dX5_line_14 : decode cX5_line 14 = .ok (.aload_n 0, 1) := by decide +kernel
theorem dX5_line_15 : decode cX5_line 15 = .ok (.dup, 1) := by decide +kernel
theorem dX5_line_16 : decode cX5_line 16 = .ok (.getfield 28, 3) := by decide +kernel
theorem dX5_line_19 : decode cX5_line 19 = .ok (.iconst 1, 1) := by decide +kernel
theorem dX5_line_20 : decode cX5_line 20 = .ok (.iadd, 1) := by decide +kernel
theorem dX5_line_21 : decode cX5_line 21 = .ok (.putfield 28, 3) := by decide +kernel
theorem dX5_line_24 : decode cX5_line 24 = .ok (.aload_n 0, 1) := by decide +kernel
theorem dX5_line_25 : decode cX5_line 25 = .ok (.bipush 63, 2) := by decide +kernel
theorem dX5_line_27 : decode cX5_line 27 = .ok (.invokevirtual 67, 3) := by decide +kernel
theorem dX5_line_30 : decode cX5_line 30 = .ok (.aload_n 0, 1) := by decide +kernel
theorem dX5_line_31 : decode cX5_line 31 = .ok (.iconst 0, 1) := by decide +kernel
theorem dX5_line_32 : decode cX5_line 32 = .ok (.invokevirtual 63, 3) := by decide +kernel
theorem dX5_line_35 : decode cX5_line 35 = .ok (.aload_n 0, 1) := by decide +kernel
theorem dX5_line_36 : decode cX5_line 36 = .ok (.bipush 59, 2) := by decide +kernel
theorem dX5_line_38 : decode cX5_line 38 = .ok (.invokevirtual 67, 3) := by decide +kernel
theorem dX5_line_41 : decode cX5_line 41 = .ok (.return_, 1) := by decide +kernel
theorem dX5_either_0 : decode cX5_either 0 = .ok (.aload_n 0, 1) := by decide +kernel
theorem dX5_either_1 : decode cX5_either 1 = .ok (.iload_n 1, 1) := by decide +kernel
theorem dX5_either_2 : decode cX5_either 2 = .ok (.invokevirtual 70, 3) := by decide +kernel
theorem dX5_either_5 : decode cX5_either 5 = .ok (.iconst 0, 1) := by decide +kernel
theorem dX5_either_6 : decode cX5_either 6 = .ok (.istore_n 2, 1) := by decide +kernel
theorem dX5_either_7 : decode cX5_either 7 = .ok (.iload_n 2, 1) := by decide +kernel
theorem dX5_either_8 : decode cX5_either 8 = .ok (.bipush 120, 2) := by decide +kernel
theorem dX5_either_10 : decode cX5_either 10 = .ok (.if_icmp .ge 39, 3) := by decide +kernel
theorem dX5_either_13 : decode cX5_either 13 = .ok (.aload_n 0, 1) := by decide +kernel
theorem dX5_either_14 : decode cX5_either 14 = .ok (.invokevirtual 56, 3) := by decide +kernel
theorem dX5_either_17 : decode cX5_either 17 = .ok (.bipush 124, 2) := by decide +kernel
theorem dX5_either_19 : decode cX5_either 19 = .ok (.if_icmp .ne 30, 3) := by decide +kernel
theorem dX5_either_22 : decode cX5_either 22 = .ok (.aload_n 0, 1) := by decide +kernel
theorem dX5_either_23 : decode cX5_either 23 = .ok (.dup, 1) := by decide +kernel
theorem dX5_either_24 : decode cX5_either 24 = .ok (.getfield 28, 3) := by decide +kernel
theorem dX5_either_27 : decode cX5_either 27 = .ok (.iconst 1, 1) := by decide +kernel
theorem dX5_either_28 : decode cX5_either 28 = .ok (.iadd, 1) := by decide +kernel
theorem dX5_either_29 : decode cX5_either 29 = .ok (.putfield 28, 3) := by decide +kernel
theorem dX5_either_32 : decode cX5_either 32 = .ok (.aload_n 0, 1) := by decide +kernel
theorem dX5_either_33 : decode cX5_either 33 = .ok (.iload_n 1, 1) := by decide +kernel
theorem dX5_either_34 : decode cX5_either 34 = .ok (.invokevirtual 70, 3) := by decide +kernel
theorem dX5_either_37 : decode cX5_either 37 = .ok (.aload_n 0, 1) := by decide +kernel
theorem dX5_either_38 : decode cX5_either 38 = .ok (.bipush 124, 2) := by decide +kernel
theorem dX5_either_40 : decode cX5_either 40 = .ok (.invokevirtual 67, 3) := by decide +kernel
theorem dX5_either_43 : decode cX5_either 43 = .ok (.iinc 2 1, 3) := by decide +kernel
theorem dX5_either_46 : decode cX5_either 46 = .ok (.goto (-39), 3) := by decide +kernel
theorem dX5_either_49 : decode cX5_either 49 = .ok (.return_, 1) := by decide +kernel
theorem dX5_both_0 : decode cX5_both 0 = .ok (.aload_n 0, 1) := by decide +kernel
theorem dX5_both_1 : decode cX5_both 1 = .ok (.iload_n 1, 1) := by decide +kernel
theorem dX5_both_2 : decode cX5_both 2 = .ok (.invokevirtual 73, 3) := by decide +kernel
theorem dX5_both_5 : decode cX5_both 5 = .ok (.iconst 0, 1) := by decide +kernel
theorem dX5_both_6 : decode cX5_both 6 = .ok (.istore_n 2, 1) := by decide +kernel
theorem dX5_both_7 : decode cX5_both 7 = .ok (.iload_n 2, 1) := by decide +kernel
theorem dX5_both_8 : decode cX5_both 8 = .ok (.bipush 120, 2) := by decide +kernel
theorem dX5_both_10 : decode cX5_both 10 = .ok (.if_icmp .ge 39, 3) := by decide +kernel
theorem dX5_both_13 : decode cX5_both 13 = .ok (.aload_n 0, 1) := by decide +kernel
theorem dX5_both_14 : decode cX5_both 14 = .ok (.invokevirtual 56, 3) := by decide +kernel
theorem dX5_both_17 : decode cX5_both 17 = .ok (.bipush 38, 2) := by decide +kernel
theorem dX5_both_19 : decode cX5_both 19 = .ok (.if_icmp .ne 30, 3) := by decide +kernel
theorem dX5_both_22 : decode cX5_both 22 = .ok (.aload_n 0, 1) := by decide +kernel
theorem dX5_both_23 : decode cX5_both 23 = .ok (.dup, 1) := by decide +kernel
theorem dX5_both_24 : decode cX5_both 24 = .ok (.getfield 28, 3) := by decide +kernel
theorem dX5_both_27 : decode cX5_both 27 = .ok (.iconst 1, 1) := by decide +kernel
theorem dX5_both_28 : decode cX5_both 28 = .ok (.iadd, 1) := by decide +kernel
theorem dX5_both_29 : decode cX5_both 29 = .ok (.putfield 28, 3) := by decide +kernel
theorem dX5_both_32 : decode cX5_both 32 = .ok (.aload_n 0, 1) := by decide +kernel
theorem dX5_both_33 : decode cX5_both 33 = .ok (.iload_n 1, 1) := by decide +kernel
theorem dX5_both_34 : decode cX5_both 34 = .ok (.invokevirtual 73, 3) := by decide +kernel
theorem dX5_both_37 : decode cX5_both 37 = .ok (.aload_n 0, 1) := by decide +kernel
theorem dX5_both_38 : decode cX5_both 38 = .ok (.bipush 38, 2) := by decide +kernel
theorem dX5_both_40 : decode cX5_both 40 = .ok (.invokevirtual 67, 3) := by decide +kernel
theorem dX5_both_43 : decode cX5_both 43 = .ok (.iinc 2 1, 3) := by decide +kernel
theorem dX5_both_46 : decode cX5_both 46 = .ok (.goto (-39), 3) := by decide +kernel
theorem dX5_both_49 : decode cX5_both 49 = .ok (.return_, 1) := by decide +kernel
theorem dX5_compared_0 : decode cX5_compared 0 = .ok (.aload_n 0, 1) := by decide +kernel
theorem dX5_compared_1 : decode cX5_compared 1 = .ok (.iload_n 1, 1) := by decide +kernel
theorem dX5_compared_2 : decode cX5_compared 2 = .ok (.invokevirtual 76, 3) := by decide +kernel
theorem dX5_compared_5 : decode cX5_compared 5 = .ok (.aload_n 0, 1) := by decide +kernel
theorem dX5_compared_6 : decode cX5_compared 6 = .ok (.invokevirtual 56, 3) := by decide +kernel
theorem dX5_compared_9 : decode cX5_compared 9 = .ok (.istore_n 2, 1) := by decide +kernel
theorem dX5_compared_10 : decode cX5_compared 10 = .ok (.iload_n 2, 1) := by decide +kernel
theorem dX5_compared_11 : decode cX5_compared 11 = .ok (.bipush 60, 2) := by decide +kernel
theorem dX5_compared_13 : decode cX5_compared 13 = .ok (.if_icmp .eq 15, 3) := by decide +kernel
theorem dX5_compared_16 : decode cX5_compared 16 = .ok (.iload_n 2, 1) := by decide +kernel
theorem dX5_compared_17 : decode cX5_compared 17 = .ok (.bipush 61, 2) := by decide +kernel
theorem dX5_compared_19 : decode cX5_compared 19 = .ok (.if_icmp .eq 9, 3) := by decide +kernel
theorem dX5_compared_22 : decode cX5_compared 22 = .ok (.iload_n 2, 1) := by decide +kernel
theorem dX5_compared_23 : decode cX5_compared 23 = .ok (.bipush 62, 2) := by decide +kernel
theorem dX5_compared_25 : decode cX5_compared 25 = .ok (.if_icmp .ne 23, 3) := by decide +kernel
theorem dX5_compared_28 : decode cX5_compared 28 = .ok (.aload_n 0, 1) := by decide +kernel
theorem dX5_compared_29 : decode cX5_compared 29 = .ok (.dup, 1) := by decide +kernel
theorem dX5_compared_30 : decode cX5_compared 30 = .ok (.getfield 28, 3) := by decide +kernel
theorem dX5_compared_33 : decode cX5_compared 33 = .ok (.iconst 1, 1) := by decide +kernel
theorem dX5_compared_34 : decode cX5_compared 34 = .ok (.iadd, 1) := by decide +kernel
theorem dX5_compared_35 : decode cX5_compared 35 = .ok (.putfield 28, 3) := by decide +kernel
theorem dX5_compared_38 : decode cX5_compared 38 = .ok (.aload_n 0, 1) := by decide +kernel
theorem dX5_compared_39 : decode cX5_compared 39 = .ok (.iload_n 1, 1) := by decide +kernel
theorem dX5_compared_40 : decode cX5_compared 40 = .ok (.invokevirtual 76, 3) := by decide +kernel
theorem dX5_compared_43 : decode cX5_compared 43 = .ok (.aload_n 0, 1) := by decide +kernel
theorem dX5_compared_44 : decode cX5_compared 44 = .ok (.iload_n 2, 1) := by decide +kernel
theorem dX5_compared_45 : decode cX5_compared 45 = .ok (.invokevirtual 67, 3) := by decide +kernel
theorem dX5_compared_48 : decode cX5_compared 48 = .ok (.return_, 1) := by decide +kernel
theorem dX5_sum_0 : decode cX5_sum 0 = .ok (.aload_n 0, 1) := by decide +kernel
theorem dX5_sum_1 : decode cX5_sum 1 = .ok (.iload_n 1, 1) := by decide +kernel
theorem dX5_sum_2 : decode cX5_sum 2 = .ok (.invokevirtual 79, 3) := by decide +kernel
theorem dX5_sum_5 : decode cX5_sum 5 = .ok (.aload_n 0, 1) := by decide +kernel
theorem dX5_sum_6 : decode cX5_sum 6 = .ok (.invokevirtual 56, 3) := by decide +kernel
theorem dX5_sum_9 : decode cX5_sum 9 = .ok (.istore_n 2, 1) := by decide +kernel
theorem dX5_sum_10 : decode cX5_sum 10 = .ok (.iconst 0, 1) := by decide +kernel
theorem dX5_sum_11 : decode cX5_sum 11 = .ok (.istore_n 3, 1) := by decide +kernel
theorem dX5_sum_12 : decode cX5_sum 12 = .ok (.iload_n 3, 1) := by decide +kernel
theorem dX5_sum_13 : decode cX5_sum 13 = .ok (.bipush 120, 2) := by decide +kernel
theorem dX5_sum_15 : decode cX5_sum 15 = .ok (.if_icmp .ge 46, 3) := by decide +kernel
theorem dX5_sum_18 : decode cX5_sum 18 = .ok (.iload_n 2, 1) := by decide +kernel
theorem dX5_sum_19 : decode cX5_sum 19 = .ok (.bipush 43, 2) := by decide +kernel
theorem dX5_sum_21 : decode cX5_sum 21 = .ok (.if_icmp .eq 9, 3) := by decide +kernel
theorem dX5_sum_24 : decode cX5_sum 24 = .ok (.iload_n 2, 1) := by decide +kernel
theorem dX5_sum_25 : decode cX5_sum 25 = .ok (.bipush 45, 2) := by decide +kernel
theorem dX5_sum_27 : decode cX5_sum 27 = .ok (.if_icmp .ne 34, 3) := by decide +kernel
theorem dX5_sum_30 : decode cX5_sum 30 = .ok (.aload_n 0, 1) := by decide +kernel
theorem dX5_sum_31 : decode cX5_sum 31 = .ok (.dup, 1) := by decide +kernel
theorem dX5_sum_32 : decode cX5_sum 32 = .ok (.getfield 28, 3) := by decide +kernel
theorem dX5_sum_35 : decode cX5_sum 35 = .ok (.iconst 1, 1) := by decide +kernel
theorem dX5_sum_36 : decode cX5_sum 36 = .ok (.iadd, 1) := by decide +kernel
theorem dX5_sum_37 : decode cX5_sum 37 = .ok (.putfield 28, 3) := by decide +kernel
theorem dX5_sum_40 : decode cX5_sum 40 = .ok (.aload_n 0, 1) := by decide +kernel
theorem dX5_sum_41 : decode cX5_sum 41 = .ok (.iload_n 1, 1) := by decide +kernel
theorem dX5_sum_42 : decode cX5_sum 42 = .ok (.invokevirtual 79, 3) := by decide +kernel
theorem dX5_sum_45 : decode cX5_sum 45 = .ok (.aload_n 0, 1) := by decide +kernel
theorem dX5_sum_46 : decode cX5_sum 46 = .ok (.iload_n 2, 1) := by decide +kernel
theorem dX5_sum_47 : decode cX5_sum 47 = .ok (.invokevirtual 67, 3) := by decide +kernel
theorem dX5_sum_50 : decode cX5_sum 50 = .ok (.aload_n 0, 1) := by decide +kernel
theorem dX5_sum_51 : decode cX5_sum 51 = .ok (.invokevirtual 56, 3) := by decide +kernel
theorem dX5_sum_54 : decode cX5_sum 54 = .ok (.istore_n 2, 1) := by decide +kernel
theorem dX5_sum_55 : decode cX5_sum 55 = .ok (.iinc 3 1, 3) := by decide +kernel
theorem dX5_sum_58 : decode cX5_sum 58 = .ok (.goto (-46), 3) := by decide +kernel
theorem dX5_sum_61 : decode cX5_sum 61 = .ok (.return_, 1) := by decide +kernel
theorem dX5_product_0 : decode cX5_product 0 = .ok (.aload_n 0, 1) := by decide +kernel
theorem dX5_product_1 : decode cX5_product 1 = .ok (.iload_n 1, 1) := by decide +kernel
theorem dX5_product_2 : decode cX5_product 2 = .ok (.invokevirtual 82, 3) := by decide +kernel
theorem dX5_product_5 : decode cX5_product 5 = .ok (.aload_n 0, 1) := by decide +kernel
theorem dX5_product_6 : decode cX5_product 6 = .ok (.invokevirtual 56, 3) := by decide +kernel
theorem dX5_product_9 : decode cX5_product 9 = .ok (.istore_n 2, 1) := by decide +kernel
theorem dX5_product_10 : decode cX5_product 10 = .ok (.iconst 0, 1) := by decide +kernel
theorem dX5_product_11 : decode cX5_product 11 = .ok (.istore_n 3, 1) := by decide +kernel
theorem dX5_product_12 : decode cX5_product 12 = .ok (.iload_n 3, 1) := by decide +kernel
theorem dX5_product_13 : decode cX5_product 13 = .ok (.bipush 120, 2) := by decide +kernel
theorem dX5_product_15 : decode cX5_product 15 = .ok (.if_icmp .ge 52, 3) := by decide +kernel
theorem dX5_product_18 : decode cX5_product 18 = .ok (.iload_n 2, 1) := by decide +kernel
theorem dX5_product_19 : decode cX5_product 19 = .ok (.bipush 42, 2) := by decide +kernel
theorem dX5_product_21 : decode cX5_product 21 = .ok (.if_icmp .eq 15, 3) := by decide +kernel
theorem dX5_product_24 : decode cX5_product 24 = .ok (.iload_n 2, 1) := by decide +kernel
theorem dX5_product_25 : decode cX5_product 25 = .ok (.bipush 47, 2) := by decide +kernel
theorem dX5_product_27 : decode cX5_product 27 = .ok (.if_icmp .eq 9, 3) := by decide +kernel
theorem dX5_product_30 : decode cX5_product 30 = .ok (.iload_n 2, 1) := by decide +kernel
theorem dX5_product_31 : decode cX5_product 31 = .ok (.bipush 37, 2) := by decide +kernel
theorem dX5_product_33 : decode cX5_product 33 = .ok (.if_icmp .ne 34, 3) := by decide +kernel
theorem dX5_product_36 : decode cX5_product 36 = .ok (.aload_n 0, 1) := by decide +kernel
theorem dX5_product_37 : decode cX5_product 37 = .ok (.dup, 1) := by decide +kernel
theorem dX5_product_38 : decode cX5_product 38 = .ok (.getfield 28, 3) := by decide +kernel
theorem dX5_product_41 : decode cX5_product 41 = .ok (.iconst 1, 1) := by decide +kernel
theorem dX5_product_42 : decode cX5_product 42 = .ok (.iadd, 1) := by decide +kernel
theorem dX5_product_43 : decode cX5_product 43 = .ok (.putfield 28, 3) := by decide +kernel
theorem dX5_product_46 : decode cX5_product 46 = .ok (.aload_n 0, 1) := by decide +kernel
theorem dX5_product_47 : decode cX5_product 47 = .ok (.iload_n 1, 1) := by decide +kernel
theorem dX5_product_48 : decode cX5_product 48 = .ok (.invokevirtual 82, 3) := by decide +kernel
theorem dX5_product_51 : decode cX5_product 51 = .ok (.aload_n 0, 1) := by decide +kernel
theorem dX5_product_52 : decode cX5_product 52 = .ok (.iload_n 2, 1) := by decide +kernel
theorem dX5_product_53 : decode cX5_product 53 = .ok (.invokevirtual 67, 3) := by decide +kernel
theorem dX5_product_56 : decode cX5_product 56 = .ok (.aload_n 0, 1) := by decide +kernel
theorem dX5_product_57 : decode cX5_product 57 = .ok (.invokevirtual 56, 3) := by decide +kernel
theorem dX5_product_60 : decode cX5_product 60 = .ok (.istore_n 2, 1) := by decide +kernel
theorem dX5_product_61 : decode cX5_product 61 = .ok (.iinc 3 1, 3) := by decide +kernel
theorem dX5_product_64 : decode cX5_product 64 = .ok (.goto (-52), 3) := by decide +kernel
theorem dX5_product_67 : decode cX5_product 67 = .ok (.return_, 1) := by decide +kernel
theorem dX5_operand_0 : decode cX5_operand 0 = .ok (.aload_n 0, 1) := by decide +kernel
theorem dX5_operand_1 : decode cX5_operand 1 = .ok (.invokevirtual 56, 3) := by decide +kernel
theorem dX5_operand_4 : decode cX5_operand 4 = .ok (.istore_n 2, 1) := by decide +kernel
theorem dX5_operand_5 : decode cX5_operand 5 = .ok (.iload_n 2, 1) := by decide +kernel
theorem dX5_operand_6 : decode cX5_operand 6 = .ok (.invokestatic 85, 3) := by decide +kernel
theorem dX5_operand_9 : decode cX5_operand 9 = .ok (.ifCond .eq 10, 3) := by decide +kernel
theorem dX5_operand_12 : decode cX5_operand 12 = .ok (.aload_n 0, 1) := by decide +kernel
theorem dX5_operand_13 : decode cX5_operand 13 = .ok (.invokevirtual 89, 3) := by decide +kernel
theorem dX5_operand_16 : decode cX5_operand 16 = .ok (.goto 77, 3) := by decide +kernel
theorem dX5_operand_19 : decode cX5_operand 19 = .ok (.iload_n 2, 1) := by decide +kernel
theorem dX5_operand_20 : decode cX5_operand 20 = .ok (.invokestatic 92, 3) := by decide +kernel
theorem dX5_operand_23 : decode cX5_operand 23 = .ok (.ifCond .eq 21, 3) := by decide +kernel
theorem dX5_operand_26 : decode cX5_operand 26 = .ok (.aload_n 0, 1) := by decide +kernel
theorem dX5_operand_27 : decode cX5_operand 27 = .ok (.dup, 1) := by decide +kernel
theorem dX5_operand_28 : decode cX5_operand 28 = .ok (.getfield 28, 3) := by decide +kernel
theorem dX5_operand_31 : decode cX5_operand 31 = .ok (.iconst 1, 1) := by decide +kernel
theorem dX5_operand_32 : decode cX5_operand 32 = .ok (.iadd, 1) := by decide +kernel
theorem dX5_operand_33 : decode cX5_operand 33 = .ok (.putfield 28, 3) := by decide +kernel
theorem dX5_operand_36 : decode cX5_operand 36 = .ok (.aload_n 0, 1) := by decide +kernel
theorem dX5_operand_37 : decode cX5_operand 37 = .ok (.iload_n 2, 1) := by decide +kernel
theorem dX5_operand_38 : decode cX5_operand 38 = .ok (.invokevirtual 67, 3) := by decide +kernel
theorem dX5_operand_41 : decode cX5_operand 41 = .ok (.goto 52, 3) := by decide +kernel
theorem dX5_operand_44 : decode cX5_operand 44 = .ok (.iload_n 2, 1) := by decide +kernel
theorem dX5_operand_45 : decode cX5_operand 45 = .ok (.bipush 40, 2) := by decide +kernel
theorem dX5_operand_47 : decode cX5_operand 47 = .ok (.if_icmp .eq 15, 3) := by decide +kernel
theorem dX5_operand_50 : decode cX5_operand 50 = .ok (.iload_n 2, 1) := by decide +kernel
theorem dX5_operand_51 : decode cX5_operand 51 = .ok (.bipush 33, 2) := by decide +kernel
theorem dX5_operand_53 : decode cX5_operand 53 = .ok (.if_icmp .eq 9, 3) := by decide +kernel
theorem dX5_operand_56 : decode cX5_operand 56 = .ok (.iload_n 2, 1) := by decide +kernel
theorem dX5_operand_57 : decode cX5_operand 57 = .ok (.bipush 45, 2) := by decide +kernel
theorem dX5_operand_59 : decode cX5_operand 59 = .ok (.if_icmp .ne 9, 3) := by decide +kernel
theorem dX5_operand_62 : decode cX5_operand 62 = .ok (.iload_n 1, 1) := by decide +kernel
theorem dX5_operand_63 : decode cX5_operand 63 = .ok (.bipush 6, 2) := by decide +kernel
theorem dX5_operand_65 : decode cX5_operand 65 = .ok (.if_icmp .lt 10, 3) := by decide +kernel
theorem dX5_operand_68 : decode cX5_operand 68 = .ok (.aload_n 0, 1) := by decide +kernel
theorem dX5_operand_69 : decode cX5_operand 69 = .ok (.invokevirtual 60, 3) := by decide +kernel
theorem dX5_operand_72 : decode cX5_operand 72 = .ok (.goto 21, 3) := by decide +kernel
theorem dX5_operand_75 : decode cX5_operand 75 = .ok (.aload_n 0, 1) := by decide +kernel
theorem dX5_operand_76 : decode cX5_operand 76 = .ok (.dup, 1) := by decide +kernel
theorem dX5_operand_77 : decode cX5_operand 77 = .ok (.getfield 28, 3) := by decide +kernel
theorem dX5_operand_80 : decode cX5_operand 80 = .ok (.iconst 1, 1) := by decide +kernel
theorem dX5_operand_81 : decode cX5_operand 81 = .ok (.iadd, 1) := by decide +kernel
theorem dX5_operand_82 : decode cX5_operand 82 = .ok (.putfield 28, 3) := by decide +kernel
theorem dX5_operand_85 : decode cX5_operand 85 = .ok (.aload_n 0, 1) := by decide +kernel
theorem dX5_operand_86 : decode cX5_operand 86 = .ok (.iload_n 2, 1) := by decide +kernel
theorem dX5_operand_87 : decode cX5_operand 87 = .ok (.iload_n 1, 1) := by decide +kernel
theorem dX5_operand_88 : decode cX5_operand 88 = .ok (.iconst 1, 1) := by decide +kernel
theorem dX5_operand_89 : decode cX5_operand 89 = .ok (.iadd, 1) := by decide +kernel
theorem dX5_operand_90 : decode cX5_operand 90 = .ok (.invokevirtual 95, 3) := by decide +kernel
theorem dX5_operand_93 : decode cX5_operand 93 = .ok (.return_, 1) := by decide +kernel
theorem dX5_opened_0 : decode cX5_opened 0 = .ok (.iload_n 1, 1) := by decide +kernel
theorem dX5_opened_1 : decode cX5_opened 1 = .ok (.bipush 40, 2) := by decide +kernel
theorem dX5_opened_3 : decode cX5_opened 3 = .ok (.if_icmp .eq 26, 3) := by decide +kernel
theorem dX5_opened_6 : decode cX5_opened 6 = .ok (.aload_n 0, 1) := by decide +kernel
theorem dX5_opened_7 : decode cX5_opened 7 = .ok (.iload_n 2, 1) := by decide +kernel
theorem dX5_opened_8 : decode cX5_opened 8 = .ok (.invokevirtual 82, 3) := by decide +kernel
theorem dX5_opened_11 : decode cX5_opened 11 = .ok (.aload_n 0, 1) := by decide +kernel
theorem dX5_opened_12 : decode cX5_opened 12 = .ok (.iload_n 1, 1) := by decide +kernel
theorem dX5_opened_13 : decode cX5_opened 13 = .ok (.bipush 33, 2) := by decide +kernel
theorem dX5_opened_15 : decode cX5_opened 15 = .ok (.if_icmp .ne 8, 3) := by decide +kernel
theorem dX5_opened_18 : decode cX5_opened 18 = .ok (.bipush 33, 2) := by decide +kernel
theorem dX5_opened_20 : decode cX5_opened 20 = .ok (.goto 5, 3) := by decide +kernel
theorem dX5_opened_23 : decode cX5_opened 23 = .ok (.bipush 126, 2) := by decide +kernel
theorem dX5_opened_25 : decode cX5_opened 25 = .ok (.invokevirtual 67, 3) := by decide +kernel
theorem dX5_opened_28 : decode cX5_opened 28 = .ok (.return_, 1) := by decide +kernel
theorem dX5_opened_29 : decode cX5_opened 29 = .ok (.aload_n 0, 1) := by decide +kernel
theorem dX5_opened_30 : decode cX5_opened 30 = .ok (.iload_n 2, 1) := by decide +kernel
theorem dX5_opened_31 : decode cX5_opened 31 = .ok (.invokevirtual 63, 3) := by decide +kernel
theorem dX5_opened_34 : decode cX5_opened 34 = .ok (.aload_n 0, 1) := by decide +kernel
theorem dX5_opened_35 : decode cX5_opened 35 = .ok (.invokevirtual 56, 3) := by decide +kernel
theorem dX5_opened_38 : decode cX5_opened 38 = .ok (.bipush 41, 2) := by decide +kernel
theorem dX5_opened_40 : decode cX5_opened 40 = .ok (.if_icmp .ne 16, 3) := by decide +kernel
theorem dX5_opened_43 : decode cX5_opened 43 = .ok (.aload_n 0, 1) := by decide +kernel
theorem dX5_opened_44 : decode cX5_opened 44 = .ok (.dup, 1) := by decide +kernel
theorem dX5_opened_45 : decode cX5_opened 45 = .ok (.getfield 28, 3) := by decide +kernel
theorem dX5_opened_48 : decode cX5_opened 48 = .ok (.iconst 1, 1) := by decide +kernel
theorem dX5_opened_49 : decode cX5_opened 49 = .ok (.iadd, 1) := by decide +kernel
theorem dX5_opened_50 : decode cX5_opened 50 = .ok (.putfield 28, 3) := by decide +kernel
theorem dX5_opened_53 : decode cX5_opened 53 = .ok (.goto 7, 3) := by decide +kernel
theorem dX5_opened_56 : decode cX5_opened 56 = .ok (.aload_n 0, 1) := by decide +kernel
theorem dX5_opened_57 : decode cX5_opened 57 = .ok (.invokevirtual 60, 3) := by decide +kernel
theorem dX5_opened_60 : decode cX5_opened 60 = .ok (.return_, 1) := by decide +kernel
theorem dX5_number_0 : decode cX5_number 0 = .ok (.iconst 0, 1) := by decide +kernel
theorem dX5_number_1 : decode cX5_number 1 = .ok (.istore_n 1, 1) := by decide +kernel
theorem dX5_number_2 : decode cX5_number 2 = .ok (.iconst 0, 1) := by decide +kernel
theorem dX5_number_3 : decode cX5_number 3 = .ok (.istore_n 2, 1) := by decide +kernel
theorem dX5_number_4 : decode cX5_number 4 = .ok (.iload_n 2, 1) := by decide +kernel
theorem dX5_number_5 : decode cX5_number 5 = .ok (.iconst 4, 1) := by decide +kernel
theorem dX5_number_6 : decode cX5_number 6 = .ok (.if_icmp .ge 42, 3) := by decide +kernel
theorem dX5_number_9 : decode cX5_number 9 = .ok (.aload_n 0, 1) := by decide +kernel
theorem dX5_number_10 : decode cX5_number 10 = .ok (.invokevirtual 56, 3) := by decide +kernel
theorem dX5_number_13 : decode cX5_number 13 = .ok (.invokestatic 85, 3) := by decide +kernel
theorem dX5_number_16 : decode cX5_number 16 = .ok (.ifCond .eq 32, 3) := by decide +kernel
theorem dX5_number_19 : decode cX5_number 19 = .ok (.iload_n 1, 1) := by decide +kernel
theorem dX5_number_20 : decode cX5_number 20 = .ok (.bipush 10, 2) := by decide +kernel
theorem dX5_number_22 : decode cX5_number 22 = .ok (.imul, 1) := by decide +kernel
theorem dX5_number_23 : decode cX5_number 23 = .ok (.aload_n 0, 1) := by decide +kernel
theorem dX5_number_24 : decode cX5_number 24 = .ok (.invokevirtual 56, 3) := by decide +kernel
theorem dX5_number_27 : decode cX5_number 27 = .ok (.iadd, 1) := by decide +kernel
theorem dX5_number_28 : decode cX5_number 28 = .ok (.bipush 48, 2) := by decide +kernel
theorem dX5_number_30 : decode cX5_number 30 = .ok (.isub, 1) := by decide +kernel
theorem dX5_number_31 : decode cX5_number 31 = .ok (.istore_n 1, 1) := by decide +kernel
theorem dX5_number_32 : decode cX5_number 32 = .ok (.aload_n 0, 1) := by decide +kernel
theorem dX5_number_33 : decode cX5_number 33 = .ok (.dup, 1) := by decide +kernel
theorem dX5_number_34 : decode cX5_number 34 = .ok (.getfield 28, 3) := by decide +kernel
theorem dX5_number_37 : decode cX5_number 37 = .ok (.iconst 1, 1) := by decide +kernel
theorem dX5_number_38 : decode cX5_number 38 = .ok (.iadd, 1) := by decide +kernel
theorem dX5_number_39 : decode cX5_number 39 = .ok (.putfield 28, 3) := by decide +kernel
theorem dX5_number_42 : decode cX5_number 42 = .ok (.iinc 2 1, 3) := by decide +kernel
theorem dX5_number_45 : decode cX5_number 45 = .ok (.goto (-41), 3) := by decide +kernel
theorem dX5_number_48 : decode cX5_number 48 = .ok (.aload_n 0, 1) := by decide +kernel
theorem dX5_number_49 : decode cX5_number 49 = .ok (.sipush 1000, 3) := by decide +kernel
theorem dX5_number_52 : decode cX5_number 52 = .ok (.iload_n 1, 1) := by decide +kernel
theorem dX5_number_53 : decode cX5_number 53 = .ok (.iadd, 1) := by decide +kernel
theorem dX5_number_54 : decode cX5_number 54 = .ok (.invokevirtual 67, 3) := by decide +kernel
theorem dX5_number_57 : decode cX5_number 57 = .ok (.return_, 1) := by decide +kernel
theorem dX5_isDigit_0 : decode cX5_isDigit 0 = .ok (.iload_n 0, 1) := by decide +kernel
theorem dX5_isDigit_1 : decode cX5_isDigit 1 = .ok (.bipush 48, 2) := by decide +kernel
theorem dX5_isDigit_3 : decode cX5_isDigit 3 = .ok (.if_icmp .lt 13, 3) := by decide +kernel
theorem dX5_isDigit_6 : decode cX5_isDigit 6 = .ok (.iload_n 0, 1) := by decide +kernel
theorem dX5_isDigit_7 : decode cX5_isDigit 7 = .ok (.bipush 57, 2) := by decide +kernel
theorem dX5_isDigit_9 : decode cX5_isDigit 9 = .ok (.if_icmp .gt 7, 3) := by decide +kernel
theorem dX5_isDigit_12 : decode cX5_isDigit 12 = .ok (.iconst 1, 1) := by decide +kernel
theorem dX5_isDigit_13 : decode cX5_isDigit 13 = .ok (.goto 4, 3) := by decide +kernel
theorem dX5_isDigit_16 : decode cX5_isDigit 16 = .ok (.iconst 0, 1) := by decide +kernel
theorem dX5_isDigit_17 : decode cX5_isDigit 17 = .ok (.ireturn, 1) := by decide +kernel
theorem dX5_isName_0 : decode cX5_isName 0 = .ok (.iload_n 0, 1) := by decide +kernel
theorem dX5_isName_1 : decode cX5_isName 1 = .ok (.bipush 100, 2) := by decide +kernel
theorem dX5_isName_3 : decode cX5_isName 3 = .ok (.if_icmp .eq 33, 3) := by decide +kernel
theorem dX5_isName_6 : decode cX5_isName 6 = .ok (.iload_n 0, 1) := by decide +kernel
theorem dX5_isName_7 : decode cX5_isName 7 = .ok (.bipush 117, 2) := by decide +kernel
theorem dX5_isName_9 : decode cX5_isName 9 = .ok (.if_icmp .eq 27, 3) := by decide +kernel
theorem dX5_isName_12 : decode cX5_isName 12 = .ok (.iload_n 0, 1) := by decide +kernel
theorem dX5_isName_13 : decode cX5_isName 13 = .ok (.bipush 115, 2) := by decide +kernel
theorem dX5_isName_15 : decode cX5_isName 15 = .ok (.if_icmp .eq 21, 3) := by decide +kernel
theorem dX5_isName_18 : decode cX5_isName 18 = .ok (.iload_n 0, 1) := by decide +kernel
theorem dX5_isName_19 : decode cX5_isName 19 = .ok (.bipush 119, 2) := by decide +kernel
theorem dX5_isName_21 : decode cX5_isName 21 = .ok (.if_icmp .eq 15, 3) := by decide +kernel
theorem dX5_isName_24 : decode cX5_isName 24 = .ok (.iload_n 0, 1) := by decide +kernel
theorem dX5_isName_25 : decode cX5_isName 25 = .ok (.bipush 104, 2) := by decide +kernel
theorem dX5_isName_27 : decode cX5_isName 27 = .ok (.if_icmp .eq 9, 3) := by decide +kernel
theorem dX5_isName_30 : decode cX5_isName 30 = .ok (.iload_n 0, 1) := by decide +kernel
theorem dX5_isName_31 : decode cX5_isName 31 = .ok (.bipush 107, 2) := by decide +kernel
theorem dX5_isName_33 : decode cX5_isName 33 = .ok (.if_icmp .ne 7, 3) := by decide +kernel
theorem dX5_isName_36 : decode cX5_isName 36 = .ok (.iconst 1, 1) := by decide +kernel
theorem dX5_isName_37 : decode cX5_isName 37 = .ok (.goto 4, 3) := by decide +kernel
theorem dX5_isName_40 : decode cX5_isName 40 = .ok (.iconst 0, 1) := by decide +kernel
theorem dX5_isName_41 : decode cX5_isName 41 = .ok (.ireturn, 1) := by decide +kernel
theorem dX5_next_0 : decode cX5_next 0 = .ok (.aload_n 0, 1) := by decide +kernel
theorem dX5_next_1 : decode cX5_next 1 = .ok (.getfield 31, 3) := by decide +kernel
theorem dX5_next_4 : decode cX5_next 4 = .ok (.ifCond .ge 26, 3) := by decide +kernel
theorem dX5_next_7 : decode cX5_next 7 = .ok (.aload_n 0, 1) := by decide +kernel
theorem dX5_next_8 : decode cX5_next 8 = .ok (.getfield 28, 3) := by decide +kernel
theorem dX5_next_11 : decode cX5_next 11 = .ok (.aload_n 0, 1) := by decide +kernel
theorem dX5_next_12 : decode cX5_next 12 = .ok (.getfield 24, 3) := by decide +kernel
theorem dX5_next_15 : decode cX5_next 15 = .ok (.if_icmp .ge 15, 3) := by decide +kernel
theorem dX5_next_18 : decode cX5_next 18 = .ok (.aload_n 0, 1) := by decide +kernel
theorem dX5_next_19 : decode cX5_next 19 = .ok (.getfield 11, 3) := by decide +kernel
theorem dX5_next_22 : decode cX5_next 22 = .ok (.aload_n 0, 1) := by decide +kernel
theorem dX5_next_23 : decode cX5_next 23 = .ok (.getfield 28, 3) := by decide +kernel
theorem dX5_next_26 : decode cX5_next 26 = .ok (.iaload, 1) := by decide +kernel
theorem dX5_next_27 : decode cX5_next 27 = .ok (.goto 4, 3) := by decide +kernel
theorem dX5_next_30 : decode cX5_next 30 = .ok (.iconst (-1), 1) := by decide +kernel
theorem dX5_next_31 : decode cX5_next 31 = .ok (.ireturn, 1) := by decide +kernel
theorem dX5_fail_0 : decode cX5_fail 0 = .ok (.aload_n 0, 1) := by decide +kernel
theorem dX5_fail_1 : decode cX5_fail 1 = .ok (.getfield 31, 3) := by decide +kernel
theorem dX5_fail_4 : decode cX5_fail 4 = .ok (.ifCond .ge 11, 3) := by decide +kernel
theorem dX5_fail_7 : decode cX5_fail 7 = .ok (.aload_n 0, 1) := by decide +kernel
theorem dX5_fail_8 : decode cX5_fail 8 = .ok (.aload_n 0, 1) := by decide +kernel
theorem dX5_fail_9 : decode cX5_fail 9 = .ok (.getfield 28, 3) := by decide +kernel
theorem dX5_fail_12 : decode cX5_fail 12 = .ok (.putfield 31, 3) := by decide +kernel
theorem dX5_fail_15 : decode cX5_fail 15 = .ok (.return_, 1) := by decide +kernel
theorem dX5_write_0 : decode cX5_write 0 = .ok (.aload_n 0, 1) := by decide +kernel
theorem dX5_write_1 : decode cX5_write 1 = .ok (.getfield 34, 3) := by decide +kernel
theorem dX5_write_4 : decode cX5_write 4 = .ok (.aload_n 0, 1) := by decide +kernel
theorem dX5_write_5 : decode cX5_write 5 = .ok (.getfield 15, 3) := by decide +kernel
theorem dX5_write_8 : decode cX5_write 8 = .ok (.arraylength, 1) := by decide +kernel
theorem dX5_write_9 : decode cX5_write 9 = .ok (.if_icmp .ge 23, 3) := by decide +kernel
theorem dX5_write_12 : decode cX5_write 12 = .ok (.aload_n 0, 1) := by decide +kernel
theorem dX5_write_13 : decode cX5_write 13 = .ok (.getfield 15, 3) := by decide +kernel
theorem dX5_write_16 : decode cX5_write 16 = .ok (.aload_n 0, 1) := by decide +kernel
theorem dX5_write_17 : decode cX5_write 17 = .ok (.getfield 34, 3) := by decide +kernel
theorem dX5_write_20 : decode cX5_write 20 = .ok (.iload_n 1, 1) := by decide +kernel
theorem dX5_write_21 : decode cX5_write 21 = .ok (.iastore, 1) := by decide +kernel
theorem dX5_write_22 : decode cX5_write 22 = .ok (.aload_n 0, 1) := by decide +kernel
theorem dX5_write_23 : decode cX5_write 23 = .ok (.dup, 1) := by decide +kernel
theorem dX5_write_24 : decode cX5_write 24 = .ok (.getfield 34, 3) := by decide +kernel
theorem dX5_write_27 : decode cX5_write 27 = .ok (.iconst 1, 1) := by decide +kernel
theorem dX5_write_28 : decode cX5_write 28 = .ok (.iadd, 1) := by decide +kernel
theorem dX5_write_29 : decode cX5_write 29 = .ok (.putfield 34, 3) := by decide +kernel
theorem dX5_write_32 : decode cX5_write 32 = .ok (.return_, 1) := by decide +kernel
theorem dX5_valueOf_0 : decode cX5_valueOf 0 = .ok (.iconst 0, 1) := by decide +kernel
theorem dX5_valueOf_1 : decode cX5_valueOf 1 = .ok (.istore 5, 2) := by decide +kernel
theorem dX5_valueOf_3 : decode cX5_valueOf 3 = .ok (.iconst 0, 1) := by decide +kernel
theorem dX5_valueOf_4 : decode cX5_valueOf 4 = .ok (.istore 6, 2) := by decide +kernel
theorem dX5_valueOf_6 : decode cX5_valueOf 6 = .ok (.iconst 0, 1) := by decide +kernel
theorem dX5_valueOf_7 : decode cX5_valueOf 7 = .ok (.istore 7, 2) := by decide +kernel
theorem dX5_valueOf_9 : decode cX5_valueOf 9 = .ok (.iload 7, 2) := by decide +kernel
theorem dX5_valueOf_11 : decode cX5_valueOf 11 = .ok (.aload_n 0, 1) := by decide +kernel
theorem dX5_valueOf_12 : decode cX5_valueOf 12 = .ok (.getfield 46, 3) := by decide +kernel
theorem dX5_valueOf_15 : decode cX5_valueOf 15 = .ok (.if_icmp .ge 182, 3) := by decide +kernel
theorem dX5_valueOf_18 : decode cX5_valueOf 18 = .ok (.aload_n 0, 1) := by decide +kernel
theorem dX5_valueOf_19 : decode cX5_valueOf 19 = .ok (.getfield 18, 3) := by decide +kernel
theorem dX5_valueOf_22 : decode cX5_valueOf 22 = .ok (.iload 7, 2) := by decide +kernel
theorem dX5_valueOf_24 : decode cX5_valueOf 24 = .ok (.iaload, 1) := by decide +kernel
theorem dX5_valueOf_25 : decode cX5_valueOf 25 = .ok (.istore 8, 2) := by decide +kernel
theorem dX5_valueOf_27 : decode cX5_valueOf 27 = .ok (.iload 8, 2) := by decide +kernel
theorem dX5_valueOf_29 : decode cX5_valueOf 29 = .ok (.bipush 59, 2) := by decide +kernel
theorem dX5_valueOf_31 : decode cX5_valueOf 31 = .ok (.if_icmp .ne 15, 3) := by decide +kernel
theorem dX5_valueOf_34 : decode cX5_valueOf 34 = .ok (.iload 5, 2) := by decide +kernel
theorem dX5_valueOf_36 : decode cX5_valueOf 36 = .ok (.ifCond .ne 10, 3) := by decide +kernel
theorem dX5_valueOf_39 : decode cX5_valueOf 39 = .ok (.aload_n 0, 1) := by decide +kernel
theorem dX5_valueOf_40 : decode cX5_valueOf 40 = .ok (.getfield 21, 3) := by decide +kernel
theorem dX5_valueOf_43 : decode cX5_valueOf 43 = .ok (.iconst 0, 1) := by decide +kernel
theorem dX5_valueOf_44 : decode cX5_valueOf 44 = .ok (.iaload, 1) := by decide +kernel
theorem dX5_valueOf_45 : decode cX5_valueOf 45 = .ok (.ireturn, 1) := by decide +kernel
theorem dX5_valueOf_46 : decode cX5_valueOf 46 = .ok (.iload 8, 2) := by decide +kernel
theorem dX5_valueOf_48 : decode cX5_valueOf 48 = .ok (.bipush 59, 2) := by decide +kernel
theorem dX5_valueOf_50 : decode cX5_valueOf 50 = .ok (.if_icmp .ne 9, 3) := by decide +kernel
theorem dX5_valueOf_53 : decode cX5_valueOf 53 = .ok (.iconst 0, 1) := by decide +kernel
theorem dX5_valueOf_54 : decode cX5_valueOf 54 = .ok (.istore 5, 2) := by decide +kernel
theorem dX5_valueOf_56 : decode cX5_valueOf 56 = .ok (.goto 135, 3) := by decide +kernel
theorem dX5_valueOf_59 : decode cX5_valueOf 59 = .ok (.iload 8, 2) := by decide +kernel
theorem dX5_valueOf_61 : decode cX5_valueOf 61 = .ok (.bipush 63, 2) := by decide +kernel
theorem dX5_valueOf_63 : decode cX5_valueOf 63 = .ok (.if_icmp .ne 30, 3) := by decide +kernel
theorem dX5_valueOf_66 : decode cX5_valueOf 66 = .ok (.iload 5, 2) := by decide +kernel
theorem dX5_valueOf_68 : decode cX5_valueOf 68 = .ok (.ifCond .ne 25, 3) := by decide +kernel
theorem dX5_valueOf_71 : decode cX5_valueOf 71 = .ok (.aload_n 0, 1) := by decide +kernel
theorem dX5_valueOf_72 : decode cX5_valueOf 72 = .ok (.getfield 21, 3) := by decide +kernel
theorem dX5_valueOf_75 : decode cX5_valueOf 75 = .ok (.iconst 0, 1) := by decide +kernel
theorem dX5_valueOf_76 : decode cX5_valueOf 76 = .ok (.iaload, 1) := by decide +kernel
theorem dX5_valueOf_77 : decode cX5_valueOf 77 = .ok (.ifCond .ne 7, 3) := by decide +kernel
theorem dX5_valueOf_80 : decode cX5_valueOf 80 = .ok (.iconst 1, 1) := by decide +kernel
theorem dX5_valueOf_81 : decode cX5_valueOf 81 = .ok (.goto 4, 3) := by decide +kernel
theorem dX5_valueOf_84 : decode cX5_valueOf 84 = .ok (.iconst 0, 1) := by decide +kernel
theorem dX5_valueOf_85 : decode cX5_valueOf 85 = .ok (.istore 5, 2) := by decide +kernel
theorem dX5_valueOf_87 : decode cX5_valueOf 87 = .ok (.iconst 0, 1) := by decide +kernel
theorem dX5_valueOf_88 : decode cX5_valueOf 88 = .ok (.istore 6, 2) := by decide +kernel
theorem dX5_valueOf_90 : decode cX5_valueOf 90 = .ok (.goto 101, 3) := by decide +kernel
theorem dX5_valueOf_93 : decode cX5_valueOf 93 = .ok (.iload 5, 2) := by decide +kernel
theorem dX5_valueOf_95 : decode cX5_valueOf 95 = .ok (.ifCond .ne 96, 3) := by decide +kernel
theorem dX5_valueOf_98 : decode cX5_valueOf 98 = .ok (.iload 6, 2) := by decide +kernel
theorem dX5_valueOf_100 : decode cX5_valueOf 100 = .ok (.iload 8, 2) := by decide +kernel
theorem dX5_valueOf_102 : decode cX5_valueOf 102 = .ok (.invokestatic 99, 3) := by decide +kernel
theorem dX5_valueOf_105 : decode cX5_valueOf 105 = .ok (.isub, 1) := by decide +kernel
theorem dX5_valueOf_106 : decode cX5_valueOf 106 = .ok (.istore 6, 2) := by decide +kernel
theorem dX5_valueOf_108 : decode cX5_valueOf 108 = .ok (.iload 6, 2) := by decide +kernel
theorem dX5_valueOf_110 : decode cX5_valueOf 110 = .ok (.ifCond .lt 15, 3) := by decide +kernel
theorem dX5_valueOf_113 : decode cX5_valueOf 113 = .ok (.iload 6, 2) := by decide +kernel
theorem dX5_valueOf_115 : decode cX5_valueOf 115 = .ok (.iconst 1, 1) := by decide +kernel
theorem dX5_valueOf_116 : decode cX5_valueOf 116 = .ok (.iadd, 1) := by decide +kernel
theorem dX5_valueOf_117 : decode cX5_valueOf 117 = .ok (.aload_n 0, 1) := by decide +kernel
theorem dX5_valueOf_118 : decode cX5_valueOf 118 = .ok (.getfield 21, 3) := by decide +kernel
theorem dX5_valueOf_121 : decode cX5_valueOf 121 = .ok (.arraylength, 1) := by decide +kernel
theorem dX5_valueOf_122 : decode cX5_valueOf 122 = .ok (.if_icmp .lt 5, 3) := by decide +kernel
theorem dX5_valueOf_125 : decode cX5_valueOf 125 = .ok (.iconst 0, 1) := by decide +kernel
theorem dX5_valueOf_126 : decode cX5_valueOf 126 = .ok (.ireturn, 1) := by decide +kernel
theorem dX5_valueOf_127 : decode cX5_valueOf 127 = .ok (.iload 8, 2) := by decide +kernel
theorem dX5_valueOf_129 : decode cX5_valueOf 129 = .ok (.invokestatic 99, 3) := by decide +kernel
theorem dX5_valueOf_132 : decode cX5_valueOf 132 = .ok (.ifCond .ne 7, 3) := by decide +kernel
theorem dX5_valueOf_135 : decode cX5_valueOf 135 = .ok (.iconst 1, 1) := by decide +kernel
theorem dX5_valueOf_136 : decode cX5_valueOf 136 = .ok (.goto 4, 3) := by decide +kernel
theorem dX5_valueOf_139 : decode cX5_valueOf 139 = .ok (.iconst 0, 1) := by decide +kernel
theorem dX5_valueOf_140 : decode cX5_valueOf 140 = .ok (.istore 9, 2) := by decide +kernel
theorem dX5_valueOf_142 : decode cX5_valueOf 142 = .ok (.aload_n 0, 1) := by decide +kernel
theorem dX5_valueOf_143 : decode cX5_valueOf 143 = .ok (.getfield 21, 3) := by decide +kernel
theorem dX5_valueOf_146 : decode cX5_valueOf 146 = .ok (.iload 6, 2) := by decide +kernel
theorem dX5_valueOf_148 : decode cX5_valueOf 148 = .ok (.iload 9, 2) := by decide +kernel
theorem dX5_valueOf_150 : decode cX5_valueOf 150 = .ok (.ifCond .eq 16, 3) := by decide +kernel
theorem dX5_valueOf_153 : decode cX5_valueOf 153 = .ok (.iload 8, 2) := by decide +kernel
theorem dX5_valueOf_155 : decode cX5_valueOf 155 = .ok (.iload_n 1, 1) := by decide +kernel
theorem dX5_valueOf_156 : decode cX5_valueOf 156 = .ok (.iload_n 2, 1) := by decide +kernel
theorem dX5_valueOf_157 : decode cX5_valueOf 157 = .ok (.iload_n 3, 1) := by decide +kernel
theorem dX5_valueOf_158 : decode cX5_valueOf 158 = .ok (.iload 4, 2) := by decide +kernel
theorem dX5_valueOf_160 : decode cX5_valueOf 160 = .ok (.invokestatic 103, 3) := by decide +kernel
theorem dX5_valueOf_163 : decode cX5_valueOf 163 = .ok (.goto 24, 3) := by decide +kernel
theorem dX5_valueOf_166 : decode cX5_valueOf 166 = .ok (.iload 8, 2) := by decide +kernel
theorem dX5_valueOf_168 : decode cX5_valueOf 168 = .ok (.aload_n 0, 1) := by decide +kernel
theorem dX5_valueOf_169 : decode cX5_valueOf 169 = .ok (.getfield 21, 3) := by decide +kernel
theorem dX5_valueOf_172 : decode cX5_valueOf 172 = .ok (.iload 6, 2) := by decide +kernel
theorem dX5_valueOf_174 : decode cX5_valueOf 174 = .ok (.iaload, 1) := by decide +kernel
theorem dX5_valueOf_175 : decode cX5_valueOf 175 = .ok (.aload_n 0, 1) := by decide +kernel
theorem dX5_valueOf_176 : decode cX5_valueOf 176 = .ok (.getfield 21, 3) := by decide +kernel
theorem dX5_valueOf_179 : decode cX5_valueOf 179 = .ok (.iload 6, 2) := by decide +kernel
theorem dX5_valueOf_181 : decode cX5_valueOf 181 = .ok (.iconst 1, 1) := by decide +kernel
theorem dX5_valueOf_182 : decode cX5_valueOf 182 = .ok (.iadd, 1) := by decide +kernel
theorem dX5_valueOf_183 : decode cX5_valueOf 183 = .ok (.iaload, 1) := by decide +kernel
theorem dX5_valueOf_184 : decode cX5_valueOf 184 = .ok (.invokestatic 107, 3) := by decide +kernel
theorem dX5_valueOf_187 : decode cX5_valueOf 187 = .ok (.iastore, 1) := by decide +kernel
theorem dX5_valueOf_188 : decode cX5_valueOf 188 = .ok (.iinc 6 1, 3) := by decide +kernel
theorem dX5_valueOf_191 : decode cX5_valueOf 191 = .ok (.iinc 7 1, 3) := by decide +kernel
theorem dX5_valueOf_194 : decode cX5_valueOf 194 = .ok (.goto (-185), 3) := by decide +kernel
theorem dX5_valueOf_197 : decode cX5_valueOf 197 = .ok (.iconst 0, 1) := by decide +kernel
theorem dX5_valueOf_198 : decode cX5_valueOf 198 = .ok (.ireturn, 1) := by decide +kernel
theorem dX5_operands_0 : decode cX5_operands 0 = .ok (.iload_n 0, 1) := by decide +kernel
theorem dX5_operands_1 : decode cX5_operands 1 = .ok (.lookupswitch 111 #[(33, 109), (37, 107), (38, 107), (42, 107), (43, 107), (45, 107), (47, 107), (60, 107), (61, 107), (62, 107), (124, 107), (126, 109)], 107) := by decide +kernel
theorem dX5_operands_108 : decode cX5_operands 108 = .ok (.iconst 2, 1) := by decide +kernel
theorem dX5_operands_109 : decode cX5_operands 109 = .ok (.ireturn, 1) := by decide +kernel
theorem dX5_operands_110 : decode cX5_operands 110 = .ok (.iconst 1, 1) := by decide +kernel
theorem dX5_operands_111 : decode cX5_operands 111 = .ok (.ireturn, 1) := by decide +kernel
theorem dX5_operands_112 : decode cX5_operands 112 = .ok (.iconst 0, 1) := by decide +kernel
theorem dX5_operands_113 : decode cX5_operands 113 = .ok (.ireturn, 1) := by decide +kernel
theorem dX5_named_0 : decode cX5_named 0 = .ok (.iload_n 0, 1) := by decide +kernel
theorem dX5_named_1 : decode cX5_named 1 = .ok (.tableswitch 122 100 119 #[95, 122, 122, 122, 117, 122, 122, 119, 122, 122, 122, 122, 122, 122, 122, 113, 122, 102, 122, 115], 95) := by decide +kernel
theorem dX5_named_96 : decode cX5_named 96 = .ok (.iload_n 1, 1) := by decide +kernel
theorem dX5_named_97 : decode cX5_named 97 = .ok (.iload_n 2, 1) := by decide +kernel
theorem dX5_named_98 : decode cX5_named 98 = .ok (.isub, 1) := by decide +kernel
theorem dX5_named_99 : decode cX5_named 99 = .ok (.invokestatic 111, 3) := by decide +kernel
theorem dX5_named_102 : decode cX5_named 102 = .ok (.ireturn, 1) := by decide +kernel
theorem dX5_named_103 : decode cX5_named 103 = .ok (.iload_n 1, 1) := by decide +kernel
theorem dX5_named_104 : decode cX5_named 104 = .ok (.iload_n 2, 1) := by decide +kernel
theorem dX5_named_105 : decode cX5_named 105 = .ok (.if_icmp .le 7, 3) := by decide +kernel
theorem dX5_named_108 : decode cX5_named 108 = .ok (.iconst 1, 1) := by decide +kernel
theorem dX5_named_109 : decode cX5_named 109 = .ok (.goto 4, 3) := by decide +kernel
theorem dX5_named_112 : decode cX5_named 112 = .ok (.iconst 0, 1) := by decide +kernel
theorem dX5_named_113 : decode cX5_named 113 = .ok (.ireturn, 1) := by decide +kernel
theorem dX5_named_114 : decode cX5_named 114 = .ok (.iload_n 1, 1) := by decide +kernel
theorem dX5_named_115 : decode cX5_named 115 = .ok (.ireturn, 1) := by decide +kernel
theorem dX5_named_116 : decode cX5_named 116 = .ok (.iload_n 2, 1) := by decide +kernel
theorem dX5_named_117 : decode cX5_named 117 = .ok (.ireturn, 1) := by decide +kernel
theorem dX5_named_118 : decode cX5_named 118 = .ok (.iload_n 3, 1) := by decide +kernel
theorem dX5_named_119 : decode cX5_named 119 = .ok (.ireturn, 1) := by decide +kernel
theorem dX5_named_120 : decode cX5_named 120 = .ok (.iload 4, 2) := by decide +kernel
theorem dX5_named_122 : decode cX5_named 122 = .ok (.ireturn, 1) := by decide +kernel
theorem dX5_named_123 : decode cX5_named 123 = .ok (.iload_n 0, 1) := by decide +kernel
theorem dX5_named_124 : decode cX5_named 124 = .ok (.sipush 1000, 3) := by decide +kernel
theorem dX5_named_127 : decode cX5_named 127 = .ok (.isub, 1) := by decide +kernel
theorem dX5_named_128 : decode cX5_named 128 = .ok (.ireturn, 1) := by decide +kernel
theorem dX5_worked_0 : decode cX5_worked 0 = .ok (.iload_n 0, 1) := by decide +kernel
theorem dX5_worked_1 : decode cX5_worked 1 = .ok (.lookupswitch 206 #[(33, 196), (37, 123), (38, 168), (42, 107), (43, 99), (45, 103), (47, 111), (60, 135), (61, 146), (62, 157), (124, 182)], 99) := by decide +kernel
theorem dX5_worked_100 : decode cX5_worked 100 = .ok (.iload_n 1, 1) := by decide +kernel
theorem dX5_worked_101 : decode cX5_worked 101 = .ok (.iload_n 2, 1) := by decide +kernel
theorem dX5_worked_102 : decode cX5_worked 102 = .ok (.iadd, 1) := by decide +kernel
theorem dX5_worked_103 : decode cX5_worked 103 = .ok (.ireturn, 1) := by decide +kernel
theorem dX5_worked_104 : decode cX5_worked 104 = .ok (.iload_n 1, 1) := by decide +kernel
theorem dX5_worked_105 : decode cX5_worked 105 = .ok (.iload_n 2, 1) := by decide +kernel
theorem dX5_worked_106 : decode cX5_worked 106 = .ok (.isub, 1) := by decide +kernel
theorem dX5_worked_107 : decode cX5_worked 107 = .ok (.ireturn, 1) := by decide +kernel
theorem dX5_worked_108 : decode cX5_worked 108 = .ok (.iload_n 1, 1) := by decide +kernel
theorem dX5_worked_109 : decode cX5_worked 109 = .ok (.iload_n 2, 1) := by decide +kernel
theorem dX5_worked_110 : decode cX5_worked 110 = .ok (.imul, 1) := by decide +kernel
theorem dX5_worked_111 : decode cX5_worked 111 = .ok (.ireturn, 1) := by decide +kernel
theorem dX5_worked_112 : decode cX5_worked 112 = .ok (.iload_n 2, 1) := by decide +kernel
theorem dX5_worked_113 : decode cX5_worked 113 = .ok (.ifCond .ne 7, 3) := by decide +kernel
theorem dX5_worked_116 : decode cX5_worked 116 = .ok (.iconst 0, 1) := by decide +kernel
theorem dX5_worked_117 : decode cX5_worked 117 = .ok (.goto 6, 3) := by decide +kernel
theorem dX5_worked_120 : decode cX5_worked 120 = .ok (.iload_n 1, 1) := by decide +kernel
theorem dX5_worked_121 : decode cX5_worked 121 = .ok (.iload_n 2, 1) := by decide +kernel
theorem dX5_worked_122 : decode cX5_worked 122 = .ok (.idiv, 1) := by decide +kernel
theorem dX5_worked_123 : decode cX5_worked 123 = .ok (.ireturn, 1) := by decide +kernel
theorem dX5_worked_124 : decode cX5_worked 124 = .ok (.iload_n 2, 1) := by decide +kernel
theorem dX5_worked_125 : decode cX5_worked 125 = .ok (.ifCond .ne 7, 3) := by decide +kernel
theorem dX5_worked_128 : decode cX5_worked 128 = .ok (.iconst 0, 1) := by decide +kernel
theorem dX5_worked_129 : decode cX5_worked 129 = .ok (.goto 6, 3) := by decide +kernel
theorem dX5_worked_132 : decode cX5_worked 132 = .ok (.iload_n 1, 1) := by decide +kernel
theorem dX5_worked_133 : decode cX5_worked 133 = .ok (.iload_n 2, 1) := by decide +kernel
theorem dX5_worked_134 : decode cX5_worked 134 = .ok (.irem, 1) := by decide +kernel
theorem dX5_worked_135 : decode cX5_worked 135 = .ok (.ireturn, 1) := by decide +kernel
theorem dX5_worked_136 : decode cX5_worked 136 = .ok (.iload_n 1, 1) := by decide +kernel
theorem dX5_worked_137 : decode cX5_worked 137 = .ok (.iload_n 2, 1) := by decide +kernel
theorem dX5_worked_138 : decode cX5_worked 138 = .ok (.if_icmp .ge 7, 3) := by decide +kernel
theorem dX5_worked_141 : decode cX5_worked 141 = .ok (.iconst 1, 1) := by decide +kernel
theorem dX5_worked_142 : decode cX5_worked 142 = .ok (.goto 4, 3) := by decide +kernel
theorem dX5_worked_145 : decode cX5_worked 145 = .ok (.iconst 0, 1) := by decide +kernel
theorem dX5_worked_146 : decode cX5_worked 146 = .ok (.ireturn, 1) := by decide +kernel
theorem dX5_worked_147 : decode cX5_worked 147 = .ok (.iload_n 1, 1) := by decide +kernel
theorem dX5_worked_148 : decode cX5_worked 148 = .ok (.iload_n 2, 1) := by decide +kernel
theorem dX5_worked_149 : decode cX5_worked 149 = .ok (.if_icmp .ne 7, 3) := by decide +kernel
theorem dX5_worked_152 : decode cX5_worked 152 = .ok (.iconst 1, 1) := by decide +kernel
theorem dX5_worked_153 : decode cX5_worked 153 = .ok (.goto 4, 3) := by decide +kernel
theorem dX5_worked_156 : decode cX5_worked 156 = .ok (.iconst 0, 1) := by decide +kernel
theorem dX5_worked_157 : decode cX5_worked 157 = .ok (.ireturn, 1) := by decide +kernel
theorem dX5_worked_158 : decode cX5_worked 158 = .ok (.iload_n 1, 1) := by decide +kernel
theorem dX5_worked_159 : decode cX5_worked 159 = .ok (.iload_n 2, 1) := by decide +kernel
theorem dX5_worked_160 : decode cX5_worked 160 = .ok (.if_icmp .le 7, 3) := by decide +kernel
theorem dX5_worked_163 : decode cX5_worked 163 = .ok (.iconst 1, 1) := by decide +kernel
theorem dX5_worked_164 : decode cX5_worked 164 = .ok (.goto 4, 3) := by decide +kernel
theorem dX5_worked_167 : decode cX5_worked 167 = .ok (.iconst 0, 1) := by decide +kernel
theorem dX5_worked_168 : decode cX5_worked 168 = .ok (.ireturn, 1) := by decide +kernel
theorem dX5_worked_169 : decode cX5_worked 169 = .ok (.iload_n 1, 1) := by decide +kernel
theorem dX5_worked_170 : decode cX5_worked 170 = .ok (.ifCond .eq 11, 3) := by decide +kernel
theorem dX5_worked_173 : decode cX5_worked 173 = .ok (.iload_n 2, 1) := by decide +kernel
theorem dX5_worked_174 : decode cX5_worked 174 = .ok (.ifCond .eq 7, 3) := by decide +kernel
theorem dX5_worked_177 : decode cX5_worked 177 = .ok (.iconst 1, 1) := by decide +kernel
theorem dX5_worked_178 : decode cX5_worked 178 = .ok (.goto 4, 3) := by decide +kernel
theorem dX5_worked_181 : decode cX5_worked 181 = .ok (.iconst 0, 1) := by decide +kernel
theorem dX5_worked_182 : decode cX5_worked 182 = .ok (.ireturn, 1) := by decide +kernel
theorem dX5_worked_183 : decode cX5_worked 183 = .ok (.iload_n 1, 1) := by decide +kernel
theorem dX5_worked_184 : decode cX5_worked 184 = .ok (.ifCond .ne 7, 3) := by decide +kernel
theorem dX5_worked_187 : decode cX5_worked 187 = .ok (.iload_n 2, 1) := by decide +kernel
theorem dX5_worked_188 : decode cX5_worked 188 = .ok (.ifCond .eq 7, 3) := by decide +kernel
theorem dX5_worked_191 : decode cX5_worked 191 = .ok (.iconst 1, 1) := by decide +kernel
theorem dX5_worked_192 : decode cX5_worked 192 = .ok (.goto 4, 3) := by decide +kernel
theorem dX5_worked_195 : decode cX5_worked 195 = .ok (.iconst 0, 1) := by decide +kernel
theorem dX5_worked_196 : decode cX5_worked 196 = .ok (.ireturn, 1) := by decide +kernel
theorem dX5_worked_197 : decode cX5_worked 197 = .ok (.iload_n 1, 1) := by decide +kernel
theorem dX5_worked_198 : decode cX5_worked 198 = .ok (.ifCond .ne 7, 3) := by decide +kernel
theorem dX5_worked_201 : decode cX5_worked 201 = .ok (.iconst 1, 1) := by decide +kernel
theorem dX5_worked_202 : decode cX5_worked 202 = .ok (.goto 4, 3) := by decide +kernel
theorem dX5_worked_205 : decode cX5_worked 205 = .ok (.iconst 0, 1) := by decide +kernel
theorem dX5_worked_206 : decode cX5_worked 206 = .ok (.ireturn, 1) := by decide +kernel
theorem dX5_worked_207 : decode cX5_worked 207 = .ok (.iload_n 1, 1) := by decide +kernel
theorem dX5_worked_208 : decode cX5_worked 208 = .ok (.ineg, 1) := by decide +kernel
theorem dX5_worked_209 : decode cX5_worked 209 = .ok (.ireturn, 1) := by decide +kernel
theorem dX6_mayHaveSat_0 : decode cX6_mayHaveSat 0 = .ok (.aload_n 0, 1) := by decide +kernel
theorem dX6_mayHaveSat_1 : decode cX6_mayHaveSat 1 = .ok (.aload_n 1, 1) := by decide +kernel
theorem dX6_mayHaveSat_2 : decode cX6_mayHaveSat 2 = .ok (.putfield 15, 3) := by decide +kernel
theorem dX6_mayHaveSat_5 : decode cX6_mayHaveSat 5 = .ok (.aload_n 0, 1) := by decide +kernel
theorem dX6_mayHaveSat_6 : decode cX6_mayHaveSat 6 = .ok (.iload_n 2, 1) := by decide +kernel
theorem dX6_mayHaveSat_7 : decode cX6_mayHaveSat 7 = .ok (.putfield 19, 3) := by decide +kernel
theorem dX6_mayHaveSat_10 : decode cX6_mayHaveSat 10 = .ok (.aload_n 0, 1) := by decide +kernel
theorem dX6_mayHaveSat_11 : decode cX6_mayHaveSat 11 = .ok (.iload_n 3, 1) := by decide +kernel
theorem dX6_mayHaveSat_12 : decode cX6_mayHaveSat 12 = .ok (.invokevirtual 23, 3) := by decide +kernel
theorem dX6_mayHaveSat_15 : decode cX6_mayHaveSat 15 = .ok (.lstore 4, 2) := by decide +kernel
theorem dX6_mayHaveSat_17 : decode cX6_mayHaveSat 17 = .ok (.aload_n 0, 1) := by decide +kernel
theorem dX6_mayHaveSat_18 : decode cX6_mayHaveSat 18 = .ok (.iload_n 3, 1) := by decide +kernel
theorem dX6_mayHaveSat_19 : decode cX6_mayHaveSat 19 = .ok (.invokevirtual 27, 3) := by decide +kernel
theorem dX6_mayHaveSat_22 : decode cX6_mayHaveSat 22 = .ok (.lstore 6, 2) := by decide +kernel
theorem dX6_mayHaveSat_24 : decode cX6_mayHaveSat 24 = .ok (.iconst 0, 1) := by decide +kernel
theorem dX6_mayHaveSat_25 : decode cX6_mayHaveSat 25 = .ok (.istore 8, 2) := by decide +kernel
theorem dX6_mayHaveSat_27 : decode cX6_mayHaveSat 27 = .ok (.iconst (-1), 1) := by decide +kernel
theorem dX6_mayHaveSat_28 : decode cX6_mayHaveSat 28 = .ok (.istore 9, 2) := by decide +kernel
theorem dX6_mayHaveSat_30 : decode cX6_mayHaveSat 30 = .ok (.iload 9, 2) := by decide +kernel
theorem dX6_mayHaveSat_32 : decode cX6_mayHaveSat 32 = .ok (.aload_n 0, 1) := by decide +kernel
theorem dX6_mayHaveSat_33 : decode cX6_mayHaveSat 33 = .ok (.getfield 9, 3) := by decide +kernel
theorem dX6_mayHaveSat_36 : decode cX6_mayHaveSat 36 = .ok (.getfield 30, 3) := by decide +kernel
theorem dX6_mayHaveSat_39 : decode cX6_mayHaveSat 39 = .ok (.if_icmp .ge 46, 3) := by decide +kernel
theorem dX6_mayHaveSat_42 : decode cX6_mayHaveSat 42 = .ok (.aload_n 0, 1) := by decide +kernel
theorem dX6_mayHaveSat_43 : decode cX6_mayHaveSat 43 = .ok (.lload 4, 2) := by decide +kernel
theorem dX6_mayHaveSat_45 : decode cX6_mayHaveSat 45 = .ok (.iload 9, 2) := by decide +kernel
theorem dX6_mayHaveSat_47 : decode cX6_mayHaveSat 47 = .ok (.invokevirtual 35, 3) := by decide +kernel
theorem dX6_mayHaveSat_50 : decode cX6_mayHaveSat 50 = .ok (.lload 6, 2) := by decide +kernel
theorem dX6_mayHaveSat_52 : decode cX6_mayHaveSat 52 = .ok (.land, 1) := by decide +kernel
theorem dX6_mayHaveSat_53 : decode cX6_mayHaveSat 53 = .ok (.lconst 0, 1) := by decide +kernel
theorem dX6_mayHaveSat_54 : decode cX6_mayHaveSat 54 = .ok (.lcmp, 1) := by decide +kernel
theorem dX6_mayHaveSat_55 : decode cX6_mayHaveSat 55 = .ok (.ifCond .eq 24, 3) := by decide +kernel
theorem dX6_mayHaveSat_58 : decode cX6_mayHaveSat 58 = .ok (.iload 8, 2) := by decide +kernel
theorem dX6_mayHaveSat_60 : decode cX6_mayHaveSat 60 = .ok (.iload 9, 2) := by decide +kernel
theorem dX6_mayHaveSat_62 : decode cX6_mayHaveSat 62 = .ok (.iconst (-1), 1) := by decide +kernel
theorem dX6_mayHaveSat_63 : decode cX6_mayHaveSat 63 = .ok (.if_icmp .ne 9, 3) := by decide +kernel
theorem dX6_mayHaveSat_66 : decode cX6_mayHaveSat 66 = .ok (.sipush 256, 3) := by decide +kernel
theorem dX6_mayHaveSat_69 : decode cX6_mayHaveSat 69 = .ok (.goto 7, 3) := by decide +kernel
theorem dX6_mayHaveSat_72 : decode cX6_mayHaveSat 72 = .ok (.iconst 1, 1) := by decide +kernel
theorem dX6_mayHaveSat_73 : decode cX6_mayHaveSat 73 = .ok (.iload 9, 2) := by decide +kernel
theorem dX6_mayHaveSat_75 : decode cX6_mayHaveSat 75 = .ok (.ishl, 1) := by decide +kernel
theorem dX6_mayHaveSat_76 : decode cX6_mayHaveSat 76 = .ok (.ior, 1) := by decide +kernel
theorem dX6_mayHaveSat_77 : decode cX6_mayHaveSat 77 = .ok (.istore 8, 2) := by decide +kernel
theorem dX6_mayHaveSat_79 : decode cX6_mayHaveSat 79 = .ok (.iinc 9 1, 3) := by decide +kernel
theorem dX6_mayHaveSat_82 : decode cX6_mayHaveSat 82 = .ok (.goto (-52), 3) := by decide +kernel
theorem dX6_mayHaveSat_85 : decode cX6_mayHaveSat 85 = .ok (.iload 8, 2) := by decide +kernel
theorem dX6_mayHaveSat_87 : decode cX6_mayHaveSat 87 = .ok (.ireturn, 1) := by decide +kernel
theorem dX6_reachedAhead_0 : decode cX6_reachedAhead 0 = .ok (.lconst 1, 1) := by decide +kernel
theorem dX6_reachedAhead_1 : decode cX6_reachedAhead 1 = .ok (.aload_n 0, 1) := by decide +kernel
theorem dX6_reachedAhead_2 : decode cX6_reachedAhead 2 = .ok (.getfield 9, 3) := by decide +kernel
theorem dX6_reachedAhead_5 : decode cX6_reachedAhead 5 = .ok (.getfield 39, 3) := by decide +kernel
theorem dX6_reachedAhead_8 : decode cX6_reachedAhead 8 = .ok (.aload_n 0, 1) := by decide +kernel
theorem dX6_reachedAhead_9 : decode cX6_reachedAhead 9 = .ok (.getfield 19, 3) := by decide +kernel
theorem dX6_reachedAhead_12 : decode cX6_reachedAhead 12 = .ok (.iaload, 1) := by decide +kernel
theorem dX6_reachedAhead_13 : decode cX6_reachedAhead 13 = .ok (.lshl, 1) := by decide +kernel
theorem dX6_reachedAhead_14 : decode cX6_reachedAhead 14 = .ok (.lstore_n 2, 1) := by decide +kernel
theorem dX6_reachedAhead_15 : decode cX6_reachedAhead 15 = .ok (.iconst 0, 1) := by decide +kernel
theorem dX6_reachedAhead_16 : decode cX6_reachedAhead 16 = .ok (.istore 4, 2) := by decide +kernel
theorem dX6_reachedAhead_18 : decode cX6_reachedAhead 18 = .ok (.iload 4, 2) := by decide +kernel
theorem dX6_reachedAhead_20 : decode cX6_reachedAhead 20 = .ok (.iload_n 1, 1) := by decide +kernel
theorem dX6_reachedAhead_21 : decode cX6_reachedAhead 21 = .ok (.if_icmp .ge 55, 3) := by decide +kernel
theorem dX6_reachedAhead_24 : decode cX6_reachedAhead 24 = .ok (.lconst 0, 1) := by decide +kernel
theorem dX6_reachedAhead_25 : decode cX6_reachedAhead 25 = .ok (.lstore 5, 2) := by decide +kernel
theorem dX6_reachedAhead_27 : decode cX6_reachedAhead 27 = .ok (.iconst (-1), 1) := by decide +kernel
theorem dX6_reachedAhead_28 : decode cX6_reachedAhead 28 = .ok (.istore 7, 2) := by decide +kernel
theorem dX6_reachedAhead_30 : decode cX6_reachedAhead 30 = .ok (.iload 7, 2) := by decide +kernel
theorem dX6_reachedAhead_32 : decode cX6_reachedAhead 32 = .ok (.aload_n 0, 1) := by decide +kernel
theorem dX6_reachedAhead_33 : decode cX6_reachedAhead 33 = .ok (.getfield 9, 3) := by decide +kernel
theorem dX6_reachedAhead_36 : decode cX6_reachedAhead 36 = .ok (.getfield 30, 3) := by decide +kernel
theorem dX6_reachedAhead_39 : decode cX6_reachedAhead 39 = .ok (.if_icmp .ge 21, 3) := by decide +kernel
theorem dX6_reachedAhead_42 : decode cX6_reachedAhead 42 = .ok (.lload 5, 2) := by decide +kernel
theorem dX6_reachedAhead_44 : decode cX6_reachedAhead 44 = .ok (.aload_n 0, 1) := by decide +kernel
theorem dX6_reachedAhead_45 : decode cX6_reachedAhead 45 = .ok (.lload_n 2, 1) := by decide +kernel
theorem dX6_reachedAhead_46 : decode cX6_reachedAhead 46 = .ok (.iload 7, 2) := by decide +kernel
theorem dX6_reachedAhead_48 : decode cX6_reachedAhead 48 = .ok (.invokevirtual 35, 3) := by decide +kernel
theorem dX6_reachedAhead_51 : decode cX6_reachedAhead 51 = .ok (.lor, 1) := by decide +kernel
theorem dX6_reachedAhead_52 : decode cX6_reachedAhead 52 = .ok (.lstore 5, 2) := by decide +kernel
theorem dX6_reachedAhead_54 : decode cX6_reachedAhead 54 = .ok (.iinc 7 1, 3) := by decide +kernel
theorem dX6_reachedAhead_57 : decode cX6_reachedAhead 57 = .ok (.goto (-27), 3) := by decide +kernel
theorem dX6_reachedAhead_60 : decode cX6_reachedAhead 60 = .ok (.lload 5, 2) := by decide +kernel
theorem dX6_reachedAhead_62 : decode cX6_reachedAhead 62 = .ok (.aload_n 0, 1) := by decide +kernel
theorem dX6_reachedAhead_63 : decode cX6_reachedAhead 63 = .ok (.iload 4, 2) := by decide +kernel
theorem dX6_reachedAhead_65 : decode cX6_reachedAhead 65 = .ok (.invokevirtual 43, 3) := by decide +kernel
theorem dX6_reachedAhead_68 : decode cX6_reachedAhead 68 = .ok (.land, 1) := by decide +kernel
theorem dX6_reachedAhead_69 : decode cX6_reachedAhead 69 = .ok (.lstore_n 2, 1) := by decide +kernel
theorem dX6_reachedAhead_70 : decode cX6_reachedAhead 70 = .ok (.iinc 4 1, 3) := by decide +kernel
theorem dX6_reachedAhead_73 : decode cX6_reachedAhead 73 = .ok (.goto (-55), 3) := by decide +kernel
theorem dX6_reachedAhead_76 : decode cX6_reachedAhead 76 = .ok (.lload_n 2, 1) := by decide +kernel
theorem dX6_reachedAhead_77 : decode cX6_reachedAhead 77 = .ok (.lreturn, 1) := by decide +kernel
theorem dX6_fittingBehind_0 : decode cX6_fittingBehind 0 = .ok (.ldc2_w 46, 3) := by decide +kernel
theorem dX6_fittingBehind_3 : decode cX6_fittingBehind 3 = .ok (.lstore_n 2, 1) := by decide +kernel
theorem dX6_fittingBehind_4 : decode cX6_fittingBehind 4 = .ok (.bipush 12, 2) := by decide +kernel
theorem dX6_fittingBehind_6 : decode cX6_fittingBehind 6 = .ok (.aload_n 0, 1) := by decide +kernel
theorem dX6_fittingBehind_7 : decode cX6_fittingBehind 7 = .ok (.getfield 15, 3) := by decide +kernel
theorem dX6_fittingBehind_10 : decode cX6_fittingBehind 10 = .ok (.getfield 48, 3) := by decide +kernel
theorem dX6_fittingBehind_13 : decode cX6_fittingBehind 13 = .ok (.invokestatic 53, 3) := by decide +kernel
theorem dX6_fittingBehind_16 : decode cX6_fittingBehind 16 = .ok (.iconst 1, 1) := by decide +kernel
theorem dX6_fittingBehind_17 : decode cX6_fittingBehind 17 = .ok (.isub, 1) := by decide +kernel
theorem dX6_fittingBehind_18 : decode cX6_fittingBehind 18 = .ok (.istore 4, 2) := by decide +kernel
theorem dX6_fittingBehind_20 : decode cX6_fittingBehind 20 = .ok (.iload 4, 2) := by decide +kernel
theorem dX6_fittingBehind_22 : decode cX6_fittingBehind 22 = .ok (.iload_n 1, 1) := by decide +kernel
theorem dX6_fittingBehind_23 : decode cX6_fittingBehind 23 = .ok (.if_icmp .le 22, 3) := by decide +kernel
theorem dX6_fittingBehind_26 : decode cX6_fittingBehind 26 = .ok (.aload_n 0, 1) := by decide +kernel
theorem dX6_fittingBehind_27 : decode cX6_fittingBehind 27 = .ok (.lload_n 2, 1) := by decide +kernel
theorem dX6_fittingBehind_28 : decode cX6_fittingBehind 28 = .ok (.aload_n 0, 1) := by decide +kernel
theorem dX6_fittingBehind_29 : decode cX6_fittingBehind 29 = .ok (.iload 4, 2) := by decide +kernel
theorem dX6_fittingBehind_31 : decode cX6_fittingBehind 31 = .ok (.invokevirtual 43, 3) := by decide +kernel
theorem dX6_fittingBehind_34 : decode cX6_fittingBehind 34 = .ok (.land, 1) := by decide +kernel
theorem dX6_fittingBehind_35 : decode cX6_fittingBehind 35 = .ok (.invokevirtual 59, 3) := by decide +kernel
theorem dX6_fittingBehind_38 : decode cX6_fittingBehind 38 = .ok (.lstore_n 2, 1) := by decide +kernel
theorem dX6_fittingBehind_39 : decode cX6_fittingBehind 39 = .ok (.iinc 4 (-1), 3) := by decide +kernel
theorem dX6_fittingBehind_42 : decode cX6_fittingBehind 42 = .ok (.goto (-22), 3) := by decide +kernel
theorem dX6_fittingBehind_45 : decode cX6_fittingBehind 45 = .ok (.lload_n 2, 1) := by decide +kernel
theorem dX6_fittingBehind_46 : decode cX6_fittingBehind 46 = .ok (.aload_n 0, 1) := by decide +kernel
theorem dX6_fittingBehind_47 : decode cX6_fittingBehind 47 = .ok (.iload_n 1, 1) := by decide +kernel
theorem dX6_fittingBehind_48 : decode cX6_fittingBehind 48 = .ok (.invokevirtual 43, 3) := by decide +kernel
theorem dX6_fittingBehind_51 : decode cX6_fittingBehind 51 = .ok (.land, 1) := by decide +kernel
theorem dX6_fittingBehind_52 : decode cX6_fittingBehind 52 = .ok (.lreturn, 1) := by decide +kernel
theorem dX6_asSeen_0 : decode cX6_asSeen 0 = .ok (.aload_n 0, 1) := by decide +kernel
theorem dX6_asSeen_1 : decode cX6_asSeen 1 = .ok (.getfield 15, 3) := by decide +kernel
theorem dX6_asSeen_4 : decode cX6_asSeen 4 = .ok (.getfield 63, 3) := by decide +kernel
theorem dX6_asSeen_7 : decode cX6_asSeen 7 = .ok (.iload_n 1, 1) := by decide +kernel
theorem dX6_asSeen_8 : decode cX6_asSeen 8 = .ok (.laload, 1) := by decide +kernel
theorem dX6_asSeen_9 : decode cX6_asSeen 9 = .ok (.lstore_n 2, 1) := by decide +kernel
theorem dX6_asSeen_10 : decode cX6_asSeen 10 = .ok (.lload_n 2, 1) := by decide +kernel
theorem dX6_asSeen_11 : decode cX6_asSeen 11 = .ok (.ldc2_w 67, 3) := by decide +kernel
theorem dX6_asSeen_14 : decode cX6_asSeen 14 = .ok (.lcmp, 1) := by decide +kernel
theorem dX6_asSeen_15 : decode cX6_asSeen 15 = .ok (.ifCond .ne 7, 3) := by decide +kernel
theorem dX6_asSeen_18 : decode cX6_asSeen 18 = .ok (.ldc2_w 46, 3) := by decide +kernel
theorem dX6_asSeen_21 : decode cX6_asSeen 21 = .ok (.lreturn, 1) := by decide +kernel
theorem dX6_asSeen_22 : decode cX6_asSeen 22 = .ok (.lload_n 2, 1) := by decide +kernel
theorem dX6_asSeen_23 : decode cX6_asSeen 23 = .ok (.lconst 0, 1) := by decide +kernel
theorem dX6_asSeen_24 : decode cX6_asSeen 24 = .ok (.lcmp, 1) := by decide +kernel
theorem dX6_asSeen_25 : decode cX6_asSeen 25 = .ok (.ifCond .lt 18, 3) := by decide +kernel
theorem dX6_asSeen_28 : decode cX6_asSeen 28 = .ok (.lload_n 2, 1) := by decide +kernel
theorem dX6_asSeen_29 : decode cX6_asSeen 29 = .ok (.ldc2_w 69, 3) := by decide +kernel
theorem dX6_asSeen_32 : decode cX6_asSeen 32 = .ok (.lcmp, 1) := by decide +kernel
theorem dX6_asSeen_33 : decode cX6_asSeen 33 = .ok (.ifCond .gt 10, 3) := by decide +kernel
theorem dX6_asSeen_36 : decode cX6_asSeen 36 = .ok (.lconst 1, 1) := by decide +kernel
theorem dX6_asSeen_37 : decode cX6_asSeen 37 = .ok (.lload_n 2, 1) := by decide +kernel
theorem dX6_asSeen_38 : decode cX6_asSeen 38 = .ok (.l2i, 1) := by decide +kernel
theorem dX6_asSeen_39 : decode cX6_asSeen 39 = .ok (.lshl, 1) := by decide +kernel
theorem dX6_asSeen_40 : decode cX6_asSeen 40 = .ok (.goto 4, 3) := by decide +kernel
theorem dX6_asSeen_43 : decode cX6_asSeen 43 = .ok (.lconst 0, 1) := by decide +kernel
theorem dX6_asSeen_44 : decode cX6_asSeen 44 = .ok (.lreturn, 1) := by decide +kernel
theorem dX6_allBehind_0 : decode cX6_allBehind 0 = .ok (.lconst 0, 1) := by decide +kernel
theorem dX6_allBehind_1 : decode cX6_allBehind 1 = .ok (.lstore 4, 2) := by decide +kernel
theorem dX6_allBehind_3 : decode cX6_allBehind 3 = .ok (.iconst 0, 1) := by decide +kernel
theorem dX6_allBehind_4 : decode cX6_allBehind 4 = .ok (.istore 6, 2) := by decide +kernel
theorem dX6_allBehind_6 : decode cX6_allBehind 6 = .ok (.iload 6, 2) := by decide +kernel
theorem dX6_allBehind_8 : decode cX6_allBehind 8 = .ok (.bipush 60, 2) := by decide +kernel
theorem dX6_allBehind_10 : decode cX6_allBehind 10 = .ok (.if_icmp .gt 34, 3) := by decide +kernel
theorem dX6_allBehind_13 : decode cX6_allBehind 13 = .ok (.lload_n 1, 1) := by decide +kernel
theorem dX6_allBehind_14 : decode cX6_allBehind 14 = .ok (.iload 6, 2) := by decide +kernel
theorem dX6_allBehind_16 : decode cX6_allBehind 16 = .ok (.lushr, 1) := by decide +kernel
theorem dX6_allBehind_17 : decode cX6_allBehind 17 = .ok (.lconst 1, 1) := by decide +kernel
theorem dX6_allBehind_18 : decode cX6_allBehind 18 = .ok (.land, 1) := by decide +kernel
theorem dX6_allBehind_19 : decode cX6_allBehind 19 = .ok (.lconst 0, 1) := by decide +kernel
theorem dX6_allBehind_20 : decode cX6_allBehind 20 = .ok (.lcmp, 1) := by decide +kernel
theorem dX6_allBehind_21 : decode cX6_allBehind 21 = .ok (.ifCond .eq 17, 3) := by decide +kernel
theorem dX6_allBehind_24 : decode cX6_allBehind 24 = .ok (.lload 4, 2) := by decide +kernel
theorem dX6_allBehind_26 : decode cX6_allBehind 26 = .ok (.lconst 1, 1) := by decide +kernel
theorem dX6_allBehind_27 : decode cX6_allBehind 27 = .ok (.aload_n 0, 1) := by decide +kernel
theorem dX6_allBehind_28 : decode cX6_allBehind 28 = .ok (.iload_n 3, 1) := by decide +kernel
theorem dX6_allBehind_29 : decode cX6_allBehind 29 = .ok (.iload 6, 2) := by decide +kernel
theorem dX6_allBehind_31 : decode cX6_allBehind 31 = .ok (.invokevirtual 71, 3) := by decide +kernel
theorem dX6_allBehind_34 : decode cX6_allBehind 34 = .ok (.lshl, 1) := by decide +kernel
theorem dX6_allBehind_35 : decode cX6_allBehind 35 = .ok (.lor, 1) := by decide +kernel
theorem dX6_allBehind_36 : decode cX6_allBehind 36 = .ok (.lstore 4, 2) := by decide +kernel
theorem dX6_allBehind_38 : decode cX6_allBehind 38 = .ok (.iinc 6 1, 3) := by decide +kernel
theorem dX6_allBehind_41 : decode cX6_allBehind 41 = .ok (.goto (-35), 3) := by decide +kernel
theorem dX6_allBehind_44 : decode cX6_allBehind 44 = .ok (.lload 4, 2) := by decide +kernel
theorem dX6_allBehind_46 : decode cX6_allBehind 46 = .ok (.lreturn, 1) := by decide +kernel
theorem dX6_allAhead_0 : decode cX6_allAhead 0 = .ok (.lconst 0, 1) := by decide +kernel
theorem dX6_allAhead_1 : decode cX6_allAhead 1 = .ok (.lstore_n 3, 1) := by decide +kernel
theorem dX6_allAhead_2 : decode cX6_allAhead 2 = .ok (.iconst 0, 1) := by decide +kernel
theorem dX6_allAhead_3 : decode cX6_allAhead 3 = .ok (.istore 5, 2) := by decide +kernel
theorem dX6_allAhead_5 : decode cX6_allAhead 5 = .ok (.iload 5, 2) := by decide +kernel
theorem dX6_allAhead_7 : decode cX6_allAhead 7 = .ok (.bipush 60, 2) := by decide +kernel
theorem dX6_allAhead_9 : decode cX6_allAhead 9 = .ok (.if_icmp .gt 48, 3) := by decide +kernel
theorem dX6_allAhead_12 : decode cX6_allAhead 12 = .ok (.iconst (-1), 1) := by decide +kernel
theorem dX6_allAhead_13 : decode cX6_allAhead 13 = .ok (.istore 6, 2) := by decide +kernel
theorem dX6_allAhead_15 : decode cX6_allAhead 15 = .ok (.iload 6, 2) := by decide +kernel
theorem dX6_allAhead_17 : decode cX6_allAhead 17 = .ok (.aload_n 0, 1) := by decide +kernel
theorem dX6_allAhead_18 : decode cX6_allAhead 18 = .ok (.getfield 9, 3) := by decide +kernel
theorem dX6_allAhead_21 : decode cX6_allAhead 21 = .ok (.getfield 30, 3) := by decide +kernel
theorem dX6_allAhead_24 : decode cX6_allAhead 24 = .ok (.if_icmp .ge 27, 3) := by decide +kernel
theorem dX6_allAhead_27 : decode cX6_allAhead 27 = .ok (.lload_n 3, 1) := by decide +kernel
theorem dX6_allAhead_28 : decode cX6_allAhead 28 = .ok (.lload_n 1, 1) := by decide +kernel
theorem dX6_allAhead_29 : decode cX6_allAhead 29 = .ok (.aload_n 0, 1) := by decide +kernel
theorem dX6_allAhead_30 : decode cX6_allAhead 30 = .ok (.iload 6, 2) := by decide +kernel
theorem dX6_allAhead_32 : decode cX6_allAhead 32 = .ok (.iload 5, 2) := by decide +kernel
theorem dX6_allAhead_34 : decode cX6_allAhead 34 = .ok (.invokevirtual 71, 3) := by decide +kernel
theorem dX6_allAhead_37 : decode cX6_allAhead 37 = .ok (.lushr, 1) := by decide +kernel
theorem dX6_allAhead_38 : decode cX6_allAhead 38 = .ok (.lconst 1, 1) := by decide +kernel
theorem dX6_allAhead_39 : decode cX6_allAhead 39 = .ok (.land, 1) := by decide +kernel
theorem dX6_allAhead_40 : decode cX6_allAhead 40 = .ok (.iload 5, 2) := by decide +kernel
theorem dX6_allAhead_42 : decode cX6_allAhead 42 = .ok (.lshl, 1) := by decide +kernel
theorem dX6_allAhead_43 : decode cX6_allAhead 43 = .ok (.lor, 1) := by decide +kernel
theorem dX6_allAhead_44 : decode cX6_allAhead 44 = .ok (.lstore_n 3, 1) := by decide +kernel
theorem dX6_allAhead_45 : decode cX6_allAhead 45 = .ok (.iinc 6 1, 3) := by decide +kernel
theorem dX6_allAhead_48 : decode cX6_allAhead 48 = .ok (.goto (-33), 3) := by decide +kernel
theorem dX6_allAhead_51 : decode cX6_allAhead 51 = .ok (.iinc 5 1, 3) := by decide +kernel
theorem dX6_allAhead_54 : decode cX6_allAhead 54 = .ok (.goto (-49), 3) := by decide +kernel
theorem dX6_allAhead_57 : decode cX6_allAhead 57 = .ok (.lload_n 3, 1) := by decide +kernel
theorem dX6_allAhead_58 : decode cX6_allAhead 58 = .ok (.lreturn, 1) := by decide +kernel
theorem dX6_behindShift_0 : decode cX6_behindShift 0 = .ok (.iload_n 1, 1) := by decide +kernel
theorem dX6_behindShift_1 : decode cX6_behindShift 1 = .ok (.iconst (-1), 1) := by decide +kernel
theorem dX6_behindShift_2 : decode cX6_behindShift 2 = .ok (.if_icmp .ne 16, 3) := by decide +kernel
theorem dX6_behindShift_5 : decode cX6_behindShift 5 = .ok (.aload_n 0, 1) := by decide +kernel
theorem dX6_behindShift_6 : decode cX6_behindShift 6 = .ok (.getfield 9, 3) := by decide +kernel
theorem dX6_behindShift_9 : decode cX6_behindShift 9 = .ok (.aload_n 0, 1) := by decide +kernel
theorem dX6_behindShift_10 : decode cX6_behindShift 10 = .ok (.getfield 19, 3) := by decide +kernel
theorem dX6_behindShift_13 : decode cX6_behindShift 13 = .ok (.iload_n 2, 1) := by decide +kernel
theorem dX6_behindShift_14 : decode cX6_behindShift 14 = .ok (.invokevirtual 74, 3) := by decide +kernel
theorem dX6_behindShift_17 : decode cX6_behindShift 17 = .ok (.ireturn, 1) := by decide +kernel
theorem dX6_behindShift_18 : decode cX6_behindShift 18 = .ok (.aload_n 0, 1) := by decide +kernel
theorem dX6_behindShift_19 : decode cX6_behindShift 19 = .ok (.getfield 9, 3) := by decide +kernel
theorem dX6_behindShift_22 : decode cX6_behindShift 22 = .ok (.aload_n 0, 1) := by decide +kernel
theorem dX6_behindShift_23 : decode cX6_behindShift 23 = .ok (.getfield 19, 3) := by decide +kernel
theorem dX6_behindShift_26 : decode cX6_behindShift 26 = .ok (.aload_n 0, 1) := by decide +kernel
theorem dX6_behindShift_27 : decode cX6_behindShift 27 = .ok (.getfield 9, 3) := by decide +kernel
theorem dX6_behindShift_30 : decode cX6_behindShift 30 = .ok (.iload_n 1, 1) := by decide +kernel
theorem dX6_behindShift_31 : decode cX6_behindShift 31 = .ok (.aload_n 0, 1) := by decide +kernel
theorem dX6_behindShift_32 : decode cX6_behindShift 32 = .ok (.getfield 19, 3) := by decide +kernel
theorem dX6_behindShift_35 : decode cX6_behindShift 35 = .ok (.iload_n 2, 1) := by decide +kernel
theorem dX6_behindShift_36 : decode cX6_behindShift 36 = .ok (.aload_n 0, 1) := by decide +kernel
theorem dX6_behindShift_37 : decode cX6_behindShift 37 = .ok (.getfield 9, 3) := by decide +kernel
theorem dX6_behindShift_40 : decode cX6_behindShift 40 = .ok (.iload_n 1, 1) := by decide +kernel
theorem dX6_behindShift_41 : decode cX6_behindShift 41 = .ok (.bipush 6, 2) := by decide +kernel
theorem dX6_behindShift_43 : decode cX6_behindShift 43 = .ok (.invokevirtual 77, 3) := by decide +kernel
theorem dX6_behindShift_46 : decode cX6_behindShift 46 = .ok (.invokevirtual 80, 3) := by decide +kernel
theorem dX6_behindShift_49 : decode cX6_behindShift 49 = .ok (.invokevirtual 74, 3) := by decide +kernel
theorem dX6_behindShift_52 : decode cX6_behindShift 52 = .ok (.ireturn, 1) := by decide +kernel
theorem dX7_takesDesk_0 : decode cX7_takesDesk 0 = .ok (.aload_n 0, 1) := by decide +kernel
theorem dX7_takesDesk_1 : decode cX7_takesDesk 1 = .ok (.iload_n 1, 1) := by decide +kernel
theorem dX7_takesDesk_2 : decode cX7_takesDesk 2 = .ok (.ifCond .ge 7, 3) := by decide +kernel
theorem dX7_takesDesk_5 : decode cX7_takesDesk 5 = .ok (.iconst (-1), 1) := by decide +kernel
theorem dX7_takesDesk_6 : decode cX7_takesDesk 6 = .ok (.goto 5, 3) := by decide +kernel
theorem dX7_takesDesk_9 : decode cX7_takesDesk 9 = .ok (.bipush (-2), 2) := by decide +kernel
theorem dX7_takesDesk_11 : decode cX7_takesDesk 11 = .ok (.putfield 15, 3) := by decide +kernel
theorem dX7_takesDesk_14 : decode cX7_takesDesk 14 = .ok (.aload_n 0, 1) := by decide +kernel
theorem dX7_takesDesk_15 : decode cX7_takesDesk 15 = .ok (.iload_n 1, 1) := by decide +kernel
theorem dX7_takesDesk_16 : decode cX7_takesDesk 16 = .ok (.putfield 19, 3) := by decide +kernel
theorem dX7_takesDesk_19 : decode cX7_takesDesk 19 = .ok (.return_, 1) := by decide +kernel
theorem dX7_takesRow_0 : decode cX7_takesRow 0 = .ok (.aload_n 0, 1) := by decide +kernel
theorem dX7_takesRow_1 : decode cX7_takesRow 1 = .ok (.iload_n 1, 1) := by decide +kernel
theorem dX7_takesRow_2 : decode cX7_takesRow 2 = .ok (.putfield 15, 3) := by decide +kernel
theorem dX7_takesRow_5 : decode cX7_takesRow 5 = .ok (.aload_n 0, 1) := by decide +kernel
theorem dX7_takesRow_6 : decode cX7_takesRow 6 = .ok (.iload_n 2, 1) := by decide +kernel
theorem dX7_takesRow_7 : decode cX7_takesRow 7 = .ok (.putfield 22, 3) := by decide +kernel
theorem dX7_takesRow_10 : decode cX7_takesRow 10 = .ok (.iconst 0, 1) := by decide +kernel
theorem dX7_takesRow_11 : decode cX7_takesRow 11 = .ok (.istore_n 3, 1) := by decide +kernel
theorem dX7_takesRow_12 : decode cX7_takesRow 12 = .ok (.iload_n 3, 1) := by decide +kernel
theorem dX7_takesRow_13 : decode cX7_takesRow 13 = .ok (.iload_n 2, 1) := by decide +kernel
theorem dX7_takesRow_14 : decode cX7_takesRow 14 = .ok (.if_icmp .ge 16, 3) := by decide +kernel
theorem dX7_takesRow_17 : decode cX7_takesRow 17 = .ok (.aload_n 0, 1) := by decide +kernel
theorem dX7_takesRow_18 : decode cX7_takesRow 18 = .ok (.getfield 9, 3) := by decide +kernel
theorem dX7_takesRow_21 : decode cX7_takesRow 21 = .ok (.iload_n 3, 1) := by decide +kernel
theorem dX7_takesRow_22 : decode cX7_takesRow 22 = .ok (.lconst 0, 1) := by decide +kernel
theorem dX7_takesRow_23 : decode cX7_takesRow 23 = .ok (.lastore, 1) := by decide +kernel
theorem dX7_takesRow_24 : decode cX7_takesRow 24 = .ok (.iinc 3 1, 3) := by decide +kernel
theorem dX7_takesRow_27 : decode cX7_takesRow 27 = .ok (.goto (-15), 3) := by decide +kernel
theorem dX7_takesRow_30 : decode cX7_takesRow 30 = .ok (.return_, 1) := by decide +kernel
theorem dX7_isRow_0 : decode cX7_isRow 0 = .ok (.aload_n 0, 1) := by decide +kernel
theorem dX7_isRow_1 : decode cX7_isRow 1 = .ok (.getfield 15, 3) := by decide +kernel
theorem dX7_isRow_4 : decode cX7_isRow 4 = .ok (.ifCond .lt 7, 3) := by decide +kernel
theorem dX7_isRow_7 : decode cX7_isRow 7 = .ok (.iconst 1, 1) := by decide +kernel
theorem dX7_isRow_8 : decode cX7_isRow 8 = .ok (.goto 4, 3) := by decide +kernel
theorem dX7_isRow_11 : decode cX7_isRow 11 = .ok (.iconst 0, 1) := by decide +kernel
theorem dX7_isRow_12 : decode cX7_isRow 12 = .ok (.ireturn, 1) := by decide +kernel
theorem dX7_hasPlaces_0 : decode cX7_hasPlaces 0 = .ok (.iload_n 1, 1) := by decide +kernel
theorem dX7_hasPlaces_1 : decode cX7_hasPlaces 1 = .ok (.ifCond .lt 29, 3) := by decide +kernel
theorem dX7_hasPlaces_4 : decode cX7_hasPlaces 4 = .ok (.iload_n 2, 1) := by decide +kernel
theorem dX7_hasPlaces_5 : decode cX7_hasPlaces 5 = .ok (.ifCond .lt 25, 3) := by decide +kernel
theorem dX7_hasPlaces_8 : decode cX7_hasPlaces 8 = .ok (.iload_n 1, 1) := by decide +kernel
theorem dX7_hasPlaces_9 : decode cX7_hasPlaces 9 = .ok (.aload_n 0, 1) := by decide +kernel
theorem dX7_hasPlaces_10 : decode cX7_hasPlaces 10 = .ok (.getfield 22, 3) := by decide +kernel
theorem dX7_hasPlaces_13 : decode cX7_hasPlaces 13 = .ok (.if_icmp .gt 17, 3) := by decide +kernel
theorem dX7_hasPlaces_16 : decode cX7_hasPlaces 16 = .ok (.iload_n 2, 1) := by decide +kernel
theorem dX7_hasPlaces_17 : decode cX7_hasPlaces 17 = .ok (.aload_n 0, 1) := by decide +kernel
theorem dX7_hasPlaces_18 : decode cX7_hasPlaces 18 = .ok (.getfield 22, 3) := by decide +kernel
theorem dX7_hasPlaces_21 : decode cX7_hasPlaces 21 = .ok (.iload_n 1, 1) := by decide +kernel
theorem dX7_hasPlaces_22 : decode cX7_hasPlaces 22 = .ok (.isub, 1) := by decide +kernel
theorem dX7_hasPlaces_23 : decode cX7_hasPlaces 23 = .ok (.if_icmp .gt 7, 3) := by decide +kernel
theorem dX7_hasPlaces_26 : decode cX7_hasPlaces 26 = .ok (.iconst 1, 1) := by decide +kernel
theorem dX7_hasPlaces_27 : decode cX7_hasPlaces 27 = .ok (.goto 4, 3) := by decide +kernel
theorem dX7_hasPlaces_30 : decode cX7_hasPlaces 30 = .ok (.iconst 0, 1) := by decide +kernel
theorem dX7_hasPlaces_31 : decode cX7_hasPlaces 31 = .ok (.ireturn, 1) := by decide +kernel
theorem dX7_cut_0 : decode cX7_cut 0 = .ok (.aload_n 0, 1) := by decide +kernel
theorem dX7_cut_1 : decode cX7_cut 1 = .ok (.getfield 15, 3) := by decide +kernel
theorem dX7_cut_4 : decode cX7_cut 4 = .ok (.tableswitch 62 0 4 #[36, 41, 46, 62, 50], 36) := by decide +kernel
theorem dX7_cut_40 : decode cX7_cut 40 = .ok (.lload_n 1, 1) := by decide +kernel
theorem dX7_cut_41 : decode cX7_cut 41 = .ok (.l2i, 1) := by decide +kernel
theorem dX7_cut_42 : decode cX7_cut 42 = .ok (.i2b, 1) := by decide +kernel
theorem dX7_cut_43 : decode cX7_cut 43 = .ok (.i2l, 1) := by decide +kernel
theorem dX7_cut_44 : decode cX7_cut 44 = .ok (.lreturn, 1) := by decide +kernel
theorem dX7_cut_45 : decode cX7_cut 45 = .ok (.lload_n 1, 1) := by decide +kernel
theorem dX7_cut_46 : decode cX7_cut 46 = .ok (.l2i, 1) := by decide +kernel
theorem dX7_cut_47 : decode cX7_cut 47 = .ok (.i2s, 1) := by decide +kernel
theorem dX7_cut_48 : decode cX7_cut 48 = .ok (.i2l, 1) := by decide +kernel
theorem dX7_cut_49 : decode cX7_cut 49 = .ok (.lreturn, 1) := by decide +kernel
theorem dX7_cut_50 : decode cX7_cut 50 = .ok (.lload_n 1, 1) := by decide +kernel
theorem dX7_cut_51 : decode cX7_cut 51 = .ok (.l2i, 1) := by decide +kernel
theorem dX7_cut_52 : decode cX7_cut 52 = .ok (.i2l, 1) := by decide +kernel
theorem dX7_cut_53 : decode cX7_cut 53 = .ok (.lreturn, 1) := by decide +kernel
theorem dX7_cut_54 : decode cX7_cut 54 = .ok (.lload_n 1, 1) := by decide +kernel
theorem dX7_cut_55 : decode cX7_cut 55 = .ok (.lconst 0, 1) := by decide +kernel
theorem dX7_cut_56 : decode cX7_cut 56 = .ok (.lcmp, 1) := by decide +kernel
theorem dX7_cut_57 : decode cX7_cut 57 = .ok (.ifCond .eq 7, 3) := by decide +kernel
theorem dX7_cut_60 : decode cX7_cut 60 = .ok (.lconst 1, 1) := by decide +kernel
theorem dX7_cut_61 : decode cX7_cut 61 = .ok (.goto 4, 3) := by decide +kernel
theorem dX7_cut_64 : decode cX7_cut 64 = .ok (.lconst 0, 1) := by decide +kernel
theorem dX7_cut_65 : decode cX7_cut 65 = .ok (.lreturn, 1) := by decide +kernel
theorem dX7_cut_66 : decode cX7_cut 66 = .ok (.lload_n 1, 1) := by decide +kernel
theorem dX7_cut_67 : decode cX7_cut 67 = .ok (.lreturn, 1) := by decide +kernel
theorem dX8_allLosses_0 : decode cX8_allLosses 0 = .ok (.iconst 0, 1) := by decide +kernel
theorem dX8_allLosses_1 : decode cX8_allLosses 1 = .ok (.istore_n 3, 1) := by decide +kernel
theorem dX8_allLosses_2 : decode cX8_allLosses 2 = .ok (.iconst 0, 1) := by decide +kernel
theorem dX8_allLosses_3 : decode cX8_allLosses 3 = .ok (.istore 4, 2) := by decide +kernel
theorem dX8_allLosses_5 : decode cX8_allLosses 5 = .ok (.iload 4, 2) := by decide +kernel
theorem dX8_allLosses_7 : decode cX8_allLosses 7 = .ok (.bipush 8, 2) := by decide +kernel
theorem dX8_allLosses_9 : decode cX8_allLosses 9 = .ok (.if_icmp .ge 47, 3) := by decide +kernel
theorem dX8_allLosses_12 : decode cX8_allLosses 12 = .ok (.aload_n 0, 1) := by decide +kernel
theorem dX8_allLosses_13 : decode cX8_allLosses 13 = .ok (.getfield 38, 3) := by decide +kernel
theorem dX8_allLosses_16 : decode cX8_allLosses 16 = .ok (.getfield 42, 3) := by decide +kernel
theorem dX8_allLosses_19 : decode cX8_allLosses 19 = .ok (.iload 4, 2) := by decide +kernel
theorem dX8_allLosses_21 : decode cX8_allLosses 21 = .ok (.iaload, 1) := by decide +kernel
theorem dX8_allLosses_22 : decode cX8_allLosses 22 = .ok (.ifCond .le 28, 3) := by decide +kernel
theorem dX8_allLosses_25 : decode cX8_allLosses 25 = .ok (.iload_n 3, 1) := by decide +kernel
theorem dX8_allLosses_26 : decode cX8_allLosses 26 = .ok (.aload_n 0, 1) := by decide +kernel
theorem dX8_allLosses_27 : decode cX8_allLosses 27 = .ok (.getfield 38, 3) := by decide +kernel
theorem dX8_allLosses_30 : decode cX8_allLosses 30 = .ok (.getfield 42, 3) := by decide +kernel
theorem dX8_allLosses_33 : decode cX8_allLosses 33 = .ok (.iload 4, 2) := by decide +kernel
theorem dX8_allLosses_35 : decode cX8_allLosses 35 = .ok (.iaload, 1) := by decide +kernel
theorem dX8_allLosses_36 : decode cX8_allLosses 36 = .ok (.aload_n 0, 1) := by decide +kernel
theorem dX8_allLosses_37 : decode cX8_allLosses 37 = .ok (.getfield 34, 3) := by decide +kernel
theorem dX8_allLosses_40 : decode cX8_allLosses 40 = .ok (.iload 4, 2) := by decide +kernel
theorem dX8_allLosses_42 : decode cX8_allLosses 42 = .ok (.iload_n 1, 1) := by decide +kernel
theorem dX8_allLosses_43 : decode cX8_allLosses 43 = .ok (.iload_n 2, 1) := by decide +kernel
theorem dX8_allLosses_44 : decode cX8_allLosses 44 = .ok (.invokevirtual 47, 3) := by decide +kernel
theorem dX8_allLosses_47 : decode cX8_allLosses 47 = .ok (.imul, 1) := by decide +kernel
theorem dX8_allLosses_48 : decode cX8_allLosses 48 = .ok (.iadd, 1) := by decide +kernel
theorem dX8_allLosses_49 : decode cX8_allLosses 49 = .ok (.istore_n 3, 1) := by decide +kernel
theorem dX8_allLosses_50 : decode cX8_allLosses 50 = .ok (.iinc 4 1, 3) := by decide +kernel
theorem dX8_allLosses_53 : decode cX8_allLosses 53 = .ok (.goto (-48), 3) := by decide +kernel
theorem dX8_allLosses_56 : decode cX8_allLosses 56 = .ok (.iload_n 3, 1) := by decide +kernel
theorem dX8_allLosses_57 : decode cX8_allLosses 57 = .ok (.ireturn, 1) := by decide +kernel
theorem dX8_worstLoss_0 : decode cX8_worstLoss 0 = .ok (.iconst 0, 1) := by decide +kernel
theorem dX8_worstLoss_1 : decode cX8_worstLoss 1 = .ok (.istore_n 3, 1) := by decide +kernel
theorem dX8_worstLoss_2 : decode cX8_worstLoss 2 = .ok (.iconst 0, 1) := by decide +kernel
theorem dX8_worstLoss_3 : decode cX8_worstLoss 3 = .ok (.istore 4, 2) := by decide +kernel
theorem dX8_worstLoss_5 : decode cX8_worstLoss 5 = .ok (.iload 4, 2) := by decide +kernel
theorem dX8_worstLoss_7 : decode cX8_worstLoss 7 = .ok (.bipush 8, 2) := by decide +kernel
theorem dX8_worstLoss_9 : decode cX8_worstLoss 9 = .ok (.if_icmp .ge 38, 3) := by decide +kernel
theorem dX8_worstLoss_12 : decode cX8_worstLoss 12 = .ok (.aload_n 0, 1) := by decide +kernel
theorem dX8_worstLoss_13 : decode cX8_worstLoss 13 = .ok (.getfield 38, 3) := by decide +kernel
theorem dX8_worstLoss_16 : decode cX8_worstLoss 16 = .ok (.getfield 42, 3) := by decide +kernel
theorem dX8_worstLoss_19 : decode cX8_worstLoss 19 = .ok (.iload 4, 2) := by decide +kernel
theorem dX8_worstLoss_21 : decode cX8_worstLoss 21 = .ok (.iaload, 1) := by decide +kernel
theorem dX8_worstLoss_22 : decode cX8_worstLoss 22 = .ok (.ifCond .le 19, 3) := by decide +kernel
theorem dX8_worstLoss_25 : decode cX8_worstLoss 25 = .ok (.iload_n 3, 1) := by decide +kernel
theorem dX8_worstLoss_26 : decode cX8_worstLoss 26 = .ok (.aload_n 0, 1) := by decide +kernel
theorem dX8_worstLoss_27 : decode cX8_worstLoss 27 = .ok (.getfield 34, 3) := by decide +kernel
theorem dX8_worstLoss_30 : decode cX8_worstLoss 30 = .ok (.iload 4, 2) := by decide +kernel
theorem dX8_worstLoss_32 : decode cX8_worstLoss 32 = .ok (.iload_n 1, 1) := by decide +kernel
theorem dX8_worstLoss_33 : decode cX8_worstLoss 33 = .ok (.iload_n 2, 1) := by decide +kernel
theorem dX8_worstLoss_34 : decode cX8_worstLoss 34 = .ok (.invokevirtual 47, 3) := by decide +kernel
theorem dX8_worstLoss_37 : decode cX8_worstLoss 37 = .ok (.invokestatic 53, 3) := by decide +kernel
theorem dX8_worstLoss_40 : decode cX8_worstLoss 40 = .ok (.istore_n 3, 1) := by decide +kernel
theorem dX8_worstLoss_41 : decode cX8_worstLoss 41 = .ok (.iinc 4 1, 3) := by decide +kernel
theorem dX8_worstLoss_44 : decode cX8_worstLoss 44 = .ok (.goto (-39), 3) := by decide +kernel
theorem dX8_worstLoss_47 : decode cX8_worstLoss 47 = .ok (.iload_n 3, 1) := by decide +kernel
theorem dX8_worstLoss_48 : decode cX8_worstLoss 48 = .ok (.ireturn, 1) := by decide +kernel
theorem dX8_bestOf_0 : decode cX8_bestOf 0 = .ok (.iconst 0, 1) := by decide +kernel
theorem dX8_bestOf_1 : decode cX8_bestOf 1 = .ok (.istore_n 3, 1) := by decide +kernel
theorem dX8_bestOf_2 : decode cX8_bestOf 2 = .ok (.iconst 0, 1) := by decide +kernel
theorem dX8_bestOf_3 : decode cX8_bestOf 3 = .ok (.istore 4, 2) := by decide +kernel
theorem dX8_bestOf_5 : decode cX8_bestOf 5 = .ok (.iconst 0, 1) := by decide +kernel
theorem dX8_bestOf_6 : decode cX8_bestOf 6 = .ok (.istore 5, 2) := by decide +kernel
theorem dX8_bestOf_8 : decode cX8_bestOf 8 = .ok (.iload 5, 2) := by decide +kernel
theorem dX8_bestOf_10 : decode cX8_bestOf 10 = .ok (.bipush 60, 2) := by decide +kernel
theorem dX8_bestOf_12 : decode cX8_bestOf 12 = .ok (.if_icmp .gt 52, 3) := by decide +kernel
theorem dX8_bestOf_15 : decode cX8_bestOf 15 = .ok (.iload_n 2, 1) := by decide +kernel
theorem dX8_bestOf_16 : decode cX8_bestOf 16 = .ok (.iconst 2, 1) := by decide +kernel
theorem dX8_bestOf_17 : decode cX8_bestOf 17 = .ok (.if_icmp .ge 13, 3) := by decide +kernel
theorem dX8_bestOf_20 : decode cX8_bestOf 20 = .ok (.aload_n 0, 1) := by decide +kernel
theorem dX8_bestOf_21 : decode cX8_bestOf 21 = .ok (.iload_n 1, 1) := by decide +kernel
theorem dX8_bestOf_22 : decode cX8_bestOf 22 = .ok (.iload 5, 2) := by decide +kernel
theorem dX8_bestOf_24 : decode cX8_bestOf 24 = .ok (.invokevirtual 59, 3) := by decide +kernel
theorem dX8_bestOf_27 : decode cX8_bestOf 27 = .ok (.goto 10, 3) := by decide +kernel
theorem dX8_bestOf_30 : decode cX8_bestOf 30 = .ok (.aload_n 0, 1) := by decide +kernel
theorem dX8_bestOf_31 : decode cX8_bestOf 31 = .ok (.iload_n 1, 1) := by decide +kernel
theorem dX8_bestOf_32 : decode cX8_bestOf 32 = .ok (.iload 5, 2) := by decide +kernel
theorem dX8_bestOf_34 : decode cX8_bestOf 34 = .ok (.invokevirtual 62, 3) := by decide +kernel
theorem dX8_bestOf_37 : decode cX8_bestOf 37 = .ok (.istore 6, 2) := by decide +kernel
theorem dX8_bestOf_39 : decode cX8_bestOf 39 = .ok (.iload 5, 2) := by decide +kernel
theorem dX8_bestOf_41 : decode cX8_bestOf 41 = .ok (.ifCond .eq 10, 3) := by decide +kernel
theorem dX8_bestOf_44 : decode cX8_bestOf 44 = .ok (.iload 6, 2) := by decide +kernel
theorem dX8_bestOf_46 : decode cX8_bestOf 46 = .ok (.iload 4, 2) := by decide +kernel
theorem dX8_bestOf_48 : decode cX8_bestOf 48 = .ok (.if_icmp .ge 10, 3) := by decide +kernel
theorem dX8_bestOf_51 : decode cX8_bestOf 51 = .ok (.iload 5, 2) := by decide +kernel
theorem dX8_bestOf_53 : decode cX8_bestOf 53 = .ok (.istore_n 3, 1) := by decide +kernel
theorem dX8_bestOf_54 : decode cX8_bestOf 54 = .ok (.iload 6, 2) := by decide +kernel
theorem dX8_bestOf_56 : decode cX8_bestOf 56 = .ok (.istore 4, 2) := by decide +kernel
theorem dX8_bestOf_58 : decode cX8_bestOf 58 = .ok (.iinc 5 1, 3) := by decide +kernel
theorem dX8_bestOf_61 : decode cX8_bestOf 61 = .ok (.goto (-53), 3) := by decide +kernel
theorem dX8_bestOf_64 : decode cX8_bestOf 64 = .ok (.iload_n 2, 1) := by decide +kernel
theorem dX8_bestOf_65 : decode cX8_bestOf 65 = .ok (.iconst 2, 1) := by decide +kernel
theorem dX8_bestOf_66 : decode cX8_bestOf 66 = .ok (.irem, 1) := by decide +kernel
theorem dX8_bestOf_67 : decode cX8_bestOf 67 = .ok (.ifCond .ne 7, 3) := by decide +kernel
theorem dX8_bestOf_70 : decode cX8_bestOf 70 = .ok (.iload_n 3, 1) := by decide +kernel
theorem dX8_bestOf_71 : decode cX8_bestOf 71 = .ok (.goto 5, 3) := by decide +kernel
theorem dX8_bestOf_74 : decode cX8_bestOf 74 = .ok (.iload 4, 2) := by decide +kernel
theorem dX8_bestOf_76 : decode cX8_bestOf 76 = .ok (.ireturn, 1) := by decide +kernel
theorem dX8_middleWant_0 : decode cX8_middleWant 0 = .ok (.aload_n 0, 1) := by decide +kernel
theorem dX8_middleWant_1 : decode cX8_middleWant 1 = .ok (.iload_n 1, 1) := by decide +kernel
theorem dX8_middleWant_2 : decode cX8_middleWant 2 = .ok (.invokevirtual 65, 3) := by decide +kernel
theorem dX8_middleWant_5 : decode cX8_middleWant 5 = .ok (.istore_n 2, 1) := by decide +kernel
theorem dX8_middleWant_6 : decode cX8_middleWant 6 = .ok (.iconst 0, 1) := by decide +kernel
theorem dX8_middleWant_7 : decode cX8_middleWant 7 = .ok (.istore_n 3, 1) := by decide +kernel
theorem dX8_middleWant_8 : decode cX8_middleWant 8 = .ok (.iconst 0, 1) := by decide +kernel
theorem dX8_middleWant_9 : decode cX8_middleWant 9 = .ok (.istore 4, 2) := by decide +kernel
theorem dX8_middleWant_11 : decode cX8_middleWant 11 = .ok (.iload 4, 2) := by decide +kernel
theorem dX8_middleWant_13 : decode cX8_middleWant 13 = .ok (.bipush 60, 2) := by decide +kernel
theorem dX8_middleWant_15 : decode cX8_middleWant 15 = .ok (.if_icmp .gt 39, 3) := by decide +kernel
theorem dX8_middleWant_18 : decode cX8_middleWant 18 = .ok (.iload_n 3, 1) := by decide +kernel
theorem dX8_middleWant_19 : decode cX8_middleWant 19 = .ok (.aload_n 0, 1) := by decide +kernel
theorem dX8_middleWant_20 : decode cX8_middleWant 20 = .ok (.getfield 9, 3) := by decide +kernel
theorem dX8_middleWant_23 : decode cX8_middleWant 23 = .ok (.iload 4, 2) := by decide +kernel
theorem dX8_middleWant_25 : decode cX8_middleWant 25 = .ok (.iaload, 1) := by decide +kernel
theorem dX8_middleWant_26 : decode cX8_middleWant 26 = .ok (.iadd, 1) := by decide +kernel
theorem dX8_middleWant_27 : decode cX8_middleWant 27 = .ok (.istore_n 3, 1) := by decide +kernel
theorem dX8_middleWant_28 : decode cX8_middleWant 28 = .ok (.aload_n 0, 1) := by decide +kernel
theorem dX8_middleWant_29 : decode cX8_middleWant 29 = .ok (.getfield 15, 3) := by decide +kernel
theorem dX8_middleWant_32 : decode cX8_middleWant 32 = .ok (.iload 4, 2) := by decide +kernel
theorem dX8_middleWant_34 : decode cX8_middleWant 34 = .ok (.baload, 1) := by decide +kernel
theorem dX8_middleWant_35 : decode cX8_middleWant 35 = .ok (.ifCond .eq 13, 3) := by decide +kernel
theorem dX8_middleWant_38 : decode cX8_middleWant 38 = .ok (.iload_n 3, 1) := by decide +kernel
theorem dX8_middleWant_39 : decode cX8_middleWant 39 = .ok (.iconst 2, 1) := by decide +kernel
theorem dX8_middleWant_40 : decode cX8_middleWant 40 = .ok (.imul, 1) := by decide +kernel
theorem dX8_middleWant_41 : decode cX8_middleWant 41 = .ok (.iload_n 2, 1) := by decide +kernel
theorem dX8_middleWant_42 : decode cX8_middleWant 42 = .ok (.if_icmp .lt 6, 3) := by decide +kernel
theorem dX8_middleWant_45 : decode cX8_middleWant 45 = .ok (.iload 4, 2) := by decide +kernel
theorem dX8_middleWant_47 : decode cX8_middleWant 47 = .ok (.ireturn, 1) := by decide +kernel
theorem dX8_middleWant_48 : decode cX8_middleWant 48 = .ok (.iinc 4 1, 3) := by decide +kernel
theorem dX8_middleWant_51 : decode cX8_middleWant 51 = .ok (.goto (-40), 3) := by decide +kernel
theorem dX8_middleWant_54 : decode cX8_middleWant 54 = .ok (.bipush (-2), 2) := by decide +kernel
theorem dX8_middleWant_56 : decode cX8_middleWant 56 = .ok (.ireturn, 1) := by decide +kernel
theorem dX8_weighWants_0 : decode cX8_weighWants 0 = .ok (.iconst 0, 1) := by decide +kernel
theorem dX8_weighWants_1 : decode cX8_weighWants 1 = .ok (.istore_n 2, 1) := by decide +kernel
theorem dX8_weighWants_2 : decode cX8_weighWants 2 = .ok (.iconst 0, 1) := by decide +kernel
theorem dX8_weighWants_3 : decode cX8_weighWants 3 = .ok (.istore_n 3, 1) := by decide +kernel
theorem dX8_weighWants_4 : decode cX8_weighWants 4 = .ok (.iload_n 3, 1) := by decide +kernel
theorem dX8_weighWants_5 : decode cX8_weighWants 5 = .ok (.bipush 60, 2) := by decide +kernel
theorem dX8_weighWants_7 : decode cX8_weighWants 7 = .ok (.if_icmp .gt 23, 3) := by decide +kernel
theorem dX8_weighWants_10 : decode cX8_weighWants 10 = .ok (.aload_n 0, 1) := by decide +kernel
theorem dX8_weighWants_11 : decode cX8_weighWants 11 = .ok (.getfield 9, 3) := by decide +kernel
theorem dX8_weighWants_14 : decode cX8_weighWants 14 = .ok (.iload_n 3, 1) := by decide +kernel
theorem dX8_weighWants_15 : decode cX8_weighWants 15 = .ok (.iconst 0, 1) := by decide +kernel
theorem dX8_weighWants_16 : decode cX8_weighWants 16 = .ok (.iastore, 1) := by decide +kernel
theorem dX8_weighWants_17 : decode cX8_weighWants 17 = .ok (.aload_n 0, 1) := by decide +kernel
theorem dX8_weighWants_18 : decode cX8_weighWants 18 = .ok (.getfield 15, 3) := by decide +kernel
theorem dX8_weighWants_21 : decode cX8_weighWants 21 = .ok (.iload_n 3, 1) := by decide +kernel
theorem dX8_weighWants_22 : decode cX8_weighWants 22 = .ok (.iconst 0, 1) := by decide +kernel
theorem dX8_weighWants_23 : decode cX8_weighWants 23 = .ok (.bastore, 1) := by decide +kernel
theorem dX8_weighWants_24 : decode cX8_weighWants 24 = .ok (.iinc 3 1, 3) := by decide +kernel
theorem dX8_weighWants_27 : decode cX8_weighWants 27 = .ok (.goto (-23), 3) := by decide +kernel
theorem dX8_weighWants_30 : decode cX8_weighWants 30 = .ok (.iconst 0, 1) := by decide +kernel
theorem dX8_weighWants_31 : decode cX8_weighWants 31 = .ok (.istore_n 3, 1) := by decide +kernel
theorem dX8_weighWants_32 : decode cX8_weighWants 32 = .ok (.iload_n 3, 1) := by decide +kernel
theorem dX8_weighWants_33 : decode cX8_weighWants 33 = .ok (.bipush 8, 2) := by decide +kernel
theorem dX8_weighWants_35 : decode cX8_weighWants 35 = .ok (.if_icmp .ge 102, 3) := by decide +kernel
theorem dX8_weighWants_38 : decode cX8_weighWants 38 = .ok (.aload_n 0, 1) := by decide +kernel
theorem dX8_weighWants_39 : decode cX8_weighWants 39 = .ok (.getfield 38, 3) := by decide +kernel
theorem dX8_weighWants_42 : decode cX8_weighWants 42 = .ok (.getfield 42, 3) := by decide +kernel
theorem dX8_weighWants_45 : decode cX8_weighWants 45 = .ok (.iload_n 3, 1) := by decide +kernel
theorem dX8_weighWants_46 : decode cX8_weighWants 46 = .ok (.iaload, 1) := by decide +kernel
theorem dX8_weighWants_47 : decode cX8_weighWants 47 = .ok (.ifCond .le 84, 3) := by decide +kernel
theorem dX8_weighWants_50 : decode cX8_weighWants 50 = .ok (.aload_n 0, 1) := by decide +kernel
theorem dX8_weighWants_51 : decode cX8_weighWants 51 = .ok (.getfield 34, 3) := by decide +kernel
theorem dX8_weighWants_54 : decode cX8_weighWants 54 = .ok (.iload_n 3, 1) := by decide +kernel
theorem dX8_weighWants_55 : decode cX8_weighWants 55 = .ok (.iconst 3, 1) := by decide +kernel
theorem dX8_weighWants_56 : decode cX8_weighWants 56 = .ok (.invokevirtual 69, 3) := by decide +kernel
theorem dX8_weighWants_59 : decode cX8_weighWants 59 = .ok (.aload_n 0, 1) := by decide +kernel
theorem dX8_weighWants_60 : decode cX8_weighWants 60 = .ok (.getfield 34, 3) := by decide +kernel
theorem dX8_weighWants_63 : decode cX8_weighWants 63 = .ok (.iload_n 3, 1) := by decide +kernel
theorem dX8_weighWants_64 : decode cX8_weighWants 64 = .ok (.iconst 4, 1) := by decide +kernel
theorem dX8_weighWants_65 : decode cX8_weighWants 65 = .ok (.invokevirtual 69, 3) := by decide +kernel
theorem dX8_weighWants_68 : decode cX8_weighWants 68 = .ok (.iadd, 1) := by decide +kernel
theorem dX8_weighWants_69 : decode cX8_weighWants 69 = .ok (.istore 4, 2) := by decide +kernel
theorem dX8_weighWants_71 : decode cX8_weighWants 71 = .ok (.aload_n 0, 1) := by decide +kernel
theorem dX8_weighWants_72 : decode cX8_weighWants 72 = .ok (.getfield 38, 3) := by decide +kernel
theorem dX8_weighWants_75 : decode cX8_weighWants 75 = .ok (.getfield 42, 3) := by decide +kernel
theorem dX8_weighWants_78 : decode cX8_weighWants 78 = .ok (.iload_n 3, 1) := by decide +kernel
theorem dX8_weighWants_79 : decode cX8_weighWants 79 = .ok (.iaload, 1) := by decide +kernel
theorem dX8_weighWants_80 : decode cX8_weighWants 80 = .ok (.aload_n 0, 1) := by decide +kernel
theorem dX8_weighWants_81 : decode cX8_weighWants 81 = .ok (.getfield 34, 3) := by decide +kernel
theorem dX8_weighWants_84 : decode cX8_weighWants 84 = .ok (.iload_n 3, 1) := by decide +kernel
theorem dX8_weighWants_85 : decode cX8_weighWants 85 = .ok (.iconst 5, 1) := by decide +kernel
theorem dX8_weighWants_86 : decode cX8_weighWants 86 = .ok (.invokevirtual 69, 3) := by decide +kernel
theorem dX8_weighWants_89 : decode cX8_weighWants 89 = .ok (.imul, 1) := by decide +kernel
theorem dX8_weighWants_90 : decode cX8_weighWants 90 = .ok (.iload 4, 2) := by decide +kernel
theorem dX8_weighWants_92 : decode cX8_weighWants 92 = .ok (.imul, 1) := by decide +kernel
theorem dX8_weighWants_93 : decode cX8_weighWants 93 = .ok (.istore 5, 2) := by decide +kernel
theorem dX8_weighWants_95 : decode cX8_weighWants 95 = .ok (.aload_n 0, 1) := by decide +kernel
theorem dX8_weighWants_96 : decode cX8_weighWants 96 = .ok (.getfield 34, 3) := by decide +kernel
theorem dX8_weighWants_99 : decode cX8_weighWants 99 = .ok (.iload_n 3, 1) := by decide +kernel
theorem dX8_weighWants_100 : decode cX8_weighWants 100 = .ok (.iload_n 1, 1) := by decide +kernel
theorem dX8_weighWants_101 : decode cX8_weighWants 101 = .ok (.invokevirtual 69, 3) := by decide +kernel
theorem dX8_weighWants_104 : decode cX8_weighWants 104 = .ok (.istore 6, 2) := by decide +kernel
theorem dX8_weighWants_106 : decode cX8_weighWants 106 = .ok (.aload_n 0, 1) := by decide +kernel
theorem dX8_weighWants_107 : decode cX8_weighWants 107 = .ok (.getfield 9, 3) := by decide +kernel
theorem dX8_weighWants_110 : decode cX8_weighWants 110 = .ok (.iload 6, 2) := by decide +kernel
theorem dX8_weighWants_112 : decode cX8_weighWants 112 = .ok (.dup2, 1) := by decide +kernel
theorem dX8_weighWants_113 : decode cX8_weighWants 113 = .ok (.iaload, 1) := by decide +kernel
theorem dX8_weighWants_114 : decode cX8_weighWants 114 = .ok (.iload 5, 2) := by decide +kernel
theorem dX8_weighWants_116 : decode cX8_weighWants 116 = .ok (.iadd, 1) := by decide +kernel
theorem dX8_weighWants_117 : decode cX8_weighWants 117 = .ok (.iastore, 1) := by decide +kernel
theorem dX8_weighWants_118 : decode cX8_weighWants 118 = .ok (.aload_n 0, 1) := by decide +kernel
theorem dX8_weighWants_119 : decode cX8_weighWants 119 = .ok (.getfield 15, 3) := by decide +kernel
theorem dX8_weighWants_122 : decode cX8_weighWants 122 = .ok (.iload 6, 2) := by decide +kernel
theorem dX8_weighWants_124 : decode cX8_weighWants 124 = .ok (.iconst 1, 1) := by decide +kernel
theorem dX8_weighWants_125 : decode cX8_weighWants 125 = .ok (.bastore, 1) := by decide +kernel
theorem dX8_weighWants_126 : decode cX8_weighWants 126 = .ok (.iload_n 2, 1) := by decide +kernel
theorem dX8_weighWants_127 : decode cX8_weighWants 127 = .ok (.iload 5, 2) := by decide +kernel
theorem dX8_weighWants_129 : decode cX8_weighWants 129 = .ok (.iadd, 1) := by decide +kernel
theorem dX8_weighWants_130 : decode cX8_weighWants 130 = .ok (.istore_n 2, 1) := by decide +kernel
theorem dX8_weighWants_131 : decode cX8_weighWants 131 = .ok (.iinc 3 1, 3) := by decide +kernel
theorem dX8_weighWants_134 : decode cX8_weighWants 134 = .ok (.goto (-102), 3) := by decide +kernel
theorem dX8_weighWants_137 : decode cX8_weighWants 137 = .ok (.iload_n 2, 1) := by decide +kernel
theorem dX8_weighWants_138 : decode cX8_weighWants 138 = .ok (.ireturn, 1) := by decide +kernel
theorem dX8_parted_0 : decode cX8_parted 0 = .ok (.aload_n 0, 1) := by decide +kernel
theorem dX8_parted_1 : decode cX8_parted 1 = .ok (.invokevirtual 72, 3) := by decide +kernel
theorem dX8_parted_4 : decode cX8_parted 4 = .ok (.aload_n 0, 1) := by decide +kernel
theorem dX8_parted_5 : decode cX8_parted 5 = .ok (.iload_n 1, 1) := by decide +kernel
theorem dX8_parted_6 : decode cX8_parted 6 = .ok (.invokevirtual 75, 3) := by decide +kernel
theorem dX8_parted_9 : decode cX8_parted 9 = .ok (.aload_n 0, 1) := by decide +kernel
theorem dX8_parted_10 : decode cX8_parted 10 = .ok (.iconst 0, 1) := by decide +kernel
theorem dX8_parted_11 : decode cX8_parted 11 = .ok (.putfield 79, 3) := by decide +kernel
theorem dX8_parted_14 : decode cX8_parted 14 = .ok (.aload_n 0, 1) := by decide +kernel
theorem dX8_parted_15 : decode cX8_parted 15 = .ok (.iload_n 2, 1) := by decide +kernel
theorem dX8_parted_16 : decode cX8_parted 16 = .ok (.putfield 83, 3) := by decide +kernel
theorem dX8_parted_19 : decode cX8_parted 19 = .ok (.aload_n 0, 1) := by decide +kernel
theorem dX8_parted_20 : decode cX8_parted 20 = .ok (.iconst 0, 1) := by decide +kernel
theorem dX8_parted_21 : decode cX8_parted 21 = .ok (.invokevirtual 87, 3) := by decide +kernel
theorem dX8_parted_24 : decode cX8_parted 24 = .ok (.iload_n 3, 1) := by decide +kernel
theorem dX8_parted_25 : decode cX8_parted 25 = .ok (.iconst (-1), 1) := by decide +kernel
theorem dX8_parted_26 : decode cX8_parted 26 = .ok (.if_icmp .ne 10, 3) := by decide +kernel
theorem dX8_parted_29 : decode cX8_parted 29 = .ok (.aload_n 0, 1) := by decide +kernel
theorem dX8_parted_30 : decode cX8_parted 30 = .ok (.getfield 90, 3) := by decide +kernel
theorem dX8_parted_33 : decode cX8_parted 33 = .ok (.goto 8, 3) := by decide +kernel
theorem dX8_parted_36 : decode cX8_parted 36 = .ok (.aload_n 0, 1) := by decide +kernel
theorem dX8_parted_37 : decode cX8_parted 37 = .ok (.iload_n 3, 1) := by decide +kernel
theorem dX8_parted_38 : decode cX8_parted 38 = .ok (.invokevirtual 93, 3) := by decide +kernel
theorem dX8_parted_41 : decode cX8_parted 41 = .ok (.ireturn, 1) := by decide +kernel
theorem dX8_gather_0 : decode cX8_gather 0 = .ok (.aload_n 0, 1) := by decide +kernel
theorem dX8_gather_1 : decode cX8_gather 1 = .ok (.iconst 0, 1) := by decide +kernel
theorem dX8_gather_2 : decode cX8_gather 2 = .ok (.putfield 96, 3) := by decide +kernel
theorem dX8_gather_5 : decode cX8_gather 5 = .ok (.iconst 0, 1) := by decide +kernel
theorem dX8_gather_6 : decode cX8_gather 6 = .ok (.istore_n 1, 1) := by decide +kernel
theorem dX8_gather_7 : decode cX8_gather 7 = .ok (.iload_n 1, 1) := by decide +kernel
theorem dX8_gather_8 : decode cX8_gather 8 = .ok (.bipush 8, 2) := by decide +kernel
theorem dX8_gather_10 : decode cX8_gather 10 = .ok (.if_icmp .ge 41, 3) := by decide +kernel
theorem dX8_gather_13 : decode cX8_gather 13 = .ok (.aload_n 0, 1) := by decide +kernel
theorem dX8_gather_14 : decode cX8_gather 14 = .ok (.getfield 38, 3) := by decide +kernel
theorem dX8_gather_17 : decode cX8_gather 17 = .ok (.getfield 42, 3) := by decide +kernel
theorem dX8_gather_20 : decode cX8_gather 20 = .ok (.iload_n 1, 1) := by decide +kernel
theorem dX8_gather_21 : decode cX8_gather 21 = .ok (.iaload, 1) := by decide +kernel
theorem dX8_gather_22 : decode cX8_gather 22 = .ok (.ifCond .le 23, 3) := by decide +kernel
theorem dX8_gather_25 : decode cX8_gather 25 = .ok (.aload_n 0, 1) := by decide +kernel
theorem dX8_gather_26 : decode cX8_gather 26 = .ok (.getfield 19, 3) := by decide +kernel
theorem dX8_gather_29 : decode cX8_gather 29 = .ok (.aload_n 0, 1) := by decide +kernel
theorem dX8_gather_30 : decode cX8_gather 30 = .ok (.getfield 96, 3) := by decide +kernel
theorem dX8_gather_33 : decode cX8_gather 33 = .ok (.iload_n 1, 1) := by decide +kernel
theorem dX8_gather_34 : decode cX8_gather 34 = .ok (.iastore, 1) := by decide +kernel
theorem dX8_gather_35 : decode cX8_gather 35 = .ok (.aload_n 0, 1) := by decide +kernel
theorem dX8_gather_36 : decode cX8_gather 36 = .ok (.dup, 1) := by decide +kernel
theorem dX8_gather_37 : decode cX8_gather 37 = .ok (.getfield 96, 3) := by decide +kernel
theorem dX8_gather_40 : decode cX8_gather 40 = .ok (.iconst 1, 1) := by decide +kernel
theorem dX8_gather_41 : decode cX8_gather 41 = .ok (.iadd, 1) := by decide +kernel
theorem dX8_gather_42 : decode cX8_gather 42 = .ok (.putfield 96, 3) := by decide +kernel
theorem dX8_gather_45 : decode cX8_gather 45 = .ok (.iinc 1 1, 3) := by decide +kernel
theorem dX8_gather_48 : decode cX8_gather 48 = .ok (.goto (-41), 3) := by decide +kernel
theorem dX8_gather_51 : decode cX8_gather 51 = .ok (.return_, 1) := by decide +kernel
theorem dX8_sumGroups_0 : decode cX8_sumGroups 0 = .ok (.iconst 0, 1) := by decide +kernel
theorem dX8_sumGroups_1 : decode cX8_sumGroups 1 = .ok (.istore_n 2, 1) := by decide +kernel
theorem dX8_sumGroups_2 : decode cX8_sumGroups 2 = .ok (.iload_n 2, 1) := by decide +kernel
theorem dX8_sumGroups_3 : decode cX8_sumGroups 3 = .ok (.bipush 60, 2) := by decide +kernel
theorem dX8_sumGroups_5 : decode cX8_sumGroups 5 = .ok (.if_icmp .gt 69, 3) := by decide +kernel
theorem dX8_sumGroups_8 : decode cX8_sumGroups 8 = .ok (.iconst 0, 1) := by decide +kernel
theorem dX8_sumGroups_9 : decode cX8_sumGroups 9 = .ok (.istore_n 3, 1) := by decide +kernel
theorem dX8_sumGroups_10 : decode cX8_sumGroups 10 = .ok (.iload_n 3, 1) := by decide +kernel
theorem dX8_sumGroups_11 : decode cX8_sumGroups 11 = .ok (.aload_n 0, 1) := by decide +kernel
theorem dX8_sumGroups_12 : decode cX8_sumGroups 12 = .ok (.getfield 96, 3) := by decide +kernel
theorem dX8_sumGroups_15 : decode cX8_sumGroups 15 = .ok (.if_icmp .ge 53, 3) := by decide +kernel
theorem dX8_sumGroups_18 : decode cX8_sumGroups 18 = .ok (.aload_n 0, 1) := by decide +kernel
theorem dX8_sumGroups_19 : decode cX8_sumGroups 19 = .ok (.iload_n 3, 1) := by decide +kernel
theorem dX8_sumGroups_20 : decode cX8_sumGroups 20 = .ok (.aload_n 0, 1) := by decide +kernel
theorem dX8_sumGroups_21 : decode cX8_sumGroups 21 = .ok (.getfield 38, 3) := by decide +kernel
theorem dX8_sumGroups_24 : decode cX8_sumGroups 24 = .ok (.getfield 42, 3) := by decide +kernel
theorem dX8_sumGroups_27 : decode cX8_sumGroups 27 = .ok (.aload_n 0, 1) := by decide +kernel
theorem dX8_sumGroups_28 : decode cX8_sumGroups 28 = .ok (.getfield 19, 3) := by decide +kernel
theorem dX8_sumGroups_31 : decode cX8_sumGroups 31 = .ok (.iload_n 3, 1) := by decide +kernel
theorem dX8_sumGroups_32 : decode cX8_sumGroups 32 = .ok (.iaload, 1) := by decide +kernel
theorem dX8_sumGroups_33 : decode cX8_sumGroups 33 = .ok (.iaload, 1) := by decide +kernel
theorem dX8_sumGroups_34 : decode cX8_sumGroups 34 = .ok (.aload_n 0, 1) := by decide +kernel
theorem dX8_sumGroups_35 : decode cX8_sumGroups 35 = .ok (.getfield 34, 3) := by decide +kernel
theorem dX8_sumGroups_38 : decode cX8_sumGroups 38 = .ok (.aload_n 0, 1) := by decide +kernel
theorem dX8_sumGroups_39 : decode cX8_sumGroups 39 = .ok (.getfield 19, 3) := by decide +kernel
theorem dX8_sumGroups_42 : decode cX8_sumGroups 42 = .ok (.iload_n 3, 1) := by decide +kernel
theorem dX8_sumGroups_43 : decode cX8_sumGroups 43 = .ok (.iaload, 1) := by decide +kernel
theorem dX8_sumGroups_44 : decode cX8_sumGroups 44 = .ok (.iload_n 1, 1) := by decide +kernel
theorem dX8_sumGroups_45 : decode cX8_sumGroups 45 = .ok (.iload_n 2, 1) := by decide +kernel
theorem dX8_sumGroups_46 : decode cX8_sumGroups 46 = .ok (.invokevirtual 47, 3) := by decide +kernel
theorem dX8_sumGroups_49 : decode cX8_sumGroups 49 = .ok (.imul, 1) := by decide +kernel
theorem dX8_sumGroups_50 : decode cX8_sumGroups 50 = .ok (.iload_n 2, 1) := by decide +kernel
theorem dX8_sumGroups_51 : decode cX8_sumGroups 51 = .ok (.ifCond .ne 7, 3) := by decide +kernel
theorem dX8_sumGroups_54 : decode cX8_sumGroups 54 = .ok (.iconst 1, 1) := by decide +kernel
theorem dX8_sumGroups_55 : decode cX8_sumGroups 55 = .ok (.goto 4, 3) := by decide +kernel
theorem dX8_sumGroups_58 : decode cX8_sumGroups 58 = .ok (.iconst 0, 1) := by decide +kernel
theorem dX8_sumGroups_59 : decode cX8_sumGroups 59 = .ok (.invokevirtual 99, 3) := by decide +kernel
theorem dX8_sumGroups_62 : decode cX8_sumGroups 62 = .ok (.iinc 3 1, 3) := by decide +kernel
theorem dX8_sumGroups_65 : decode cX8_sumGroups 65 = .ok (.goto (-55), 3) := by decide +kernel
theorem dX8_sumGroups_68 : decode cX8_sumGroups 68 = .ok (.iinc 2 1, 3) := by decide +kernel
theorem dX8_sumGroups_71 : decode cX8_sumGroups 71 = .ok (.goto (-69), 3) := by decide +kernel
theorem dX8_sumGroups_74 : decode cX8_sumGroups 74 = .ok (.return_, 1) := by decide +kernel
theorem dX8_sumGroupsUpTo_0 : decode cX8_sumGroupsUpTo 0 = .ok (.iconst 1, 1) := by decide +kernel
theorem dX8_sumGroupsUpTo_1 : decode cX8_sumGroupsUpTo 1 = .ok (.iload_n 1, 1) := by decide +kernel
theorem dX8_sumGroupsUpTo_2 : decode cX8_sumGroupsUpTo 2 = .ok (.ishl, 1) := by decide +kernel
theorem dX8_sumGroupsUpTo_3 : decode cX8_sumGroupsUpTo 3 = .ok (.istore 4, 2) := by decide +kernel
theorem dX8_sumGroupsUpTo_5 : decode cX8_sumGroupsUpTo 5 = .ok (.iload 4, 2) := by decide +kernel
theorem dX8_sumGroupsUpTo_7 : decode cX8_sumGroupsUpTo 7 = .ok (.iconst 2, 1) := by decide +kernel
theorem dX8_sumGroupsUpTo_8 : decode cX8_sumGroupsUpTo 8 = .ok (.iload_n 1, 1) := by decide +kernel
theorem dX8_sumGroupsUpTo_9 : decode cX8_sumGroupsUpTo 9 = .ok (.ishl, 1) := by decide +kernel
theorem dX8_sumGroupsUpTo_10 : decode cX8_sumGroupsUpTo 10 = .ok (.if_icmp .ge 67, 3) := by decide +kernel
theorem dX8_sumGroupsUpTo_13 : decode cX8_sumGroupsUpTo 13 = .ok (.aload_n 0, 1) := by decide +kernel
theorem dX8_sumGroupsUpTo_14 : decode cX8_sumGroupsUpTo 14 = .ok (.getfield 22, 3) := by decide +kernel
theorem dX8_sumGroupsUpTo_17 : decode cX8_sumGroupsUpTo 17 = .ok (.iload 4, 2) := by decide +kernel
theorem dX8_sumGroupsUpTo_19 : decode cX8_sumGroupsUpTo 19 = .ok (.aload_n 0, 1) := by decide +kernel
theorem dX8_sumGroupsUpTo_20 : decode cX8_sumGroupsUpTo 20 = .ok (.getfield 22, 3) := by decide +kernel
theorem dX8_sumGroupsUpTo_23 : decode cX8_sumGroupsUpTo 23 = .ok (.iload 4, 2) := by decide +kernel
theorem dX8_sumGroupsUpTo_25 : decode cX8_sumGroupsUpTo 25 = .ok (.iconst 1, 1) := by decide +kernel
theorem dX8_sumGroupsUpTo_26 : decode cX8_sumGroupsUpTo 26 = .ok (.iload_n 1, 1) := by decide +kernel
theorem dX8_sumGroupsUpTo_27 : decode cX8_sumGroupsUpTo 27 = .ok (.ishl, 1) := by decide +kernel
theorem dX8_sumGroupsUpTo_28 : decode cX8_sumGroupsUpTo 28 = .ok (.isub, 1) := by decide +kernel
theorem dX8_sumGroupsUpTo_29 : decode cX8_sumGroupsUpTo 29 = .ok (.iaload, 1) := by decide +kernel
theorem dX8_sumGroupsUpTo_30 : decode cX8_sumGroupsUpTo 30 = .ok (.iload_n 2, 1) := by decide +kernel
theorem dX8_sumGroupsUpTo_31 : decode cX8_sumGroupsUpTo 31 = .ok (.iadd, 1) := by decide +kernel
theorem dX8_sumGroupsUpTo_32 : decode cX8_sumGroupsUpTo 32 = .ok (.iastore, 1) := by decide +kernel
theorem dX8_sumGroupsUpTo_33 : decode cX8_sumGroupsUpTo 33 = .ok (.aload_n 0, 1) := by decide +kernel
theorem dX8_sumGroupsUpTo_34 : decode cX8_sumGroupsUpTo 34 = .ok (.getfield 25, 3) := by decide +kernel
theorem dX8_sumGroupsUpTo_37 : decode cX8_sumGroupsUpTo 37 = .ok (.iload 4, 2) := by decide +kernel
theorem dX8_sumGroupsUpTo_39 : decode cX8_sumGroupsUpTo 39 = .ok (.iload_n 3, 1) := by decide +kernel
theorem dX8_sumGroupsUpTo_40 : decode cX8_sumGroupsUpTo 40 = .ok (.ifCond .eq 13, 3) := by decide +kernel
theorem dX8_sumGroupsUpTo_43 : decode cX8_sumGroupsUpTo 43 = .ok (.aload_n 0, 1) := by decide +kernel
theorem dX8_sumGroupsUpTo_44 : decode cX8_sumGroupsUpTo 44 = .ok (.getfield 22, 3) := by decide +kernel
theorem dX8_sumGroupsUpTo_47 : decode cX8_sumGroupsUpTo 47 = .ok (.iload 4, 2) := by decide +kernel
theorem dX8_sumGroupsUpTo_49 : decode cX8_sumGroupsUpTo 49 = .ok (.iaload, 1) := by decide +kernel
theorem dX8_sumGroupsUpTo_50 : decode cX8_sumGroupsUpTo 50 = .ok (.goto 20, 3) := by decide +kernel
theorem dX8_sumGroupsUpTo_53 : decode cX8_sumGroupsUpTo 53 = .ok (.aload_n 0, 1) := by decide +kernel
theorem dX8_sumGroupsUpTo_54 : decode cX8_sumGroupsUpTo 54 = .ok (.getfield 25, 3) := by decide +kernel
theorem dX8_sumGroupsUpTo_57 : decode cX8_sumGroupsUpTo 57 = .ok (.iload 4, 2) := by decide +kernel
theorem dX8_sumGroupsUpTo_59 : decode cX8_sumGroupsUpTo 59 = .ok (.iaload, 1) := by decide +kernel
theorem dX8_sumGroupsUpTo_60 : decode cX8_sumGroupsUpTo 60 = .ok (.aload_n 0, 1) := by decide +kernel
theorem dX8_sumGroupsUpTo_61 : decode cX8_sumGroupsUpTo 61 = .ok (.getfield 22, 3) := by decide +kernel
theorem dX8_sumGroupsUpTo_64 : decode cX8_sumGroupsUpTo 64 = .ok (.iload 4, 2) := by decide +kernel
theorem dX8_sumGroupsUpTo_66 : decode cX8_sumGroupsUpTo 66 = .ok (.iaload, 1) := by decide +kernel
theorem dX8_sumGroupsUpTo_67 : decode cX8_sumGroupsUpTo 67 = .ok (.invokestatic 103, 3) := by decide +kernel
theorem dX8_sumGroupsUpTo_70 : decode cX8_sumGroupsUpTo 70 = .ok (.iastore, 1) := by decide +kernel
theorem dX8_sumGroupsUpTo_71 : decode cX8_sumGroupsUpTo 71 = .ok (.iinc 4 1, 3) := by decide +kernel
theorem dX8_sumGroupsUpTo_74 : decode cX8_sumGroupsUpTo 74 = .ok (.goto (-69), 3) := by decide +kernel
theorem dX8_sumGroupsUpTo_77 : decode cX8_sumGroupsUpTo 77 = .ok (.return_, 1) := by decide +kernel
theorem dX8_part_0 : decode cX8_part 0 = .ok (.iload_n 1, 1) := by decide +kernel
theorem dX8_part_1 : decode cX8_part 1 = .ok (.aload_n 0, 1) := by decide +kernel
theorem dX8_part_2 : decode cX8_part 2 = .ok (.getfield 96, 3) := by decide +kernel
theorem dX8_part_5 : decode cX8_part 5 = .ok (.if_icmp .lt 8, 3) := by decide +kernel
theorem dX8_part_8 : decode cX8_part 8 = .ok (.aload_n 0, 1) := by decide +kernel
theorem dX8_part_9 : decode cX8_part 9 = .ok (.invokevirtual 106, 3) := by decide +kernel
theorem dX8_part_12 : decode cX8_part 12 = .ok (.return_, 1) := by decide +kernel
theorem dX8_part_13 : decode cX8_part 13 = .ok (.iconst 0, 1) := by decide +kernel
theorem dX8_part_14 : decode cX8_part 14 = .ok (.istore_n 2, 1) := by decide +kernel
theorem dX8_part_15 : decode cX8_part 15 = .ok (.iload_n 2, 1) := by decide +kernel
theorem dX8_part_16 : decode cX8_part 16 = .ok (.aload_n 0, 1) := by decide +kernel
theorem dX8_part_17 : decode cX8_part 17 = .ok (.getfield 83, 3) := by decide +kernel
theorem dX8_part_20 : decode cX8_part 20 = .ok (.if_icmp .ge 52, 3) := by decide +kernel
theorem dX8_part_23 : decode cX8_part 23 = .ok (.aload_n 0, 1) := by decide +kernel
theorem dX8_part_24 : decode cX8_part 24 = .ok (.getfield 28, 3) := by decide +kernel
theorem dX8_part_27 : decode cX8_part 27 = .ok (.iload_n 2, 1) := by decide +kernel
theorem dX8_part_28 : decode cX8_part 28 = .ok (.dup2, 1) := by decide +kernel
theorem dX8_part_29 : decode cX8_part 29 = .ok (.iaload, 1) := by decide +kernel
theorem dX8_part_30 : decode cX8_part 30 = .ok (.iconst 1, 1) := by decide +kernel
theorem dX8_part_31 : decode cX8_part 31 = .ok (.iload_n 1, 1) := by decide +kernel
theorem dX8_part_32 : decode cX8_part 32 = .ok (.ishl, 1) := by decide +kernel
theorem dX8_part_33 : decode cX8_part 33 = .ok (.ior, 1) := by decide +kernel
theorem dX8_part_34 : decode cX8_part 34 = .ok (.iastore, 1) := by decide +kernel
theorem dX8_part_35 : decode cX8_part 35 = .ok (.aload_n 0, 1) := by decide +kernel
theorem dX8_part_36 : decode cX8_part 36 = .ok (.iload_n 1, 1) := by decide +kernel
theorem dX8_part_37 : decode cX8_part 37 = .ok (.iconst 1, 1) := by decide +kernel
theorem dX8_part_38 : decode cX8_part 38 = .ok (.iadd, 1) := by decide +kernel
theorem dX8_part_39 : decode cX8_part 39 = .ok (.invokevirtual 87, 3) := by decide +kernel
theorem dX8_part_42 : decode cX8_part 42 = .ok (.aload_n 0, 1) := by decide +kernel
theorem dX8_part_43 : decode cX8_part 43 = .ok (.getfield 28, 3) := by decide +kernel
theorem dX8_part_46 : decode cX8_part 46 = .ok (.iload_n 2, 1) := by decide +kernel
theorem dX8_part_47 : decode cX8_part 47 = .ok (.dup2, 1) := by decide +kernel
theorem dX8_part_48 : decode cX8_part 48 = .ok (.iaload, 1) := by decide +kernel
theorem dX8_part_49 : decode cX8_part 49 = .ok (.iconst 1, 1) := by decide +kernel
theorem dX8_part_50 : decode cX8_part 50 = .ok (.iload_n 1, 1) := by decide +kernel
theorem dX8_part_51 : decode cX8_part 51 = .ok (.ishl, 1) := by decide +kernel
theorem dX8_part_52 : decode cX8_part 52 = .ok (.iconst (-1), 1) := by decide +kernel
theorem dX8_part_53 : decode cX8_part 53 = .ok (.ixor, 1) := by decide +kernel
theorem dX8_part_54 : decode cX8_part 54 = .ok (.iand, 1) := by decide +kernel
theorem dX8_part_55 : decode cX8_part 55 = .ok (.iastore, 1) := by decide +kernel
theorem dX8_part_56 : decode cX8_part 56 = .ok (.aload_n 0, 1) := by decide +kernel
theorem dX8_part_57 : decode cX8_part 57 = .ok (.getfield 28, 3) := by decide +kernel
theorem dX8_part_60 : decode cX8_part 60 = .ok (.iload_n 2, 1) := by decide +kernel
theorem dX8_part_61 : decode cX8_part 61 = .ok (.iaload, 1) := by decide +kernel
theorem dX8_part_62 : decode cX8_part 62 = .ok (.ifCond .ne 4, 3) := by decide +kernel
theorem dX8_part_65 : decode cX8_part 65 = .ok (.return_, 1) := by decide +kernel
theorem dX8_part_66 : decode cX8_part 66 = .ok (.iinc 2 1, 3) := by decide +kernel
theorem dX8_part_69 : decode cX8_part 69 = .ok (.goto (-54), 3) := by decide +kernel
theorem dX8_part_72 : decode cX8_part 72 = .ok (.return_, 1) := by decide +kernel
theorem dX8_weigh_0 : decode cX8_weigh 0 = .ok (.iconst 0, 1) := by decide +kernel
theorem dX8_weigh_1 : decode cX8_weigh 1 = .ok (.istore_n 1, 1) := by decide +kernel
theorem dX8_weigh_2 : decode cX8_weigh 2 = .ok (.iconst 0, 1) := by decide +kernel
theorem dX8_weigh_3 : decode cX8_weigh 3 = .ok (.istore_n 2, 1) := by decide +kernel
theorem dX8_weigh_4 : decode cX8_weigh 4 = .ok (.iload_n 2, 1) := by decide +kernel
theorem dX8_weigh_5 : decode cX8_weigh 5 = .ok (.iconst 3, 1) := by decide +kernel
theorem dX8_weigh_6 : decode cX8_weigh 6 = .ok (.if_icmp .ge 23, 3) := by decide +kernel
theorem dX8_weigh_9 : decode cX8_weigh 9 = .ok (.iload_n 1, 1) := by decide +kernel
theorem dX8_weigh_10 : decode cX8_weigh 10 = .ok (.aload_n 0, 1) := by decide +kernel
theorem dX8_weigh_11 : decode cX8_weigh 11 = .ok (.getfield 25, 3) := by decide +kernel
theorem dX8_weigh_14 : decode cX8_weigh 14 = .ok (.aload_n 0, 1) := by decide +kernel
theorem dX8_weigh_15 : decode cX8_weigh 15 = .ok (.getfield 28, 3) := by decide +kernel
theorem dX8_weigh_18 : decode cX8_weigh 18 = .ok (.iload_n 2, 1) := by decide +kernel
theorem dX8_weigh_19 : decode cX8_weigh 19 = .ok (.iaload, 1) := by decide +kernel
theorem dX8_weigh_20 : decode cX8_weigh 20 = .ok (.iaload, 1) := by decide +kernel
theorem dX8_weigh_21 : decode cX8_weigh 21 = .ok (.iadd, 1) := by decide +kernel
theorem dX8_weigh_22 : decode cX8_weigh 22 = .ok (.istore_n 1, 1) := by decide +kernel
theorem dX8_weigh_23 : decode cX8_weigh 23 = .ok (.iinc 2 1, 3) := by decide +kernel
theorem dX8_weigh_26 : decode cX8_weigh 26 = .ok (.goto (-22), 3) := by decide +kernel
theorem dX8_weigh_29 : decode cX8_weigh 29 = .ok (.aload_n 0, 1) := by decide +kernel
theorem dX8_weigh_30 : decode cX8_weigh 30 = .ok (.getfield 79, 3) := by decide +kernel
theorem dX8_weigh_33 : decode cX8_weigh 33 = .ok (.ifCond .eq 12, 3) := by decide +kernel
theorem dX8_weigh_36 : decode cX8_weigh 36 = .ok (.iload_n 1, 1) := by decide +kernel
theorem dX8_weigh_37 : decode cX8_weigh 37 = .ok (.aload_n 0, 1) := by decide +kernel
theorem dX8_weigh_38 : decode cX8_weigh 38 = .ok (.getfield 90, 3) := by decide +kernel
theorem dX8_weigh_41 : decode cX8_weigh 41 = .ok (.if_icmp .lt 4, 3) := by decide +kernel
theorem dX8_weigh_44 : decode cX8_weigh 44 = .ok (.return_, 1) := by decide +kernel
theorem dX8_weigh_45 : decode cX8_weigh 45 = .ok (.aload_n 0, 1) := by decide +kernel
theorem dX8_weigh_46 : decode cX8_weigh 46 = .ok (.iconst 1, 1) := by decide +kernel
theorem dX8_weigh_47 : decode cX8_weigh 47 = .ok (.putfield 79, 3) := by decide +kernel
theorem dX8_weigh_50 : decode cX8_weigh 50 = .ok (.aload_n 0, 1) := by decide +kernel
theorem dX8_weigh_51 : decode cX8_weigh 51 = .ok (.iload_n 1, 1) := by decide +kernel
theorem dX8_weigh_52 : decode cX8_weigh 52 = .ok (.putfield 90, 3) := by decide +kernel
theorem dX8_weigh_55 : decode cX8_weigh 55 = .ok (.iconst 0, 1) := by decide +kernel
theorem dX8_weigh_56 : decode cX8_weigh 56 = .ok (.istore_n 2, 1) := by decide +kernel
theorem dX8_weigh_57 : decode cX8_weigh 57 = .ok (.iload_n 2, 1) := by decide +kernel
theorem dX8_weigh_58 : decode cX8_weigh 58 = .ok (.iconst 3, 1) := by decide +kernel
theorem dX8_weigh_59 : decode cX8_weigh 59 = .ok (.if_icmp .ge 21, 3) := by decide +kernel
theorem dX8_weigh_62 : decode cX8_weigh 62 = .ok (.aload_n 0, 1) := by decide +kernel
theorem dX8_weigh_63 : decode cX8_weigh 63 = .ok (.getfield 31, 3) := by decide +kernel
theorem dX8_weigh_66 : decode cX8_weigh 66 = .ok (.iload_n 2, 1) := by decide +kernel
theorem dX8_weigh_67 : decode cX8_weigh 67 = .ok (.aload_n 0, 1) := by decide +kernel
theorem dX8_weigh_68 : decode cX8_weigh 68 = .ok (.getfield 28, 3) := by decide +kernel
theorem dX8_weigh_71 : decode cX8_weigh 71 = .ok (.iload_n 2, 1) := by decide +kernel
theorem dX8_weigh_72 : decode cX8_weigh 72 = .ok (.iaload, 1) := by decide +kernel
theorem dX8_weigh_73 : decode cX8_weigh 73 = .ok (.iastore, 1) := by decide +kernel
theorem dX8_weigh_74 : decode cX8_weigh 74 = .ok (.iinc 2 1, 3) := by decide +kernel
theorem dX8_weigh_77 : decode cX8_weigh 77 = .ok (.goto (-20), 3) := by decide +kernel
theorem dX8_weigh_80 : decode cX8_weigh 80 = .ok (.return_, 1) := by decide +kernel
theorem dX8_chairOf_0 : decode cX8_chairOf 0 = .ok (.iconst 0, 1) := by decide +kernel
theorem dX8_chairOf_1 : decode cX8_chairOf 1 = .ok (.istore_n 2, 1) := by decide +kernel
theorem dX8_chairOf_2 : decode cX8_chairOf 2 = .ok (.iload_n 2, 1) := by decide +kernel
theorem dX8_chairOf_3 : decode cX8_chairOf 3 = .ok (.aload_n 0, 1) := by decide +kernel
theorem dX8_chairOf_4 : decode cX8_chairOf 4 = .ok (.getfield 96, 3) := by decide +kernel
theorem dX8_chairOf_7 : decode cX8_chairOf 7 = .ok (.if_icmp .ge 47, 3) := by decide +kernel
theorem dX8_chairOf_10 : decode cX8_chairOf 10 = .ok (.iconst 0, 1) := by decide +kernel
theorem dX8_chairOf_11 : decode cX8_chairOf 11 = .ok (.istore_n 3, 1) := by decide +kernel
theorem dX8_chairOf_12 : decode cX8_chairOf 12 = .ok (.iload_n 3, 1) := by decide +kernel
theorem dX8_chairOf_13 : decode cX8_chairOf 13 = .ok (.iconst 3, 1) := by decide +kernel
theorem dX8_chairOf_14 : decode cX8_chairOf 14 = .ok (.if_icmp .ge 34, 3) := by decide +kernel
theorem dX8_chairOf_17 : decode cX8_chairOf 17 = .ok (.aload_n 0, 1) := by decide +kernel
theorem dX8_chairOf_18 : decode cX8_chairOf 18 = .ok (.getfield 19, 3) := by decide +kernel
theorem dX8_chairOf_21 : decode cX8_chairOf 21 = .ok (.iload_n 2, 1) := by decide +kernel
theorem dX8_chairOf_22 : decode cX8_chairOf 22 = .ok (.iaload, 1) := by decide +kernel
theorem dX8_chairOf_23 : decode cX8_chairOf 23 = .ok (.iload_n 1, 1) := by decide +kernel
theorem dX8_chairOf_24 : decode cX8_chairOf 24 = .ok (.if_icmp .ne 18, 3) := by decide +kernel
theorem dX8_chairOf_27 : decode cX8_chairOf 27 = .ok (.aload_n 0, 1) := by decide +kernel
theorem dX8_chairOf_28 : decode cX8_chairOf 28 = .ok (.getfield 31, 3) := by decide +kernel
theorem dX8_chairOf_31 : decode cX8_chairOf 31 = .ok (.iload_n 3, 1) := by decide +kernel
theorem dX8_chairOf_32 : decode cX8_chairOf 32 = .ok (.iaload, 1) := by decide +kernel
theorem dX8_chairOf_33 : decode cX8_chairOf 33 = .ok (.iload_n 2, 1) := by decide +kernel
theorem dX8_chairOf_34 : decode cX8_chairOf 34 = .ok (.ishr, 1) := by decide +kernel
theorem dX8_chairOf_35 : decode cX8_chairOf 35 = .ok (.iconst 1, 1) := by decide +kernel
theorem dX8_chairOf_36 : decode cX8_chairOf 36 = .ok (.iand, 1) := by decide +kernel
theorem dX8_chairOf_37 : decode cX8_chairOf 37 = .ok (.ifCond .eq 5, 3) := by decide +kernel
theorem dX8_chairOf_40 : decode cX8_chairOf 40 = .ok (.iload_n 3, 1) := by decide +kernel
theorem dX8_chairOf_41 : decode cX8_chairOf 41 = .ok (.ireturn, 1) := by decide +kernel
theorem dX8_chairOf_42 : decode cX8_chairOf 42 = .ok (.iinc 3 1, 3) := by decide +kernel
theorem dX8_chairOf_45 : decode cX8_chairOf 45 = .ok (.goto (-33), 3) := by decide +kernel
theorem dX8_chairOf_48 : decode cX8_chairOf 48 = .ok (.iinc 2 1, 3) := by decide +kernel
theorem dX8_chairOf_51 : decode cX8_chairOf 51 = .ok (.goto (-49), 3) := by decide +kernel
theorem dX8_chairOf_54 : decode cX8_chairOf 54 = .ok (.bipush (-2), 2) := by decide +kernel
theorem dX8_chairOf_56 : decode cX8_chairOf 56 = .ok (.ireturn, 1) := by decide +kernel
theorem dX9_shiftByShift_0 : decode cX9_shiftByShift 0 = .ok (.aload_n 0, 1) := by decide +kernel
theorem dX9_shiftByShift_1 : decode cX9_shiftByShift 1 = .ok (.iload_n 1, 1) := by decide +kernel
theorem dX9_shiftByShift_2 : decode cX9_shiftByShift 2 = .ok (.iconst 1, 1) := by decide +kernel
theorem dX9_shiftByShift_3 : decode cX9_shiftByShift 3 = .ok (.invokevirtual 23, 3) := by decide +kernel
theorem dX9_shiftByShift_6 : decode cX9_shiftByShift 6 = .ok (.aload_n 0, 1) := by decide +kernel
theorem dX9_shiftByShift_7 : decode cX9_shiftByShift 7 = .ok (.getfield 15, 3) := by decide +kernel
theorem dX9_shiftByShift_10 : decode cX9_shiftByShift 10 = .ok (.getfield 27, 3) := by decide +kernel
theorem dX9_shiftByShift_13 : decode cX9_shiftByShift 13 = .ok (.iload_n 1, 1) := by decide +kernel
theorem dX9_shiftByShift_14 : decode cX9_shiftByShift 14 = .ok (.iaload, 1) := by decide +kernel
theorem dX9_shiftByShift_15 : decode cX9_shiftByShift 15 = .ok (.istore_n 3, 1) := by decide +kernel
theorem dX9_shiftByShift_16 : decode cX9_shiftByShift 16 = .ok (.iconst 0, 1) := by decide +kernel
theorem dX9_shiftByShift_17 : decode cX9_shiftByShift 17 = .ok (.istore 4, 2) := by decide +kernel
theorem dX9_shiftByShift_19 : decode cX9_shiftByShift 19 = .ok (.iload_n 2, 1) := by decide +kernel
theorem dX9_shiftByShift_20 : decode cX9_shiftByShift 20 = .ok (.ifCond .ge 10, 3) := by decide +kernel
theorem dX9_shiftByShift_23 : decode cX9_shiftByShift 23 = .ok (.aload_n 0, 1) := by decide +kernel
theorem dX9_shiftByShift_24 : decode cX9_shiftByShift 24 = .ok (.getfield 9, 3) := by decide +kernel
theorem dX9_shiftByShift_27 : decode cX9_shiftByShift 27 = .ok (.iload_n 3, 1) := by decide +kernel
theorem dX9_shiftByShift_28 : decode cX9_shiftByShift 28 = .ok (.iaload, 1) := by decide +kernel
theorem dX9_shiftByShift_29 : decode cX9_shiftByShift 29 = .ok (.ireturn, 1) := by decide +kernel
theorem dX9_shiftByShift_30 : decode cX9_shiftByShift 30 = .ok (.iconst 0, 1) := by decide +kernel
theorem dX9_shiftByShift_31 : decode cX9_shiftByShift 31 = .ok (.istore 5, 2) := by decide +kernel
theorem dX9_shiftByShift_33 : decode cX9_shiftByShift 33 = .ok (.iload 5, 2) := by decide +kernel
theorem dX9_shiftByShift_35 : decode cX9_shiftByShift 35 = .ok (.iload_n 2, 1) := by decide +kernel
theorem dX9_shiftByShift_36 : decode cX9_shiftByShift 36 = .ok (.if_icmp .gt 30, 3) := by decide +kernel
theorem dX9_shiftByShift_39 : decode cX9_shiftByShift 39 = .ok (.aload_n 0, 1) := by decide +kernel
theorem dX9_shiftByShift_40 : decode cX9_shiftByShift 40 = .ok (.iload_n 1, 1) := by decide +kernel
theorem dX9_shiftByShift_41 : decode cX9_shiftByShift 41 = .ok (.iload 5, 2) := by decide +kernel
theorem dX9_shiftByShift_43 : decode cX9_shiftByShift 43 = .ok (.iload_n 3, 1) := by decide +kernel
theorem dX9_shiftByShift_44 : decode cX9_shiftByShift 44 = .ok (.invokevirtual 32, 3) := by decide +kernel
theorem dX9_shiftByShift_47 : decode cX9_shiftByShift 47 = .ok (.istore 4, 2) := by decide +kernel
theorem dX9_shiftByShift_49 : decode cX9_shiftByShift 49 = .ok (.aload_n 0, 1) := by decide +kernel
theorem dX9_shiftByShift_50 : decode cX9_shiftByShift 50 = .ok (.getfield 15, 3) := by decide +kernel
theorem dX9_shiftByShift_53 : decode cX9_shiftByShift 53 = .ok (.iload_n 1, 1) := by decide +kernel
theorem dX9_shiftByShift_54 : decode cX9_shiftByShift 54 = .ok (.iload 4, 2) := by decide +kernel
theorem dX9_shiftByShift_56 : decode cX9_shiftByShift 56 = .ok (.invokevirtual 36, 3) := by decide +kernel
theorem dX9_shiftByShift_59 : decode cX9_shiftByShift 59 = .ok (.istore_n 3, 1) := by decide +kernel
theorem dX9_shiftByShift_60 : decode cX9_shiftByShift 60 = .ok (.iinc 5 1, 3) := by decide +kernel
theorem dX9_shiftByShift_63 : decode cX9_shiftByShift 63 = .ok (.goto (-30), 3) := by decide +kernel
theorem dX9_shiftByShift_66 : decode cX9_shiftByShift 66 = .ok (.iload 4, 2) := by decide +kernel
theorem dX9_shiftByShift_68 : decode cX9_shiftByShift 68 = .ok (.ireturn, 1) := by decide +kernel
theorem dX9_pay_0 : decode cX9_pay 0 = .ok (.aload_n 0, 1) := by decide +kernel
theorem dX9_pay_1 : decode cX9_pay 1 = .ok (.getfield 19, 3) := by decide +kernel
theorem dX9_pay_4 : decode cX9_pay 4 = .ok (.getfield 40, 3) := by decide +kernel
theorem dX9_pay_7 : decode cX9_pay 7 = .ok (.bipush 61, 2) := by decide +kernel
theorem dX9_pay_9 : decode cX9_pay 9 = .ok (.imul, 1) := by decide +kernel
theorem dX9_pay_10 : decode cX9_pay 10 = .ok (.istore_n 3, 1) := by decide +kernel
theorem dX9_pay_11 : decode cX9_pay 11 = .ok (.iconst 0, 1) := by decide +kernel
theorem dX9_pay_12 : decode cX9_pay 12 = .ok (.istore 4, 2) := by decide +kernel
theorem dX9_pay_14 : decode cX9_pay 14 = .ok (.iload 4, 2) := by decide +kernel
theorem dX9_pay_16 : decode cX9_pay 16 = .ok (.bipush 60, 2) := by decide +kernel
theorem dX9_pay_18 : decode cX9_pay 18 = .ok (.if_icmp .gt 19, 3) := by decide +kernel
theorem dX9_pay_21 : decode cX9_pay 21 = .ok (.aload_n 0, 1) := by decide +kernel
theorem dX9_pay_22 : decode cX9_pay 22 = .ok (.getfield 9, 3) := by decide +kernel
theorem dX9_pay_25 : decode cX9_pay 25 = .ok (.iload_n 3, 1) := by decide +kernel
theorem dX9_pay_26 : decode cX9_pay 26 = .ok (.iload 4, 2) := by decide +kernel
theorem dX9_pay_28 : decode cX9_pay 28 = .ok (.iadd, 1) := by decide +kernel
theorem dX9_pay_29 : decode cX9_pay 29 = .ok (.iconst 0, 1) := by decide +kernel
theorem dX9_pay_30 : decode cX9_pay 30 = .ok (.iastore, 1) := by decide +kernel
theorem dX9_pay_31 : decode cX9_pay 31 = .ok (.iinc 4 1, 3) := by decide +kernel
theorem dX9_pay_34 : decode cX9_pay 34 = .ok (.goto (-20), 3) := by decide +kernel
theorem dX9_pay_37 : decode cX9_pay 37 = .ok (.aload_n 0, 1) := by decide +kernel
theorem dX9_pay_38 : decode cX9_pay 38 = .ok (.getfield 19, 3) := by decide +kernel
theorem dX9_pay_41 : decode cX9_pay 41 = .ok (.getfield 40, 3) := by decide +kernel
theorem dX9_pay_44 : decode cX9_pay 44 = .ok (.iconst 1, 1) := by decide +kernel
theorem dX9_pay_45 : decode cX9_pay 45 = .ok (.isub, 1) := by decide +kernel
theorem dX9_pay_46 : decode cX9_pay 46 = .ok (.istore 4, 2) := by decide +kernel
theorem dX9_pay_48 : decode cX9_pay 48 = .ok (.iload 4, 2) := by decide +kernel
theorem dX9_pay_50 : decode cX9_pay 50 = .ok (.ifCond .lt 68, 3) := by decide +kernel
theorem dX9_pay_53 : decode cX9_pay 53 = .ok (.iconst 0, 1) := by decide +kernel
theorem dX9_pay_54 : decode cX9_pay 54 = .ok (.istore 5, 2) := by decide +kernel
theorem dX9_pay_56 : decode cX9_pay 56 = .ok (.iload 5, 2) := by decide +kernel
theorem dX9_pay_58 : decode cX9_pay 58 = .ok (.bipush 60, 2) := by decide +kernel
theorem dX9_pay_60 : decode cX9_pay 60 = .ok (.if_icmp .gt 31, 3) := by decide +kernel
theorem dX9_pay_63 : decode cX9_pay 63 = .ok (.aload_n 0, 1) := by decide +kernel
theorem dX9_pay_64 : decode cX9_pay 64 = .ok (.getfield 9, 3) := by decide +kernel
theorem dX9_pay_67 : decode cX9_pay 67 = .ok (.iload 4, 2) := by decide +kernel
theorem dX9_pay_69 : decode cX9_pay 69 = .ok (.bipush 61, 2) := by decide +kernel
theorem dX9_pay_71 : decode cX9_pay 71 = .ok (.imul, 1) := by decide +kernel
theorem dX9_pay_72 : decode cX9_pay 72 = .ok (.iload 5, 2) := by decide +kernel
theorem dX9_pay_74 : decode cX9_pay 74 = .ok (.iadd, 1) := by decide +kernel
theorem dX9_pay_75 : decode cX9_pay 75 = .ok (.aload_n 0, 1) := by decide +kernel
theorem dX9_pay_76 : decode cX9_pay 76 = .ok (.iload_n 1, 1) := by decide +kernel
theorem dX9_pay_77 : decode cX9_pay 77 = .ok (.iload 4, 2) := by decide +kernel
theorem dX9_pay_79 : decode cX9_pay 79 = .ok (.iload 5, 2) := by decide +kernel
theorem dX9_pay_81 : decode cX9_pay 81 = .ok (.invokevirtual 46, 3) := by decide +kernel
theorem dX9_pay_84 : decode cX9_pay 84 = .ok (.iastore, 1) := by decide +kernel
theorem dX9_pay_85 : decode cX9_pay 85 = .ok (.iinc 5 1, 3) := by decide +kernel
theorem dX9_pay_88 : decode cX9_pay 88 = .ok (.goto (-32), 3) := by decide +kernel
theorem dX9_pay_91 : decode cX9_pay 91 = .ok (.iload_n 2, 1) := by decide +kernel
theorem dX9_pay_92 : decode cX9_pay 92 = .ok (.ifCond .eq 20, 3) := by decide +kernel
theorem dX9_pay_95 : decode cX9_pay 95 = .ok (.aload_n 0, 1) := by decide +kernel
theorem dX9_pay_96 : decode cX9_pay 96 = .ok (.iload 4, 2) := by decide +kernel
theorem dX9_pay_98 : decode cX9_pay 98 = .ok (.bipush 61, 2) := by decide +kernel
theorem dX9_pay_100 : decode cX9_pay 100 = .ok (.imul, 1) := by decide +kernel
theorem dX9_pay_101 : decode cX9_pay 101 = .ok (.aload_n 0, 1) := by decide +kernel
theorem dX9_pay_102 : decode cX9_pay 102 = .ok (.getfield 15, 3) := by decide +kernel
theorem dX9_pay_105 : decode cX9_pay 105 = .ok (.iload_n 1, 1) := by decide +kernel
theorem dX9_pay_106 : decode cX9_pay 106 = .ok (.invokevirtual 49, 3) := by decide +kernel
theorem dX9_pay_109 : decode cX9_pay 109 = .ok (.invokevirtual 53, 3) := by decide +kernel
theorem dX9_pay_112 : decode cX9_pay 112 = .ok (.iinc 4 (-1), 3) := by decide +kernel
theorem dX9_pay_115 : decode cX9_pay 115 = .ok (.goto (-67), 3) := by decide +kernel
theorem dX9_pay_118 : decode cX9_pay 118 = .ok (.return_, 1) := by decide +kernel
theorem dX9_unturned_0 : decode cX9_unturned 0 = .ok (.aload_n 0, 1) := by decide +kernel
theorem dX9_unturned_1 : decode cX9_unturned 1 = .ok (.getfield 15, 3) := by decide +kernel
theorem dX9_unturned_4 : decode cX9_unturned 4 = .ok (.aload_n 0, 1) := by decide +kernel
theorem dX9_unturned_5 : decode cX9_unturned 5 = .ok (.getfield 19, 3) := by decide +kernel
theorem dX9_unturned_8 : decode cX9_unturned 8 = .ok (.getfield 57, 3) := by decide +kernel
theorem dX9_unturned_11 : decode cX9_unturned 11 = .ok (.iload_n 2, 1) := by decide +kernel
theorem dX9_unturned_12 : decode cX9_unturned 12 = .ok (.iaload, 1) := by decide +kernel
theorem dX9_unturned_13 : decode cX9_unturned 13 = .ok (.iload_n 1, 1) := by decide +kernel
theorem dX9_unturned_14 : decode cX9_unturned 14 = .ok (.iload_n 3, 1) := by decide +kernel
theorem dX9_unturned_15 : decode cX9_unturned 15 = .ok (.invokevirtual 60, 3) := by decide +kernel
theorem dX9_unturned_18 : decode cX9_unturned 18 = .ok (.istore 4, 2) := by decide +kernel
theorem dX9_unturned_20 : decode cX9_unturned 20 = .ok (.iload 4, 2) := by decide +kernel
theorem dX9_unturned_22 : decode cX9_unturned 22 = .ok (.aload_n 0, 1) := by decide +kernel
theorem dX9_unturned_23 : decode cX9_unturned 23 = .ok (.getfield 9, 3) := by decide +kernel
theorem dX9_unturned_26 : decode cX9_unturned 26 = .ok (.iload_n 2, 1) := by decide +kernel
theorem dX9_unturned_27 : decode cX9_unturned 27 = .ok (.iconst 1, 1) := by decide +kernel
theorem dX9_unturned_28 : decode cX9_unturned 28 = .ok (.iadd, 1) := by decide +kernel
theorem dX9_unturned_29 : decode cX9_unturned 29 = .ok (.bipush 61, 2) := by decide +kernel
theorem dX9_unturned_31 : decode cX9_unturned 31 = .ok (.imul, 1) := by decide +kernel
theorem dX9_unturned_32 : decode cX9_unturned 32 = .ok (.aload_n 0, 1) := by decide +kernel
theorem dX9_unturned_33 : decode cX9_unturned 33 = .ok (.getfield 15, 3) := by decide +kernel
theorem dX9_unturned_36 : decode cX9_unturned 36 = .ok (.iload_n 1, 1) := by decide +kernel
theorem dX9_unturned_37 : decode cX9_unturned 37 = .ok (.iload_n 3, 1) := by decide +kernel
theorem dX9_unturned_38 : decode cX9_unturned 38 = .ok (.invokevirtual 36, 3) := by decide +kernel
theorem dX9_unturned_41 : decode cX9_unturned 41 = .ok (.iadd, 1) := by decide +kernel
theorem dX9_unturned_42 : decode cX9_unturned 42 = .ok (.iaload, 1) := by decide +kernel
theorem dX9_unturned_43 : decode cX9_unturned 43 = .ok (.iadd, 1) := by decide +kernel
theorem dX9_unturned_44 : decode cX9_unturned 44 = .ok (.ireturn, 1) := by decide +kernel
theorem dX9_spread_0 : decode cX9_spread 0 = .ok (.iconst 1, 1) := by decide +kernel
theorem dX9_spread_1 : decode cX9_spread 1 = .ok (.istore_n 3, 1) := by decide +kernel
theorem dX9_spread_2 : decode cX9_spread 2 = .ok (.iload_n 3, 1) := by decide +kernel
theorem dX9_spread_3 : decode cX9_spread 3 = .ok (.bipush 60, 2) := by decide +kernel
theorem dX9_spread_5 : decode cX9_spread 5 = .ok (.if_icmp .gt 40, 3) := by decide +kernel
theorem dX9_spread_8 : decode cX9_spread 8 = .ok (.aload_n 0, 1) := by decide +kernel
theorem dX9_spread_9 : decode cX9_spread 9 = .ok (.getfield 9, 3) := by decide +kernel
theorem dX9_spread_12 : decode cX9_spread 12 = .ok (.iload_n 1, 1) := by decide +kernel
theorem dX9_spread_13 : decode cX9_spread 13 = .ok (.iload_n 3, 1) := by decide +kernel
theorem dX9_spread_14 : decode cX9_spread 14 = .ok (.iadd, 1) := by decide +kernel
theorem dX9_spread_15 : decode cX9_spread 15 = .ok (.aload_n 0, 1) := by decide +kernel
theorem dX9_spread_16 : decode cX9_spread 16 = .ok (.getfield 9, 3) := by decide +kernel
theorem dX9_spread_19 : decode cX9_spread 19 = .ok (.iload_n 1, 1) := by decide +kernel
theorem dX9_spread_20 : decode cX9_spread 20 = .ok (.iload_n 3, 1) := by decide +kernel
theorem dX9_spread_21 : decode cX9_spread 21 = .ok (.iadd, 1) := by decide +kernel
theorem dX9_spread_22 : decode cX9_spread 22 = .ok (.iaload, 1) := by decide +kernel
theorem dX9_spread_23 : decode cX9_spread 23 = .ok (.aload_n 0, 1) := by decide +kernel
theorem dX9_spread_24 : decode cX9_spread 24 = .ok (.getfield 9, 3) := by decide +kernel
theorem dX9_spread_27 : decode cX9_spread 27 = .ok (.iload_n 1, 1) := by decide +kernel
theorem dX9_spread_28 : decode cX9_spread 28 = .ok (.iload_n 3, 1) := by decide +kernel
theorem dX9_spread_29 : decode cX9_spread 29 = .ok (.iadd, 1) := by decide +kernel
theorem dX9_spread_30 : decode cX9_spread 30 = .ok (.iconst 1, 1) := by decide +kernel
theorem dX9_spread_31 : decode cX9_spread 31 = .ok (.isub, 1) := by decide +kernel
theorem dX9_spread_32 : decode cX9_spread 32 = .ok (.iaload, 1) := by decide +kernel
theorem dX9_spread_33 : decode cX9_spread 33 = .ok (.iload_n 2, 1) := by decide +kernel
theorem dX9_spread_34 : decode cX9_spread 34 = .ok (.iadd, 1) := by decide +kernel
theorem dX9_spread_35 : decode cX9_spread 35 = .ok (.invokestatic 63, 3) := by decide +kernel
theorem dX9_spread_38 : decode cX9_spread 38 = .ok (.iastore, 1) := by decide +kernel
theorem dX9_spread_39 : decode cX9_spread 39 = .ok (.iinc 3 1, 3) := by decide +kernel
theorem dX9_spread_42 : decode cX9_spread 42 = .ok (.goto (-40), 3) := by decide +kernel
theorem dX9_spread_45 : decode cX9_spread 45 = .ok (.bipush 59, 2) := by decide +kernel
theorem dX9_spread_47 : decode cX9_spread 47 = .ok (.istore_n 3, 1) := by decide +kernel
theorem dX9_spread_48 : decode cX9_spread 48 = .ok (.iload_n 3, 1) := by decide +kernel
theorem dX9_spread_49 : decode cX9_spread 49 = .ok (.ifCond .lt 40, 3) := by decide +kernel
theorem dX9_spread_52 : decode cX9_spread 52 = .ok (.aload_n 0, 1) := by decide +kernel
theorem dX9_spread_53 : decode cX9_spread 53 = .ok (.getfield 9, 3) := by decide +kernel
theorem dX9_spread_56 : decode cX9_spread 56 = .ok (.iload_n 1, 1) := by decide +kernel
theorem dX9_spread_57 : decode cX9_spread 57 = .ok (.iload_n 3, 1) := by decide +kernel
theorem dX9_spread_58 : decode cX9_spread 58 = .ok (.iadd, 1) := by decide +kernel
theorem dX9_spread_59 : decode cX9_spread 59 = .ok (.aload_n 0, 1) := by decide +kernel
theorem dX9_spread_60 : decode cX9_spread 60 = .ok (.getfield 9, 3) := by decide +kernel
theorem dX9_spread_63 : decode cX9_spread 63 = .ok (.iload_n 1, 1) := by decide +kernel
theorem dX9_spread_64 : decode cX9_spread 64 = .ok (.iload_n 3, 1) := by decide +kernel
theorem dX9_spread_65 : decode cX9_spread 65 = .ok (.iadd, 1) := by decide +kernel
theorem dX9_spread_66 : decode cX9_spread 66 = .ok (.iaload, 1) := by decide +kernel
theorem dX9_spread_67 : decode cX9_spread 67 = .ok (.aload_n 0, 1) := by decide +kernel
theorem dX9_spread_68 : decode cX9_spread 68 = .ok (.getfield 9, 3) := by decide +kernel
theorem dX9_spread_71 : decode cX9_spread 71 = .ok (.iload_n 1, 1) := by decide +kernel
theorem dX9_spread_72 : decode cX9_spread 72 = .ok (.iload_n 3, 1) := by decide +kernel
theorem dX9_spread_73 : decode cX9_spread 73 = .ok (.iadd, 1) := by decide +kernel
theorem dX9_spread_74 : decode cX9_spread 74 = .ok (.iconst 1, 1) := by decide +kernel
theorem dX9_spread_75 : decode cX9_spread 75 = .ok (.iadd, 1) := by decide +kernel
theorem dX9_spread_76 : decode cX9_spread 76 = .ok (.iaload, 1) := by decide +kernel
theorem dX9_spread_77 : decode cX9_spread 77 = .ok (.iload_n 2, 1) := by decide +kernel
theorem dX9_spread_78 : decode cX9_spread 78 = .ok (.iadd, 1) := by decide +kernel
theorem dX9_spread_79 : decode cX9_spread 79 = .ok (.invokestatic 63, 3) := by decide +kernel
theorem dX9_spread_82 : decode cX9_spread 82 = .ok (.iastore, 1) := by decide +kernel
theorem dX9_spread_83 : decode cX9_spread 83 = .ok (.iinc 3 (-1), 3) := by decide +kernel
theorem dX9_spread_86 : decode cX9_spread 86 = .ok (.goto (-38), 3) := by decide +kernel
theorem dX9_spread_89 : decode cX9_spread 89 = .ok (.return_, 1) := by decide +kernel
theorem dX9_leastSetting_0 : decode cX9_leastSetting 0 = .ok (.aload_n 0, 1) := by decide +kernel
theorem dX9_leastSetting_1 : decode cX9_leastSetting 1 = .ok (.getfield 15, 3) := by decide +kernel
theorem dX9_leastSetting_4 : decode cX9_leastSetting 4 = .ok (.iload_n 1, 1) := by decide +kernel
theorem dX9_leastSetting_5 : decode cX9_leastSetting 5 = .ok (.invokevirtual 49, 3) := by decide +kernel
theorem dX9_leastSetting_8 : decode cX9_leastSetting 8 = .ok (.istore 4, 2) := by decide +kernel
theorem dX9_leastSetting_10 : decode cX9_leastSetting 10 = .ok (.aload_n 0, 1) := by decide +kernel
theorem dX9_leastSetting_11 : decode cX9_leastSetting 11 = .ok (.getfield 9, 3) := by decide +kernel
theorem dX9_leastSetting_14 : decode cX9_leastSetting 14 = .ok (.iload_n 2, 1) := by decide +kernel
theorem dX9_leastSetting_15 : decode cX9_leastSetting 15 = .ok (.bipush 61, 2) := by decide +kernel
theorem dX9_leastSetting_17 : decode cX9_leastSetting 17 = .ok (.imul, 1) := by decide +kernel
theorem dX9_leastSetting_18 : decode cX9_leastSetting 18 = .ok (.iload_n 3, 1) := by decide +kernel
theorem dX9_leastSetting_19 : decode cX9_leastSetting 19 = .ok (.iadd, 1) := by decide +kernel
theorem dX9_leastSetting_20 : decode cX9_leastSetting 20 = .ok (.iaload, 1) := by decide +kernel
theorem dX9_leastSetting_21 : decode cX9_leastSetting 21 = .ok (.istore 5, 2) := by decide +kernel
theorem dX9_leastSetting_23 : decode cX9_leastSetting 23 = .ok (.iconst 0, 1) := by decide +kernel
theorem dX9_leastSetting_24 : decode cX9_leastSetting 24 = .ok (.istore 6, 2) := by decide +kernel
theorem dX9_leastSetting_26 : decode cX9_leastSetting 26 = .ok (.iload 6, 2) := by decide +kernel
theorem dX9_leastSetting_28 : decode cX9_leastSetting 28 = .ok (.bipush 60, 2) := by decide +kernel
theorem dX9_leastSetting_30 : decode cX9_leastSetting 30 = .ok (.if_icmp .gt 36, 3) := by decide +kernel
theorem dX9_leastSetting_33 : decode cX9_leastSetting 33 = .ok (.iload 6, 2) := by decide +kernel
theorem dX9_leastSetting_35 : decode cX9_leastSetting 35 = .ok (.iload_n 3, 1) := by decide +kernel
theorem dX9_leastSetting_36 : decode cX9_leastSetting 36 = .ok (.isub, 1) := by decide +kernel
theorem dX9_leastSetting_37 : decode cX9_leastSetting 37 = .ok (.invokestatic 68, 3) := by decide +kernel
theorem dX9_leastSetting_40 : decode cX9_leastSetting 40 = .ok (.iload 4, 2) := by decide +kernel
theorem dX9_leastSetting_42 : decode cX9_leastSetting 42 = .ok (.imul, 1) := by decide +kernel
theorem dX9_leastSetting_43 : decode cX9_leastSetting 43 = .ok (.aload_n 0, 1) := by decide +kernel
theorem dX9_leastSetting_44 : decode cX9_leastSetting 44 = .ok (.iload_n 1, 1) := by decide +kernel
theorem dX9_leastSetting_45 : decode cX9_leastSetting 45 = .ok (.iload_n 2, 1) := by decide +kernel
theorem dX9_leastSetting_46 : decode cX9_leastSetting 46 = .ok (.iload 6, 2) := by decide +kernel
theorem dX9_leastSetting_48 : decode cX9_leastSetting 48 = .ok (.invokevirtual 46, 3) := by decide +kernel
theorem dX9_leastSetting_51 : decode cX9_leastSetting 51 = .ok (.iadd, 1) := by decide +kernel
theorem dX9_leastSetting_52 : decode cX9_leastSetting 52 = .ok (.iload 5, 2) := by decide +kernel
theorem dX9_leastSetting_54 : decode cX9_leastSetting 54 = .ok (.if_icmp .ne 6, 3) := by decide +kernel
theorem dX9_leastSetting_57 : decode cX9_leastSetting 57 = .ok (.iload 6, 2) := by decide +kernel
theorem dX9_leastSetting_59 : decode cX9_leastSetting 59 = .ok (.ireturn, 1) := by decide +kernel
theorem dX9_leastSetting_60 : decode cX9_leastSetting 60 = .ok (.iinc 6 1, 3) := by decide +kernel
theorem dX9_leastSetting_63 : decode cX9_leastSetting 63 = .ok (.goto (-37), 3) := by decide +kernel
theorem dX9_leastSetting_66 : decode cX9_leastSetting 66 = .ok (.iload_n 3, 1) := by decide +kernel
theorem dX9_leastSetting_67 : decode cX9_leastSetting 67 = .ok (.ireturn, 1) := by decide +kernel
theorem dX9_oneTurning_0 : decode cX9_oneTurning 0 = .ok (.aload_n 0, 1) := by decide +kernel
theorem dX9_oneTurning_1 : decode cX9_oneTurning 1 = .ok (.iload_n 1, 1) := by decide +kernel
theorem dX9_oneTurning_2 : decode cX9_oneTurning 2 = .ok (.iconst 0, 1) := by decide +kernel
theorem dX9_oneTurning_3 : decode cX9_oneTurning 3 = .ok (.invokevirtual 23, 3) := by decide +kernel
theorem dX9_oneTurning_6 : decode cX9_oneTurning 6 = .ok (.aload_n 0, 1) := by decide +kernel
theorem dX9_oneTurning_7 : decode cX9_oneTurning 7 = .ok (.getfield 15, 3) := by decide +kernel
theorem dX9_oneTurning_10 : decode cX9_oneTurning 10 = .ok (.iload_n 1, 1) := by decide +kernel
theorem dX9_oneTurning_11 : decode cX9_oneTurning 11 = .ok (.invokevirtual 49, 3) := by decide +kernel
theorem dX9_oneTurning_14 : decode cX9_oneTurning 14 = .ok (.istore_n 3, 1) := by decide +kernel
theorem dX9_oneTurning_15 : decode cX9_oneTurning 15 = .ok (.aload_n 0, 1) := by decide +kernel
theorem dX9_oneTurning_16 : decode cX9_oneTurning 16 = .ok (.getfield 15, 3) := by decide +kernel
theorem dX9_oneTurning_19 : decode cX9_oneTurning 19 = .ok (.getfield 27, 3) := by decide +kernel
theorem dX9_oneTurning_22 : decode cX9_oneTurning 22 = .ok (.iload_n 1, 1) := by decide +kernel
theorem dX9_oneTurning_23 : decode cX9_oneTurning 23 = .ok (.iaload, 1) := by decide +kernel
theorem dX9_oneTurning_24 : decode cX9_oneTurning 24 = .ok (.istore 4, 2) := by decide +kernel
theorem dX9_oneTurning_26 : decode cX9_oneTurning 26 = .ok (.aload_n 0, 1) := by decide +kernel
theorem dX9_oneTurning_27 : decode cX9_oneTurning 27 = .ok (.getfield 9, 3) := by decide +kernel
theorem dX9_oneTurning_30 : decode cX9_oneTurning 30 = .ok (.iload 4, 2) := by decide +kernel
theorem dX9_oneTurning_32 : decode cX9_oneTurning 32 = .ok (.iaload, 1) := by decide +kernel
theorem dX9_oneTurning_33 : decode cX9_oneTurning 33 = .ok (.istore 5, 2) := by decide +kernel
theorem dX9_oneTurning_35 : decode cX9_oneTurning 35 = .ok (.bipush (-2), 2) := by decide +kernel
theorem dX9_oneTurning_37 : decode cX9_oneTurning 37 = .ok (.istore 6, 2) := by decide +kernel
theorem dX9_oneTurning_39 : decode cX9_oneTurning 39 = .ok (.bipush (-2), 2) := by decide +kernel
theorem dX9_oneTurning_41 : decode cX9_oneTurning 41 = .ok (.istore 7, 2) := by decide +kernel
theorem dX9_oneTurning_43 : decode cX9_oneTurning 43 = .ok (.iconst 0, 1) := by decide +kernel
theorem dX9_oneTurning_44 : decode cX9_oneTurning 44 = .ok (.istore 8, 2) := by decide +kernel
theorem dX9_oneTurning_46 : decode cX9_oneTurning 46 = .ok (.iconst 0, 1) := by decide +kernel
theorem dX9_oneTurning_47 : decode cX9_oneTurning 47 = .ok (.istore 9, 2) := by decide +kernel
theorem dX9_oneTurning_49 : decode cX9_oneTurning 49 = .ok (.iload 9, 2) := by decide +kernel
theorem dX9_oneTurning_51 : decode cX9_oneTurning 51 = .ok (.aload_n 0, 1) := by decide +kernel
theorem dX9_oneTurning_52 : decode cX9_oneTurning 52 = .ok (.getfield 19, 3) := by decide +kernel
theorem dX9_oneTurning_55 : decode cX9_oneTurning 55 = .ok (.getfield 40, 3) := by decide +kernel
theorem dX9_oneTurning_58 : decode cX9_oneTurning 58 = .ok (.if_icmp .ge 110, 3) := by decide +kernel
theorem dX9_oneTurning_61 : decode cX9_oneTurning 61 = .ok (.iconst 0, 1) := by decide +kernel
theorem dX9_oneTurning_62 : decode cX9_oneTurning 62 = .ok (.istore 10, 2) := by decide +kernel
theorem dX9_oneTurning_64 : decode cX9_oneTurning 64 = .ok (.iload 10, 2) := by decide +kernel
theorem dX9_oneTurning_66 : decode cX9_oneTurning 66 = .ok (.bipush 60, 2) := by decide +kernel
theorem dX9_oneTurning_68 : decode cX9_oneTurning 68 = .ok (.if_icmp .gt 57, 3) := by decide +kernel
theorem dX9_oneTurning_71 : decode cX9_oneTurning 71 = .ok (.iload 8, 2) := by decide +kernel
theorem dX9_oneTurning_73 : decode cX9_oneTurning 73 = .ok (.iload 10, 2) := by decide +kernel
theorem dX9_oneTurning_75 : decode cX9_oneTurning 75 = .ok (.iload 4, 2) := by decide +kernel
theorem dX9_oneTurning_77 : decode cX9_oneTurning 77 = .ok (.isub, 1) := by decide +kernel
theorem dX9_oneTurning_78 : decode cX9_oneTurning 78 = .ok (.invokestatic 68, 3) := by decide +kernel
theorem dX9_oneTurning_81 : decode cX9_oneTurning 81 = .ok (.iload_n 3, 1) := by decide +kernel
theorem dX9_oneTurning_82 : decode cX9_oneTurning 82 = .ok (.imul, 1) := by decide +kernel
theorem dX9_oneTurning_83 : decode cX9_oneTurning 83 = .ok (.iadd, 1) := by decide +kernel
theorem dX9_oneTurning_84 : decode cX9_oneTurning 84 = .ok (.aload_n 0, 1) := by decide +kernel
theorem dX9_oneTurning_85 : decode cX9_oneTurning 85 = .ok (.getfield 9, 3) := by decide +kernel
theorem dX9_oneTurning_88 : decode cX9_oneTurning 88 = .ok (.iload 9, 2) := by decide +kernel
theorem dX9_oneTurning_90 : decode cX9_oneTurning 90 = .ok (.bipush 61, 2) := by decide +kernel
theorem dX9_oneTurning_92 : decode cX9_oneTurning 92 = .ok (.imul, 1) := by decide +kernel
theorem dX9_oneTurning_93 : decode cX9_oneTurning 93 = .ok (.iload 10, 2) := by decide +kernel
theorem dX9_oneTurning_95 : decode cX9_oneTurning 95 = .ok (.iadd, 1) := by decide +kernel
theorem dX9_oneTurning_96 : decode cX9_oneTurning 96 = .ok (.iaload, 1) := by decide +kernel
theorem dX9_oneTurning_97 : decode cX9_oneTurning 97 = .ok (.iadd, 1) := by decide +kernel
theorem dX9_oneTurning_98 : decode cX9_oneTurning 98 = .ok (.istore 11, 2) := by decide +kernel
theorem dX9_oneTurning_100 : decode cX9_oneTurning 100 = .ok (.iload 11, 2) := by decide +kernel
theorem dX9_oneTurning_102 : decode cX9_oneTurning 102 = .ok (.iload 5, 2) := by decide +kernel
theorem dX9_oneTurning_104 : decode cX9_oneTurning 104 = .ok (.if_icmp .ge 15, 3) := by decide +kernel
theorem dX9_oneTurning_107 : decode cX9_oneTurning 107 = .ok (.iload 11, 2) := by decide +kernel
theorem dX9_oneTurning_109 : decode cX9_oneTurning 109 = .ok (.istore 5, 2) := by decide +kernel
theorem dX9_oneTurning_111 : decode cX9_oneTurning 111 = .ok (.iload 9, 2) := by decide +kernel
theorem dX9_oneTurning_113 : decode cX9_oneTurning 113 = .ok (.istore 6, 2) := by decide +kernel
theorem dX9_oneTurning_115 : decode cX9_oneTurning 115 = .ok (.iload 10, 2) := by decide +kernel
theorem dX9_oneTurning_117 : decode cX9_oneTurning 117 = .ok (.istore 7, 2) := by decide +kernel
theorem dX9_oneTurning_119 : decode cX9_oneTurning 119 = .ok (.iinc 10 1, 3) := by decide +kernel
theorem dX9_oneTurning_122 : decode cX9_oneTurning 122 = .ok (.goto (-58), 3) := by decide +kernel
theorem dX9_oneTurning_125 : decode cX9_oneTurning 125 = .ok (.iload 8, 2) := by decide +kernel
theorem dX9_oneTurning_127 : decode cX9_oneTurning 127 = .ok (.aload_n 0, 1) := by decide +kernel
theorem dX9_oneTurning_128 : decode cX9_oneTurning 128 = .ok (.getfield 15, 3) := by decide +kernel
theorem dX9_oneTurning_131 : decode cX9_oneTurning 131 = .ok (.aload_n 0, 1) := by decide +kernel
theorem dX9_oneTurning_132 : decode cX9_oneTurning 132 = .ok (.getfield 19, 3) := by decide +kernel
theorem dX9_oneTurning_135 : decode cX9_oneTurning 135 = .ok (.getfield 57, 3) := by decide +kernel
theorem dX9_oneTurning_138 : decode cX9_oneTurning 138 = .ok (.iload 9, 2) := by decide +kernel
theorem dX9_oneTurning_140 : decode cX9_oneTurning 140 = .ok (.iaload, 1) := by decide +kernel
theorem dX9_oneTurning_141 : decode cX9_oneTurning 141 = .ok (.iload_n 1, 1) := by decide +kernel
theorem dX9_oneTurning_142 : decode cX9_oneTurning 142 = .ok (.iload 4, 2) := by decide +kernel
theorem dX9_oneTurning_144 : decode cX9_oneTurning 144 = .ok (.invokevirtual 60, 3) := by decide +kernel
theorem dX9_oneTurning_147 : decode cX9_oneTurning 147 = .ok (.iadd, 1) := by decide +kernel
theorem dX9_oneTurning_148 : decode cX9_oneTurning 148 = .ok (.istore 8, 2) := by decide +kernel
theorem dX9_oneTurning_150 : decode cX9_oneTurning 150 = .ok (.aload_n 0, 1) := by decide +kernel
theorem dX9_oneTurning_151 : decode cX9_oneTurning 151 = .ok (.getfield 15, 3) := by decide +kernel
theorem dX9_oneTurning_154 : decode cX9_oneTurning 154 = .ok (.iload_n 1, 1) := by decide +kernel
theorem dX9_oneTurning_155 : decode cX9_oneTurning 155 = .ok (.iload 4, 2) := by decide +kernel
theorem dX9_oneTurning_157 : decode cX9_oneTurning 157 = .ok (.invokevirtual 36, 3) := by decide +kernel
theorem dX9_oneTurning_160 : decode cX9_oneTurning 160 = .ok (.istore 4, 2) := by decide +kernel
theorem dX9_oneTurning_162 : decode cX9_oneTurning 162 = .ok (.iinc 9 1, 3) := by decide +kernel
theorem dX9_oneTurning_165 : decode cX9_oneTurning 165 = .ok (.goto (-116), 3) := by decide +kernel
theorem dX9_oneTurning_168 : decode cX9_oneTurning 168 = .ok (.iload_n 2, 1) := by decide +kernel
theorem dX9_oneTurning_169 : decode cX9_oneTurning 169 = .ok (.ifCond .ne 6, 3) := by decide +kernel
theorem dX9_oneTurning_172 : decode cX9_oneTurning 172 = .ok (.iload 5, 2) := by decide +kernel
theorem dX9_oneTurning_174 : decode cX9_oneTurning 174 = .ok (.ireturn, 1) := by decide +kernel
theorem dX9_oneTurning_175 : decode cX9_oneTurning 175 = .ok (.iload_n 2, 1) := by decide +kernel
theorem dX9_oneTurning_176 : decode cX9_oneTurning 176 = .ok (.iconst 1, 1) := by decide +kernel
theorem dX9_oneTurning_177 : decode cX9_oneTurning 177 = .ok (.if_icmp .ne 8, 3) := by decide +kernel
theorem dX9_oneTurning_180 : decode cX9_oneTurning 180 = .ok (.iload 6, 2) := by decide +kernel
theorem dX9_oneTurning_182 : decode cX9_oneTurning 182 = .ok (.goto 5, 3) := by decide +kernel
theorem dX9_oneTurning_185 : decode cX9_oneTurning 185 = .ok (.iload 7, 2) := by decide +kernel
theorem dX9_oneTurning_187 : decode cX9_oneTurning 187 = .ok (.ireturn, 1) := by decide +kernel
theorem dX10_reads_0 : decode cX10_reads 0 = .ok (.aload_n 0, 1) := by decide +kernel
theorem dX10_reads_1 : decode cX10_reads 1 = .ok (.bipush 21, 2) := by decide +kernel
theorem dX10_reads_3 : decode cX10_reads 3 = .ok (.aload_n 1, 1) := by decide +kernel
theorem dX10_reads_4 : decode cX10_reads 4 = .ok (.getfield 18, 3) := by decide +kernel
theorem dX10_reads_7 : decode cX10_reads 7 = .ok (.invokestatic 24, 3) := by decide +kernel
theorem dX10_reads_10 : decode cX10_reads 10 = .ok (.putfield 30, 3) := by decide +kernel
theorem dX10_reads_13 : decode cX10_reads 13 = .ok (.aload_n 0, 1) := by decide +kernel
theorem dX10_reads_14 : decode cX10_reads 14 = .ok (.iconst 0, 1) := by decide +kernel
theorem dX10_reads_15 : decode cX10_reads 15 = .ok (.putfield 31, 3) := by decide +kernel
theorem dX10_reads_18 : decode cX10_reads 18 = .ok (.iconst 0, 1) := by decide +kernel
theorem dX10_reads_19 : decode cX10_reads 19 = .ok (.istore_n 3, 1) := by decide +kernel
theorem dX10_reads_20 : decode cX10_reads 20 = .ok (.iload_n 3, 1) := by decide +kernel
theorem dX10_reads_21 : decode cX10_reads 21 = .ok (.bipush 8, 2) := by decide +kernel
theorem dX10_reads_23 : decode cX10_reads 23 = .ok (.if_icmp .ge 16, 3) := by decide +kernel
theorem dX10_reads_26 : decode cX10_reads 26 = .ok (.aload_n 0, 1) := by decide +kernel
theorem dX10_reads_27 : decode cX10_reads 27 = .ok (.getfield 15, 3) := by decide +kernel
theorem dX10_reads_30 : decode cX10_reads 30 = .ok (.iload_n 3, 1) := by decide +kernel
theorem dX10_reads_31 : decode cX10_reads 31 = .ok (.iconst 0, 1) := by decide +kernel
theorem dX10_reads_32 : decode cX10_reads 32 = .ok (.iastore, 1) := by decide +kernel
theorem dX10_reads_33 : decode cX10_reads 33 = .ok (.iinc 3 1, 3) := by decide +kernel
theorem dX10_reads_36 : decode cX10_reads 36 = .ok (.goto (-16), 3) := by decide +kernel
theorem dX10_reads_39 : decode cX10_reads 39 = .ok (.iconst 0, 1) := by decide +kernel
theorem dX10_reads_40 : decode cX10_reads 40 = .ok (.istore_n 3, 1) := by decide +kernel
theorem dX10_reads_41 : decode cX10_reads 41 = .ok (.iload_n 3, 1) := by decide +kernel
theorem dX10_reads_42 : decode cX10_reads 42 = .ok (.aload_n 0, 1) := by decide +kernel
theorem dX10_reads_43 : decode cX10_reads 43 = .ok (.getfield 30, 3) := by decide +kernel
theorem dX10_reads_46 : decode cX10_reads 46 = .ok (.if_icmp .ge 72, 3) := by decide +kernel
theorem dX10_reads_49 : decode cX10_reads 49 = .ok (.aload_n 1, 1) := by decide +kernel
theorem dX10_reads_50 : decode cX10_reads 50 = .ok (.getfield 34, 3) := by decide +kernel
theorem dX10_reads_53 : decode cX10_reads 53 = .ok (.iload_n 3, 1) := by decide +kernel
theorem dX10_reads_54 : decode cX10_reads 54 = .ok (.laload, 1) := by decide +kernel
theorem dX10_reads_55 : decode cX10_reads 55 = .ok (.l2i, 1) := by decide +kernel
theorem dX10_reads_56 : decode cX10_reads 56 = .ok (.istore 4, 2) := by decide +kernel
theorem dX10_reads_58 : decode cX10_reads 58 = .ok (.aload_n 0, 1) := by decide +kernel
theorem dX10_reads_59 : decode cX10_reads 59 = .ok (.getfield 9, 3) := by decide +kernel
theorem dX10_reads_62 : decode cX10_reads 62 = .ok (.iload_n 3, 1) := by decide +kernel
theorem dX10_reads_63 : decode cX10_reads 63 = .ok (.iload 4, 2) := by decide +kernel
theorem dX10_reads_65 : decode cX10_reads 65 = .ok (.ifCond .lt 14, 3) := by decide +kernel
theorem dX10_reads_68 : decode cX10_reads 68 = .ok (.iload 4, 2) := by decide +kernel
theorem dX10_reads_70 : decode cX10_reads 70 = .ok (.iload_n 2, 1) := by decide +kernel
theorem dX10_reads_71 : decode cX10_reads 71 = .ok (.if_icmp .ge 8, 3) := by decide +kernel
theorem dX10_reads_74 : decode cX10_reads 74 = .ok (.iload 4, 2) := by decide +kernel
theorem dX10_reads_76 : decode cX10_reads 76 = .ok (.goto 4, 3) := by decide +kernel
theorem dX10_reads_79 : decode cX10_reads 79 = .ok (.iconst (-1), 1) := by decide +kernel
theorem dX10_reads_80 : decode cX10_reads 80 = .ok (.iastore, 1) := by decide +kernel
theorem dX10_reads_81 : decode cX10_reads 81 = .ok (.aload_n 0, 1) := by decide +kernel
theorem dX10_reads_82 : decode cX10_reads 82 = .ok (.getfield 9, 3) := by decide +kernel
theorem dX10_reads_85 : decode cX10_reads 85 = .ok (.iload_n 3, 1) := by decide +kernel
theorem dX10_reads_86 : decode cX10_reads 86 = .ok (.iaload, 1) := by decide +kernel
theorem dX10_reads_87 : decode cX10_reads 87 = .ok (.iconst (-1), 1) := by decide +kernel
theorem dX10_reads_88 : decode cX10_reads 88 = .ok (.if_icmp .eq 24, 3) := by decide +kernel
theorem dX10_reads_91 : decode cX10_reads 91 = .ok (.aload_n 0, 1) := by decide +kernel
theorem dX10_reads_92 : decode cX10_reads 92 = .ok (.getfield 15, 3) := by decide +kernel
theorem dX10_reads_95 : decode cX10_reads 95 = .ok (.iload 4, 2) := by decide +kernel
theorem dX10_reads_97 : decode cX10_reads 97 = .ok (.dup2, 1) := by decide +kernel
theorem dX10_reads_98 : decode cX10_reads 98 = .ok (.iaload, 1) := by decide +kernel
theorem dX10_reads_99 : decode cX10_reads 99 = .ok (.iconst 1, 1) := by decide +kernel
theorem dX10_reads_100 : decode cX10_reads 100 = .ok (.iadd, 1) := by decide +kernel
theorem dX10_reads_101 : decode cX10_reads 101 = .ok (.iastore, 1) := by decide +kernel
theorem dX10_reads_102 : decode cX10_reads 102 = .ok (.aload_n 0, 1) := by decide +kernel
theorem dX10_reads_103 : decode cX10_reads 103 = .ok (.dup, 1) := by decide +kernel
theorem dX10_reads_104 : decode cX10_reads 104 = .ok (.getfield 31, 3) := by decide +kernel
theorem dX10_reads_107 : decode cX10_reads 107 = .ok (.iconst 1, 1) := by decide +kernel
theorem dX10_reads_108 : decode cX10_reads 108 = .ok (.iadd, 1) := by decide +kernel
theorem dX10_reads_109 : decode cX10_reads 109 = .ok (.putfield 31, 3) := by decide +kernel
theorem dX10_reads_112 : decode cX10_reads 112 = .ok (.iinc 3 1, 3) := by decide +kernel
theorem dX10_reads_115 : decode cX10_reads 115 = .ok (.goto (-74), 3) := by decide +kernel
theorem dX10_reads_118 : decode cX10_reads 118 = .ok (.return_, 1) := by decide +kernel
theorem dX11_sitter_0 : decode cX11_sitter 0 = .ok (.iload_n 1, 1) := by decide +kernel
theorem dX11_sitter_1 : decode cX11_sitter 1 = .ok (.invokestatic 85, 3) := by decide +kernel
theorem dX11_sitter_4 : decode cX11_sitter 4 = .ok (.ifCond .eq 11, 3) := by decide +kernel
theorem dX11_sitter_7 : decode cX11_sitter 7 = .ok (.iconst 5, 1) := by decide +kernel
theorem dX11_sitter_8 : decode cX11_sitter 8 = .ok (.iload_n 2, 1) := by decide +kernel
theorem dX11_sitter_9 : decode cX11_sitter 9 = .ok (.invokestatic 89, 3) := by decide +kernel
theorem dX11_sitter_12 : decode cX11_sitter 12 = .ok (.ifCond .ne 5, 3) := by decide +kernel
theorem dX11_sitter_15 : decode cX11_sitter 15 = .ok (.iconst (-1), 1) := by decide +kernel
theorem dX11_sitter_16 : decode cX11_sitter 16 = .ok (.ireturn, 1) := by decide +kernel
theorem dX11_sitter_17 : decode cX11_sitter 17 = .ok (.aload_n 0, 1) := by decide +kernel
theorem dX11_sitter_18 : decode cX11_sitter 18 = .ok (.getfield 12, 3) := by decide +kernel
theorem dX11_sitter_21 : decode cX11_sitter 21 = .ok (.iload_n 1, 1) := by decide +kernel
theorem dX11_sitter_22 : decode cX11_sitter 22 = .ok (.iload_n 1, 1) := by decide +kernel
theorem dX11_sitter_23 : decode cX11_sitter 23 = .ok (.iload_n 1, 1) := by decide +kernel
theorem dX11_sitter_24 : decode cX11_sitter 24 = .ok (.iload_n 2, 1) := by decide +kernel
theorem dX11_sitter_25 : decode cX11_sitter 25 = .ok (.invokevirtual 93, 3) := by decide +kernel
theorem dX11_sitter_28 : decode cX11_sitter 28 = .ok (.ireturn, 1) := by decide +kernel
theorem dX11_sitters_0 : decode cX11_sitters 0 = .ok (.iload_n 1, 1) := by decide +kernel
theorem dX11_sitters_1 : decode cX11_sitters 1 = .ok (.invokestatic 97, 3) := by decide +kernel
theorem dX11_sitters_4 : decode cX11_sitters 4 = .ok (.ifCond .eq 14, 3) := by decide +kernel
theorem dX11_sitters_7 : decode cX11_sitters 7 = .ok (.iload_n 3, 1) := by decide +kernel
theorem dX11_sitters_8 : decode cX11_sitters 8 = .ok (.iconst 1, 1) := by decide +kernel
theorem dX11_sitters_9 : decode cX11_sitters 9 = .ok (.if_icmp .lt 9, 3) := by decide +kernel
theorem dX11_sitters_12 : decode cX11_sitters 12 = .ok (.iload_n 3, 1) := by decide +kernel
theorem dX11_sitters_13 : decode cX11_sitters 13 = .ok (.bipush 8, 2) := by decide +kernel
theorem dX11_sitters_15 : decode cX11_sitters 15 = .ok (.if_icmp .le 5, 3) := by decide +kernel
theorem dX11_sitters_18 : decode cX11_sitters 18 = .ok (.iconst (-1), 1) := by decide +kernel
theorem dX11_sitters_19 : decode cX11_sitters 19 = .ok (.ireturn, 1) := by decide +kernel
theorem dX11_sitters_20 : decode cX11_sitters 20 = .ok (.aload_n 0, 1) := by decide +kernel
theorem dX11_sitters_21 : decode cX11_sitters 21 = .ok (.getfield 80, 3) := by decide +kernel
theorem dX11_sitters_24 : decode cX11_sitters 24 = .ok (.iload_n 1, 1) := by decide +kernel
theorem dX11_sitters_25 : decode cX11_sitters 25 = .ok (.aaload, 1) := by decide +kernel
theorem dX11_sitters_26 : decode cX11_sitters 26 = .ok (.astore 4, 2) := by decide +kernel
theorem dX11_sitters_28 : decode cX11_sitters 28 = .ok (.aload 4, 2) := by decide +kernel
theorem dX11_sitters_30 : decode cX11_sitters 30 = .ok (.getfield 100, 3) := by decide +kernel
theorem dX11_sitters_33 : decode cX11_sitters 33 = .ok (.iconst (-1), 1) := by decide +kernel
theorem dX11_sitters_34 : decode cX11_sitters 34 = .ok (.if_icmp .ne 5, 3) := by decide +kernel
theorem dX11_sitters_37 : decode cX11_sitters 37 = .ok (.iconst 0, 1) := by decide +kernel
theorem dX11_sitters_38 : decode cX11_sitters 38 = .ok (.ireturn, 1) := by decide +kernel
theorem dX11_sitters_39 : decode cX11_sitters 39 = .ok (.aload 4, 2) := by decide +kernel
theorem dX11_sitters_41 : decode cX11_sitters 41 = .ok (.getfield 100, 3) := by decide +kernel
theorem dX11_sitters_44 : decode cX11_sitters 44 = .ok (.ifCond .ne 14, 3) := by decide +kernel
theorem dX11_sitters_47 : decode cX11_sitters 47 = .ok (.aload_n 0, 1) := by decide +kernel
theorem dX11_sitters_48 : decode cX11_sitters 48 = .ok (.aload 4, 2) := by decide +kernel
theorem dX11_sitters_50 : decode cX11_sitters 50 = .ok (.iload_n 2, 1) := by decide +kernel
theorem dX11_sitters_51 : decode cX11_sitters 51 = .ok (.iload_n 3, 1) := by decide +kernel
theorem dX11_sitters_52 : decode cX11_sitters 52 = .ok (.invokevirtual 104, 3) := by decide +kernel
theorem dX11_sitters_55 : decode cX11_sitters 55 = .ok (.goto 5, 3) := by decide +kernel
theorem dX11_sitters_58 : decode cX11_sitters 58 = .ok (.bipush (-12), 2) := by decide +kernel
theorem dX11_sitters_60 : decode cX11_sitters 60 = .ok (.ireturn, 1) := by decide +kernel
theorem dX11_mend_0 : decode cX11_mend 0 = .ok (.aload_n 0, 1) := by decide +kernel
theorem dX11_mend_1 : decode cX11_mend 1 = .ok (.getfield 12, 3) := by decide +kernel
theorem dX11_mend_4 : decode cX11_mend 4 = .ok (.iload_n 1, 1) := by decide +kernel
theorem dX11_mend_5 : decode cX11_mend 5 = .ok (.iload_n 2, 1) := by decide +kernel
theorem dX11_mend_6 : decode cX11_mend 6 = .ok (.invokevirtual 108, 3) := by decide +kernel
theorem dX11_mend_9 : decode cX11_mend 9 = .ok (.istore 4, 2) := by decide +kernel
theorem dX11_mend_11 : decode cX11_mend 11 = .ok (.iload 4, 2) := by decide +kernel
theorem dX11_mend_13 : decode cX11_mend 13 = .ok (.ifCond .lt 11, 3) := by decide +kernel
theorem dX11_mend_16 : decode cX11_mend 16 = .ok (.iload_n 2, 1) := by decide +kernel
theorem dX11_mend_17 : decode cX11_mend 17 = .ok (.iload_n 3, 1) := by decide +kernel
theorem dX11_mend_18 : decode cX11_mend 18 = .ok (.invokestatic 89, 3) := by decide +kernel
theorem dX11_mend_21 : decode cX11_mend 21 = .ok (.ifCond .ne 5, 3) := by decide +kernel
theorem dX11_mend_24 : decode cX11_mend 24 = .ok (.iconst (-1), 1) := by decide +kernel
theorem dX11_mend_25 : decode cX11_mend 25 = .ok (.ireturn, 1) := by decide +kernel
theorem dX11_mend_26 : decode cX11_mend 26 = .ok (.aload_n 0, 1) := by decide +kernel
theorem dX11_mend_27 : decode cX11_mend 27 = .ok (.getfield 12, 3) := by decide +kernel
theorem dX11_mend_30 : decode cX11_mend 30 = .ok (.getfield 112, 3) := by decide +kernel
theorem dX11_mend_33 : decode cX11_mend 33 = .ok (.iload 4, 2) := by decide +kernel
theorem dX11_mend_35 : decode cX11_mend 35 = .ok (.iaload, 1) := by decide +kernel
theorem dX11_mend_36 : decode cX11_mend 36 = .ok (.istore 5, 2) := by decide +kernel
theorem dX11_mend_38 : decode cX11_mend 38 = .ok (.iload 5, 2) := by decide +kernel
theorem dX11_mend_40 : decode cX11_mend 40 = .ok (.iload_n 3, 1) := by decide +kernel
theorem dX11_mend_41 : decode cX11_mend 41 = .ok (.if_icmp .eq 25, 3) := by decide +kernel
theorem dX11_mend_44 : decode cX11_mend 44 = .ok (.aload_n 0, 1) := by decide +kernel
theorem dX11_mend_45 : decode cX11_mend 45 = .ok (.getfield 67, 3) := by decide +kernel
theorem dX11_mend_48 : decode cX11_mend 48 = .ok (.iload 4, 2) := by decide +kernel
theorem dX11_mend_50 : decode cX11_mend 50 = .ok (.iload 5, 2) := by decide +kernel
theorem dX11_mend_52 : decode cX11_mend 52 = .ok (.iload_n 3, 1) := by decide +kernel
theorem dX11_mend_53 : decode cX11_mend 53 = .ok (.invokevirtual 116, 3) := by decide +kernel
theorem dX11_mend_56 : decode cX11_mend 56 = .ok (.aload_n 0, 1) := by decide +kernel
theorem dX11_mend_57 : decode cX11_mend 57 = .ok (.getfield 12, 3) := by decide +kernel
theorem dX11_mend_60 : decode cX11_mend 60 = .ok (.iload 4, 2) := by decide +kernel
theorem dX11_mend_62 : decode cX11_mend 62 = .ok (.iload_n 3, 1) := by decide +kernel
theorem dX11_mend_63 : decode cX11_mend 63 = .ok (.invokevirtual 119, 3) := by decide +kernel
theorem dX11_mend_66 : decode cX11_mend 66 = .ok (.iload 5, 2) := by decide +kernel
theorem dX11_mend_68 : decode cX11_mend 68 = .ok (.ireturn, 1) := by decide +kernel
theorem dX11_of_0 : decode cX11_of 0 = .ok (.iload_n 2, 1) := by decide +kernel
theorem dX11_of_1 : decode cX11_of 1 = .ok (.bipush 11, 2) := by decide +kernel
theorem dX11_of_3 : decode cX11_of 3 = .ok (.if_icmp .ne 24, 3) := by decide +kernel
theorem dX11_of_6 : decode cX11_of 6 = .ok (.iload_n 1, 1) := by decide +kernel
theorem dX11_of_7 : decode cX11_of 7 = .ok (.invokestatic 123, 3) := by decide +kernel
theorem dX11_of_10 : decode cX11_of 10 = .ok (.ifCond .eq 15, 3) := by decide +kernel
theorem dX11_of_13 : decode cX11_of 13 = .ok (.aload_n 0, 1) := by decide +kernel
theorem dX11_of_14 : decode cX11_of 14 = .ok (.getfield 12, 3) := by decide +kernel
theorem dX11_of_17 : decode cX11_of 17 = .ok (.getfield 126, 3) := by decide +kernel
theorem dX11_of_20 : decode cX11_of 20 = .ok (.iload_n 1, 1) := by decide +kernel
theorem dX11_of_21 : decode cX11_of 21 = .ok (.iaload, 1) := by decide +kernel
theorem dX11_of_22 : decode cX11_of 22 = .ok (.goto 4, 3) := by decide +kernel
theorem dX11_of_25 : decode cX11_of 25 = .ok (.iconst (-1), 1) := by decide +kernel
theorem dX11_of_26 : decode cX11_of 26 = .ok (.ireturn, 1) := by decide +kernel
theorem dX11_of_27 : decode cX11_of 27 = .ok (.aload_n 0, 1) := by decide +kernel
theorem dX11_of_28 : decode cX11_of 28 = .ok (.getfield 12, 3) := by decide +kernel
theorem dX11_of_31 : decode cX11_of 31 = .ok (.iload_n 1, 1) := by decide +kernel
theorem dX11_of_32 : decode cX11_of 32 = .ok (.iload_n 2, 1) := by decide +kernel
theorem dX11_of_33 : decode cX11_of 33 = .ok (.invokevirtual 108, 3) := by decide +kernel
theorem dX11_of_36 : decode cX11_of 36 = .ok (.istore_n 3, 1) := by decide +kernel
theorem dX11_of_37 : decode cX11_of 37 = .ok (.iload_n 3, 1) := by decide +kernel
theorem dX11_of_38 : decode cX11_of 38 = .ok (.ifCond .ge 7, 3) := by decide +kernel
theorem dX11_of_41 : decode cX11_of 41 = .ok (.iconst (-1), 1) := by decide +kernel
theorem dX11_of_42 : decode cX11_of 42 = .ok (.goto 12, 3) := by decide +kernel
theorem dX11_of_45 : decode cX11_of 45 = .ok (.aload_n 0, 1) := by decide +kernel
theorem dX11_of_46 : decode cX11_of 46 = .ok (.getfield 12, 3) := by decide +kernel
theorem dX11_of_49 : decode cX11_of 49 = .ok (.getfield 112, 3) := by decide +kernel
theorem dX11_of_52 : decode cX11_of 52 = .ok (.iload_n 3, 1) := by decide +kernel
theorem dX11_of_53 : decode cX11_of 53 = .ok (.iaload, 1) := by decide +kernel
theorem dX11_of_54 : decode cX11_of 54 = .ok (.ireturn, 1) := by decide +kernel
theorem dX11_feed_0 : decode cX11_feed 0 = .ok (.iload_n 1, 1) := by decide +kernel
theorem dX11_feed_1 : decode cX11_feed 1 = .ok (.ifCond .lt 10, 3) := by decide +kernel
theorem dX11_feed_4 : decode cX11_feed 4 = .ok (.iload_n 1, 1) := by decide +kernel
theorem dX11_feed_5 : decode cX11_feed 5 = .ok (.sipush 255, 3) := by decide +kernel
theorem dX11_feed_8 : decode cX11_feed 8 = .ok (.if_icmp .le 7, 3) := by decide +kernel
theorem dX11_feed_11 : decode cX11_feed 11 = .ok (.iconst (-1), 1) := by decide +kernel
theorem dX11_feed_12 : decode cX11_feed 12 = .ok (.goto 14, 3) := by decide +kernel
theorem dX11_feed_15 : decode cX11_feed 15 = .ok (.aload_n 0, 1) := by decide +kernel
theorem dX11_feed_16 : decode cX11_feed 16 = .ok (.getfield 12, 3) := by decide +kernel
theorem dX11_feed_19 : decode cX11_feed 19 = .ok (.getfield 129, 3) := by decide +kernel
theorem dX11_feed_22 : decode cX11_feed 22 = .ok (.iload_n 1, 1) := by decide +kernel
theorem dX11_feed_23 : decode cX11_feed 23 = .ok (.invokevirtual 133, 3) := by decide +kernel
theorem dX11_feed_26 : decode cX11_feed 26 = .ok (.ireturn, 1) := by decide +kernel
theorem dX11_law_0 : decode cX11_law 0 = .ok (.aload_n 0, 1) := by decide +kernel
theorem dX11_law_1 : decode cX11_law 1 = .ok (.getfield 12, 3) := by decide +kernel
theorem dX11_law_4 : decode cX11_law 4 = .ok (.getfield 129, 3) := by decide +kernel
theorem dX11_law_7 : decode cX11_law 7 = .ok (.invokevirtual 139, 3) := by decide +kernel
theorem dX11_law_10 : decode cX11_law 10 = .ok (.istore_n 1, 1) := by decide +kernel
theorem dX11_law_11 : decode cX11_law 11 = .ok (.iload_n 1, 1) := by decide +kernel
theorem dX11_law_12 : decode cX11_law 12 = .ok (.iconst 1, 1) := by decide +kernel
theorem dX11_law_13 : decode cX11_law 13 = .ok (.if_icmp .ne 10, 3) := by decide +kernel
theorem dX11_law_16 : decode cX11_law 16 = .ok (.aload_n 0, 1) := by decide +kernel
theorem dX11_law_17 : decode cX11_law 17 = .ok (.getfield 12, 3) := by decide +kernel
theorem dX11_law_20 : decode cX11_law 20 = .ok (.invokevirtual 143, 3) := by decide +kernel
theorem dX11_law_23 : decode cX11_law 23 = .ok (.iload_n 1, 1) := by decide +kernel
theorem dX11_law_24 : decode cX11_law 24 = .ok (.ireturn, 1) := by decide +kernel
theorem dX11_loss_0 : decode cX11_loss 0 = .ok (.aload_n 0, 1) := by decide +kernel
theorem dX11_loss_1 : decode cX11_loss 1 = .ok (.getfield 12, 3) := by decide +kernel
theorem dX11_loss_4 : decode cX11_loss 4 = .ok (.iload_n 1, 1) := by decide +kernel
theorem dX11_loss_5 : decode cX11_loss 5 = .ok (.invokevirtual 146, 3) := by decide +kernel
theorem dX11_loss_8 : decode cX11_loss 8 = .ok (.ifCond .eq 17, 3) := by decide +kernel
theorem dX11_loss_11 : decode cX11_loss 11 = .ok (.iload_n 2, 1) := by decide +kernel
theorem dX11_loss_12 : decode cX11_loss 12 = .ok (.invokestatic 123, 3) := by decide +kernel
theorem dX11_loss_15 : decode cX11_loss 15 = .ok (.ifCond .eq 10, 3) := by decide +kernel
theorem dX11_loss_18 : decode cX11_loss 18 = .ok (.iload_n 3, 1) := by decide +kernel
theorem dX11_loss_19 : decode cX11_loss 19 = .ok (.invokestatic 85, 3) := by decide +kernel
theorem dX11_loss_22 : decode cX11_loss 22 = .ok (.ifCond .ne 5, 3) := by decide +kernel
theorem dX11_loss_25 : decode cX11_loss 25 = .ok (.iconst (-1), 1) := by decide +kernel
theorem dX11_loss_26 : decode cX11_loss 26 = .ok (.ireturn, 1) := by decide +kernel
theorem dX11_loss_27 : decode cX11_loss 27 = .ok (.aload_n 0, 1) := by decide +kernel
theorem dX11_loss_28 : decode cX11_loss 28 = .ok (.getfield 12, 3) := by decide +kernel
theorem dX11_loss_31 : decode cX11_loss 31 = .ok (.iload_n 1, 1) := by decide +kernel
theorem dX11_loss_32 : decode cX11_loss 32 = .ok (.iload_n 2, 1) := by decide +kernel
theorem dX11_loss_33 : decode cX11_loss 33 = .ok (.iload_n 3, 1) := by decide +kernel
theorem dX11_loss_34 : decode cX11_loss 34 = .ok (.invokevirtual 149, 3) := by decide +kernel
theorem dX11_loss_37 : decode cX11_loss 37 = .ok (.ireturn, 1) := by decide +kernel
theorem dX11_never_0 : decode cX11_never 0 = .ok (.iload_n 1, 1) := by decide +kernel
theorem dX11_never_1 : decode cX11_never 1 = .ok (.invokestatic 97, 3) := by decide +kernel
theorem dX11_never_4 : decode cX11_never 4 = .ok (.ifCond .eq 17, 3) := by decide +kernel
theorem dX11_never_7 : decode cX11_never 7 = .ok (.iload_n 2, 1) := by decide +kernel
theorem dX11_never_8 : decode cX11_never 8 = .ok (.invokestatic 123, 3) := by decide +kernel
theorem dX11_never_11 : decode cX11_never 11 = .ok (.ifCond .eq 10, 3) := by decide +kernel
theorem dX11_never_14 : decode cX11_never 14 = .ok (.iload_n 3, 1) := by decide +kernel
theorem dX11_never_15 : decode cX11_never 15 = .ok (.invokestatic 85, 3) := by decide +kernel
theorem dX11_never_18 : decode cX11_never 18 = .ok (.ifCond .ne 5, 3) := by decide +kernel
theorem dX11_never_21 : decode cX11_never 21 = .ok (.iconst (-1), 1) := by decide +kernel
theorem dX11_never_22 : decode cX11_never 22 = .ok (.ireturn, 1) := by decide +kernel
theorem dX11_never_23 : decode cX11_never 23 = .ok (.aload_n 0, 1) := by decide +kernel
theorem dX11_never_24 : decode cX11_never 24 = .ok (.iload_n 1, 1) := by decide +kernel
theorem dX11_never_25 : decode cX11_never 25 = .ok (.invokevirtual 153, 3) := by decide +kernel
theorem dX11_never_28 : decode cX11_never 28 = .ok (.istore 4, 2) := by decide +kernel
theorem dX11_never_30 : decode cX11_never 30 = .ok (.iload 4, 2) := by decide +kernel
theorem dX11_never_32 : decode cX11_never 32 = .ok (.ifCond .eq 8, 3) := by decide +kernel
theorem dX11_never_35 : decode cX11_never 35 = .ok (.iload 4, 2) := by decide +kernel
theorem dX11_never_37 : decode cX11_never 37 = .ok (.goto 12, 3) := by decide +kernel
theorem dX11_never_40 : decode cX11_never 40 = .ok (.aload_n 0, 1) := by decide +kernel
theorem dX11_never_41 : decode cX11_never 41 = .ok (.getfield 35, 3) := by decide +kernel
theorem dX11_never_44 : decode cX11_never 44 = .ok (.iload_n 2, 1) := by decide +kernel
theorem dX11_never_45 : decode cX11_never 45 = .ok (.iload_n 3, 1) := by decide +kernel
theorem dX11_never_46 : decode cX11_never 46 = .ok (.invokevirtual 156, 3) := by decide +kernel
theorem dX11_never_49 : decode cX11_never 49 = .ok (.ireturn, 1) := by decide +kernel
theorem dX11_best_0 : decode cX11_best 0 = .ok (.iload_n 1, 1) := by decide +kernel
theorem dX11_best_1 : decode cX11_best 1 = .ok (.invokestatic 97, 3) := by decide +kernel
theorem dX11_best_4 : decode cX11_best 4 = .ok (.ifCond .eq 19, 3) := by decide +kernel
theorem dX11_best_7 : decode cX11_best 7 = .ok (.iload_n 2, 1) := by decide +kernel
theorem dX11_best_8 : decode cX11_best 8 = .ok (.invokestatic 123, 3) := by decide +kernel
theorem dX11_best_11 : decode cX11_best 11 = .ok (.ifCond .eq 12, 3) := by decide +kernel
theorem dX11_best_14 : decode cX11_best 14 = .ok (.iload_n 3, 1) := by decide +kernel
theorem dX11_best_15 : decode cX11_best 15 = .ok (.ifCond .lt 8, 3) := by decide +kernel
theorem dX11_best_18 : decode cX11_best 18 = .ok (.iload_n 3, 1) := by decide +kernel
theorem dX11_best_19 : decode cX11_best 19 = .ok (.iconst 3, 1) := by decide +kernel
theorem dX11_best_20 : decode cX11_best 20 = .ok (.if_icmp .le 5, 3) := by decide +kernel
theorem dX11_best_23 : decode cX11_best 23 = .ok (.iconst (-1), 1) := by decide +kernel
theorem dX11_best_24 : decode cX11_best 24 = .ok (.ireturn, 1) := by decide +kernel
theorem dX11_best_25 : decode cX11_best 25 = .ok (.aload_n 0, 1) := by decide +kernel
theorem dX11_best_26 : decode cX11_best 26 = .ok (.iload_n 1, 1) := by decide +kernel
theorem dX11_best_27 : decode cX11_best 27 = .ok (.invokevirtual 153, 3) := by decide +kernel
theorem dX11_best_30 : decode cX11_best 30 = .ok (.istore 4, 2) := by decide +kernel
theorem dX11_best_32 : decode cX11_best 32 = .ok (.iload 4, 2) := by decide +kernel
theorem dX11_best_34 : decode cX11_best 34 = .ok (.ifCond .eq 6, 3) := by decide +kernel
theorem dX11_best_37 : decode cX11_best 37 = .ok (.iload 4, 2) := by decide +kernel
theorem dX11_best_39 : decode cX11_best 39 = .ok (.ireturn, 1) := by decide +kernel
theorem dX11_best_40 : decode cX11_best 40 = .ok (.aload_n 0, 1) := by decide +kernel
theorem dX11_best_41 : decode cX11_best 41 = .ok (.getfield 19, 3) := by decide +kernel
theorem dX11_best_44 : decode cX11_best 44 = .ok (.getfield 159, 3) := by decide +kernel
theorem dX11_best_47 : decode cX11_best 47 = .ok (.ifCond .ne 8, 3) := by decide +kernel
theorem dX11_best_50 : decode cX11_best 50 = .ok (.bipush (-2), 2) := by decide +kernel
theorem dX11_best_52 : decode cX11_best 52 = .ok (.goto 12, 3) := by decide +kernel
theorem dX11_best_55 : decode cX11_best 55 = .ok (.aload_n 0, 1) := by decide +kernel
theorem dX11_best_56 : decode cX11_best 56 = .ok (.getfield 35, 3) := by decide +kernel
theorem dX11_best_59 : decode cX11_best 59 = .ok (.iload_n 2, 1) := by decide +kernel
theorem dX11_best_60 : decode cX11_best 60 = .ok (.iload_n 3, 1) := by decide +kernel
theorem dX11_best_61 : decode cX11_best 61 = .ok (.invokevirtual 162, 3) := by decide +kernel
theorem dX11_best_64 : decode cX11_best 64 = .ok (.ireturn, 1) := by decide +kernel
theorem dX11_middle_0 : decode cX11_middle 0 = .ok (.iload_n 1, 1) := by decide +kernel
theorem dX11_middle_1 : decode cX11_middle 1 = .ok (.invokestatic 97, 3) := by decide +kernel
theorem dX11_middle_4 : decode cX11_middle 4 = .ok (.ifCond .eq 10, 3) := by decide +kernel
theorem dX11_middle_7 : decode cX11_middle 7 = .ok (.iload_n 2, 1) := by decide +kernel
theorem dX11_middle_8 : decode cX11_middle 8 = .ok (.invokestatic 123, 3) := by decide +kernel
theorem dX11_middle_11 : decode cX11_middle 11 = .ok (.ifCond .ne 5, 3) := by decide +kernel
theorem dX11_middle_14 : decode cX11_middle 14 = .ok (.iconst (-1), 1) := by decide +kernel
theorem dX11_middle_15 : decode cX11_middle 15 = .ok (.ireturn, 1) := by decide +kernel
theorem dX11_middle_16 : decode cX11_middle 16 = .ok (.aload_n 0, 1) := by decide +kernel
theorem dX11_middle_17 : decode cX11_middle 17 = .ok (.iload_n 1, 1) := by decide +kernel
theorem dX11_middle_18 : decode cX11_middle 18 = .ok (.invokevirtual 153, 3) := by decide +kernel
theorem dX11_middle_21 : decode cX11_middle 21 = .ok (.istore_n 3, 1) := by decide +kernel
theorem dX11_middle_22 : decode cX11_middle 22 = .ok (.iload_n 3, 1) := by decide +kernel
theorem dX11_middle_23 : decode cX11_middle 23 = .ok (.ifCond .eq 5, 3) := by decide +kernel
theorem dX11_middle_26 : decode cX11_middle 26 = .ok (.iload_n 3, 1) := by decide +kernel
theorem dX11_middle_27 : decode cX11_middle 27 = .ok (.ireturn, 1) := by decide +kernel
theorem dX11_middle_28 : decode cX11_middle 28 = .ok (.aload_n 0, 1) := by decide +kernel
theorem dX11_middle_29 : decode cX11_middle 29 = .ok (.getfield 19, 3) := by decide +kernel
theorem dX11_middle_32 : decode cX11_middle 32 = .ok (.getfield 159, 3) := by decide +kernel
theorem dX11_middle_35 : decode cX11_middle 35 = .ok (.ifCond .ne 8, 3) := by decide +kernel
theorem dX11_middle_38 : decode cX11_middle 38 = .ok (.bipush (-2), 2) := by decide +kernel
theorem dX11_middle_40 : decode cX11_middle 40 = .ok (.goto 11, 3) := by decide +kernel
theorem dX11_middle_43 : decode cX11_middle 43 = .ok (.aload_n 0, 1) := by decide +kernel
theorem dX11_middle_44 : decode cX11_middle 44 = .ok (.getfield 35, 3) := by decide +kernel
theorem dX11_middle_47 : decode cX11_middle 47 = .ok (.iload_n 2, 1) := by decide +kernel
theorem dX11_middle_48 : decode cX11_middle 48 = .ok (.invokevirtual 165, 3) := by decide +kernel
theorem dX11_middle_51 : decode cX11_middle 51 = .ok (.ireturn, 1) := by decide +kernel
theorem dX11_shifts_0 : decode cX11_shifts 0 = .ok (.iload_n 1, 1) := by decide +kernel
theorem dX11_shifts_1 : decode cX11_shifts 1 = .ok (.invokestatic 97, 3) := by decide +kernel
theorem dX11_shifts_4 : decode cX11_shifts 4 = .ok (.ifCond .eq 15, 3) := by decide +kernel
theorem dX11_shifts_7 : decode cX11_shifts 7 = .ok (.iload_n 2, 1) := by decide +kernel
theorem dX11_shifts_8 : decode cX11_shifts 8 = .ok (.invokestatic 123, 3) := by decide +kernel
theorem dX11_shifts_11 : decode cX11_shifts 11 = .ok (.ifCond .eq 8, 3) := by decide +kernel
theorem dX11_shifts_14 : decode cX11_shifts 14 = .ok (.iload_n 3, 1) := by decide +kernel
theorem dX11_shifts_15 : decode cX11_shifts 15 = .ok (.iconst (-1), 1) := by decide +kernel
theorem dX11_shifts_16 : decode cX11_shifts 16 = .ok (.if_icmp .ge 5, 3) := by decide +kernel
theorem dX11_shifts_19 : decode cX11_shifts 19 = .ok (.iconst (-1), 1) := by decide +kernel
theorem dX11_shifts_20 : decode cX11_shifts 20 = .ok (.ireturn, 1) := by decide +kernel
theorem dX11_shifts_21 : decode cX11_shifts 21 = .ok (.aload_n 0, 1) := by decide +kernel
theorem dX11_shifts_22 : decode cX11_shifts 22 = .ok (.iload_n 1, 1) := by decide +kernel
theorem dX11_shifts_23 : decode cX11_shifts 23 = .ok (.invokevirtual 153, 3) := by decide +kernel
theorem dX11_shifts_26 : decode cX11_shifts 26 = .ok (.istore 4, 2) := by decide +kernel
theorem dX11_shifts_28 : decode cX11_shifts 28 = .ok (.iload 4, 2) := by decide +kernel
theorem dX11_shifts_30 : decode cX11_shifts 30 = .ok (.ifCond .eq 6, 3) := by decide +kernel
theorem dX11_shifts_33 : decode cX11_shifts 33 = .ok (.iload 4, 2) := by decide +kernel
theorem dX11_shifts_35 : decode cX11_shifts 35 = .ok (.ireturn, 1) := by decide +kernel
theorem dX11_shifts_36 : decode cX11_shifts 36 = .ok (.iload_n 3, 1) := by decide +kernel
theorem dX11_shifts_37 : decode cX11_shifts 37 = .ok (.aload_n 0, 1) := by decide +kernel
theorem dX11_shifts_38 : decode cX11_shifts 38 = .ok (.getfield 19, 3) := by decide +kernel
theorem dX11_shifts_41 : decode cX11_shifts 41 = .ok (.getfield 168, 3) := by decide +kernel
theorem dX11_shifts_44 : decode cX11_shifts 44 = .ok (.if_icmp .lt 6, 3) := by decide +kernel
theorem dX11_shifts_47 : decode cX11_shifts 47 = .ok (.bipush (-2), 2) := by decide +kernel
theorem dX11_shifts_49 : decode cX11_shifts 49 = .ok (.ireturn, 1) := by decide +kernel
theorem dX11_shifts_50 : decode cX11_shifts 50 = .ok (.aload_n 0, 1) := by decide +kernel
theorem dX11_shifts_51 : decode cX11_shifts 51 = .ok (.getfield 42, 3) := by decide +kernel
theorem dX11_shifts_54 : decode cX11_shifts 54 = .ok (.iload_n 2, 1) := by decide +kernel
theorem dX11_shifts_55 : decode cX11_shifts 55 = .ok (.iload_n 3, 1) := by decide +kernel
theorem dX11_shifts_56 : decode cX11_shifts 56 = .ok (.invokevirtual 171, 3) := by decide +kernel
theorem dX11_shifts_59 : decode cX11_shifts 59 = .ok (.ireturn, 1) := by decide +kernel
theorem dX11_once_0 : decode cX11_once 0 = .ok (.iload_n 1, 1) := by decide +kernel
theorem dX11_once_1 : decode cX11_once 1 = .ok (.invokestatic 97, 3) := by decide +kernel
theorem dX11_once_4 : decode cX11_once 4 = .ok (.ifCond .eq 19, 3) := by decide +kernel
theorem dX11_once_7 : decode cX11_once 7 = .ok (.iload_n 2, 1) := by decide +kernel
theorem dX11_once_8 : decode cX11_once 8 = .ok (.invokestatic 123, 3) := by decide +kernel
theorem dX11_once_11 : decode cX11_once 11 = .ok (.ifCond .eq 12, 3) := by decide +kernel
theorem dX11_once_14 : decode cX11_once 14 = .ok (.iload_n 3, 1) := by decide +kernel
theorem dX11_once_15 : decode cX11_once 15 = .ok (.ifCond .lt 8, 3) := by decide +kernel
theorem dX11_once_18 : decode cX11_once 18 = .ok (.iload_n 3, 1) := by decide +kernel
theorem dX11_once_19 : decode cX11_once 19 = .ok (.iconst 2, 1) := by decide +kernel
theorem dX11_once_20 : decode cX11_once 20 = .ok (.if_icmp .le 5, 3) := by decide +kernel
theorem dX11_once_23 : decode cX11_once 23 = .ok (.iconst (-1), 1) := by decide +kernel
theorem dX11_once_24 : decode cX11_once 24 = .ok (.ireturn, 1) := by decide +kernel
theorem dX11_once_25 : decode cX11_once 25 = .ok (.aload_n 0, 1) := by decide +kernel
theorem dX11_once_26 : decode cX11_once 26 = .ok (.iload_n 1, 1) := by decide +kernel
theorem dX11_once_27 : decode cX11_once 27 = .ok (.invokevirtual 153, 3) := by decide +kernel
theorem dX11_once_30 : decode cX11_once 30 = .ok (.istore 4, 2) := by decide +kernel
theorem dX11_once_32 : decode cX11_once 32 = .ok (.iload 4, 2) := by decide +kernel
theorem dX11_once_34 : decode cX11_once 34 = .ok (.ifCond .eq 8, 3) := by decide +kernel
theorem dX11_once_37 : decode cX11_once 37 = .ok (.iload 4, 2) := by decide +kernel
theorem dX11_once_39 : decode cX11_once 39 = .ok (.goto 12, 3) := by decide +kernel
theorem dX11_once_42 : decode cX11_once 42 = .ok (.aload_n 0, 1) := by decide +kernel
theorem dX11_once_43 : decode cX11_once 43 = .ok (.getfield 42, 3) := by decide +kernel
theorem dX11_once_46 : decode cX11_once 46 = .ok (.iload_n 2, 1) := by decide +kernel
theorem dX11_once_47 : decode cX11_once 47 = .ok (.iload_n 3, 1) := by decide +kernel
theorem dX11_once_48 : decode cX11_once 48 = .ok (.invokevirtual 174, 3) := by decide +kernel
theorem dX11_once_51 : decode cX11_once 51 = .ok (.ireturn, 1) := by decide +kernel
theorem dX11_week_0 : decode cX11_week 0 = .ok (.iload_n 1, 1) := by decide +kernel
theorem dX11_week_1 : decode cX11_week 1 = .ok (.invokestatic 97, 3) := by decide +kernel
theorem dX11_week_4 : decode cX11_week 4 = .ok (.ifCond .eq 12, 3) := by decide +kernel
theorem dX11_week_7 : decode cX11_week 7 = .ok (.iload_n 2, 1) := by decide +kernel
theorem dX11_week_8 : decode cX11_week 8 = .ok (.ifCond .lt 8, 3) := by decide +kernel
theorem dX11_week_11 : decode cX11_week 11 = .ok (.iload_n 2, 1) := by decide +kernel
theorem dX11_week_12 : decode cX11_week 12 = .ok (.iconst 2, 1) := by decide +kernel
theorem dX11_week_13 : decode cX11_week 13 = .ok (.if_icmp .le 5, 3) := by decide +kernel
theorem dX11_week_16 : decode cX11_week 16 = .ok (.iconst (-1), 1) := by decide +kernel
theorem dX11_week_17 : decode cX11_week 17 = .ok (.ireturn, 1) := by decide +kernel
theorem dX11_week_18 : decode cX11_week 18 = .ok (.aload_n 0, 1) := by decide +kernel
theorem dX11_week_19 : decode cX11_week 19 = .ok (.iload_n 1, 1) := by decide +kernel
theorem dX11_week_20 : decode cX11_week 20 = .ok (.invokevirtual 153, 3) := by decide +kernel
theorem dX11_week_23 : decode cX11_week 23 = .ok (.istore_n 3, 1) := by decide +kernel
theorem dX11_week_24 : decode cX11_week 24 = .ok (.iload_n 3, 1) := by decide +kernel
theorem dX11_week_25 : decode cX11_week 25 = .ok (.ifCond .eq 5, 3) := by decide +kernel
theorem dX11_week_28 : decode cX11_week 28 = .ok (.iload_n 3, 1) := by decide +kernel
theorem dX11_week_29 : decode cX11_week 29 = .ok (.ireturn, 1) := by decide +kernel
theorem dX11_week_30 : decode cX11_week 30 = .ok (.aload_n 0, 1) := by decide +kernel
theorem dX11_week_31 : decode cX11_week 31 = .ok (.getfield 28, 3) := by decide +kernel
theorem dX11_week_34 : decode cX11_week 34 = .ok (.aload_n 0, 1) := by decide +kernel
theorem dX11_week_35 : decode cX11_week 35 = .ok (.getfield 19, 3) := by decide +kernel
theorem dX11_week_38 : decode cX11_week 38 = .ok (.getfield 168, 3) := by decide +kernel
theorem dX11_week_41 : decode cX11_week 41 = .ok (.invokevirtual 177, 3) := by decide +kernel
theorem dX11_week_44 : decode cX11_week 44 = .ok (.iload_n 2, 1) := by decide +kernel
theorem dX11_week_45 : decode cX11_week 45 = .ok (.ifCond .ne 11, 3) := by decide +kernel
theorem dX11_week_48 : decode cX11_week 48 = .ok (.aload_n 0, 1) := by decide +kernel
theorem dX11_week_49 : decode cX11_week 49 = .ok (.getfield 28, 3) := by decide +kernel
theorem dX11_week_52 : decode cX11_week 52 = .ok (.invokevirtual 181, 3) := by decide +kernel
theorem dX11_week_55 : decode cX11_week 55 = .ok (.ireturn, 1) := by decide +kernel
theorem dX11_week_56 : decode cX11_week 56 = .ok (.iload_n 2, 1) := by decide +kernel
theorem dX11_week_57 : decode cX11_week 57 = .ok (.iconst 1, 1) := by decide +kernel
theorem dX11_week_58 : decode cX11_week 58 = .ok (.if_icmp .ne 13, 3) := by decide +kernel
theorem dX11_week_61 : decode cX11_week 61 = .ok (.aload_n 0, 1) := by decide +kernel
theorem dX11_week_62 : decode cX11_week 62 = .ok (.getfield 28, 3) := by decide +kernel
theorem dX11_week_65 : decode cX11_week 65 = .ok (.getfield 184, 3) := by decide +kernel
theorem dX11_week_68 : decode cX11_week 68 = .ok (.goto 10, 3) := by decide +kernel
theorem dX11_week_71 : decode cX11_week 71 = .ok (.aload_n 0, 1) := by decide +kernel
theorem dX11_week_72 : decode cX11_week 72 = .ok (.getfield 28, 3) := by decide +kernel
theorem dX11_week_75 : decode cX11_week 75 = .ok (.getfield 187, 3) := by decide +kernel
theorem dX11_week_78 : decode cX11_week 78 = .ok (.ireturn, 1) := by decide +kernel
theorem dX11_stands_0 : decode cX11_stands 0 = .ok (.iload_n 1, 1) := by decide +kernel
theorem dX11_stands_1 : decode cX11_stands 1 = .ok (.invokestatic 97, 3) := by decide +kernel
theorem dX11_stands_4 : decode cX11_stands 4 = .ok (.ifCond .eq 14, 3) := by decide +kernel
theorem dX11_stands_7 : decode cX11_stands 7 = .ok (.iload_n 2, 1) := by decide +kernel
theorem dX11_stands_8 : decode cX11_stands 8 = .ok (.invokestatic 123, 3) := by decide +kernel
theorem dX11_stands_11 : decode cX11_stands 11 = .ok (.ifCond .eq 7, 3) := by decide +kernel
theorem dX11_stands_14 : decode cX11_stands 14 = .ok (.iload_n 3, 1) := by decide +kernel
theorem dX11_stands_15 : decode cX11_stands 15 = .ok (.ifCond .ge 5, 3) := by decide +kernel
theorem dX11_stands_18 : decode cX11_stands 18 = .ok (.iconst (-1), 1) := by decide +kernel
theorem dX11_stands_19 : decode cX11_stands 19 = .ok (.ireturn, 1) := by decide +kernel
theorem dX11_stands_20 : decode cX11_stands 20 = .ok (.aload_n 0, 1) := by decide +kernel
theorem dX11_stands_21 : decode cX11_stands 21 = .ok (.iload_n 1, 1) := by decide +kernel
theorem dX11_stands_22 : decode cX11_stands 22 = .ok (.invokevirtual 153, 3) := by decide +kernel
theorem dX11_stands_25 : decode cX11_stands 25 = .ok (.istore 4, 2) := by decide +kernel
theorem dX11_stands_27 : decode cX11_stands 27 = .ok (.iload 4, 2) := by decide +kernel
theorem dX11_stands_29 : decode cX11_stands 29 = .ok (.ifCond .eq 6, 3) := by decide +kernel
theorem dX11_stands_32 : decode cX11_stands 32 = .ok (.iload 4, 2) := by decide +kernel
theorem dX11_stands_34 : decode cX11_stands 34 = .ok (.ireturn, 1) := by decide +kernel
theorem dX11_stands_35 : decode cX11_stands 35 = .ok (.iload_n 3, 1) := by decide +kernel
theorem dX11_stands_36 : decode cX11_stands 36 = .ok (.aload_n 0, 1) := by decide +kernel
theorem dX11_stands_37 : decode cX11_stands 37 = .ok (.getfield 19, 3) := by decide +kernel
theorem dX11_stands_40 : decode cX11_stands 40 = .ok (.getfield 168, 3) := by decide +kernel
theorem dX11_stands_43 : decode cX11_stands 43 = .ok (.if_icmp .le 5, 3) := by decide +kernel
theorem dX11_stands_46 : decode cX11_stands 46 = .ok (.iconst (-1), 1) := by decide +kernel
theorem dX11_stands_47 : decode cX11_stands 47 = .ok (.ireturn, 1) := by decide +kernel
theorem dX11_stands_48 : decode cX11_stands 48 = .ok (.aload_n 0, 1) := by decide +kernel
theorem dX11_stands_49 : decode cX11_stands 49 = .ok (.getfield 28, 3) := by decide +kernel
theorem dX11_stands_52 : decode cX11_stands 52 = .ok (.iload_n 3, 1) := by decide +kernel
theorem dX11_stands_53 : decode cX11_stands 53 = .ok (.invokevirtual 177, 3) := by decide +kernel
theorem dX11_stands_56 : decode cX11_stands 56 = .ok (.aload_n 0, 1) := by decide +kernel
theorem dX11_stands_57 : decode cX11_stands 57 = .ok (.getfield 28, 3) := by decide +kernel
theorem dX11_stands_60 : decode cX11_stands 60 = .ok (.getfield 190, 3) := by decide +kernel
theorem dX11_stands_63 : decode cX11_stands 63 = .ok (.iload_n 2, 1) := by decide +kernel
theorem dX11_stands_64 : decode cX11_stands 64 = .ok (.iaload, 1) := by decide +kernel
theorem dX11_stands_65 : decode cX11_stands 65 = .ok (.ireturn, 1) := by decide +kernel
theorem dX11_pays_0 : decode cX11_pays 0 = .ok (.iload_n 1, 1) := by decide +kernel
theorem dX11_pays_1 : decode cX11_pays 1 = .ok (.invokestatic 97, 3) := by decide +kernel
theorem dX11_pays_4 : decode cX11_pays 4 = .ok (.ifCond .eq 23, 3) := by decide +kernel
theorem dX11_pays_7 : decode cX11_pays 7 = .ok (.aload_n 0, 1) := by decide +kernel
theorem dX11_pays_8 : decode cX11_pays 8 = .ok (.getfield 12, 3) := by decide +kernel
theorem dX11_pays_11 : decode cX11_pays 11 = .ok (.iload_n 2, 1) := by decide +kernel
theorem dX11_pays_12 : decode cX11_pays 12 = .ok (.invokevirtual 146, 3) := by decide +kernel
theorem dX11_pays_15 : decode cX11_pays 15 = .ok (.ifCond .eq 12, 3) := by decide +kernel
theorem dX11_pays_18 : decode cX11_pays 18 = .ok (.iload_n 3, 1) := by decide +kernel
theorem dX11_pays_19 : decode cX11_pays 19 = .ok (.ifCond .lt 8, 3) := by decide +kernel
theorem dX11_pays_22 : decode cX11_pays 22 = .ok (.iload_n 3, 1) := by decide +kernel
theorem dX11_pays_23 : decode cX11_pays 23 = .ok (.iconst 1, 1) := by decide +kernel
theorem dX11_pays_24 : decode cX11_pays 24 = .ok (.if_icmp .le 5, 3) := by decide +kernel
theorem dX11_pays_27 : decode cX11_pays 27 = .ok (.iconst (-1), 1) := by decide +kernel
theorem dX11_pays_28 : decode cX11_pays 28 = .ok (.ireturn, 1) := by decide +kernel
theorem dX11_pays_29 : decode cX11_pays 29 = .ok (.aload_n 0, 1) := by decide +kernel
theorem dX11_pays_30 : decode cX11_pays 30 = .ok (.iload_n 1, 1) := by decide +kernel
theorem dX11_pays_31 : decode cX11_pays 31 = .ok (.invokevirtual 153, 3) := by decide +kernel
theorem dX11_pays_34 : decode cX11_pays 34 = .ok (.istore 4, 2) := by decide +kernel
theorem dX11_pays_36 : decode cX11_pays 36 = .ok (.iload 4, 2) := by decide +kernel
theorem dX11_pays_38 : decode cX11_pays 38 = .ok (.ifCond .eq 8, 3) := by decide +kernel
theorem dX11_pays_41 : decode cX11_pays 41 = .ok (.iload 4, 2) := by decide +kernel
theorem dX11_pays_43 : decode cX11_pays 43 = .ok (.goto 12, 3) := by decide +kernel
theorem dX11_pays_46 : decode cX11_pays 46 = .ok (.aload_n 0, 1) := by decide +kernel
theorem dX11_pays_47 : decode cX11_pays 47 = .ok (.getfield 28, 3) := by decide +kernel
theorem dX11_pays_50 : decode cX11_pays 50 = .ok (.iload_n 2, 1) := by decide +kernel
theorem dX11_pays_51 : decode cX11_pays 51 = .ok (.iload_n 3, 1) := by decide +kernel
theorem dX11_pays_52 : decode cX11_pays 52 = .ok (.invokevirtual 193, 3) := by decide +kernel
theorem dX11_pays_55 : decode cX11_pays 55 = .ok (.ireturn, 1) := by decide +kernel
theorem dX11_memories_0 : decode cX11_memories 0 = .ok (.iload_n 1, 1) := by decide +kernel
theorem dX11_memories_1 : decode cX11_memories 1 = .ok (.invokestatic 97, 3) := by decide +kernel
theorem dX11_memories_4 : decode cX11_memories 4 = .ok (.ifCond .eq 21, 3) := by decide +kernel
theorem dX11_memories_7 : decode cX11_memories 7 = .ok (.iload_n 2, 1) := by decide +kernel
theorem dX11_memories_8 : decode cX11_memories 8 = .ok (.ifCond .lt 17, 3) := by decide +kernel
theorem dX11_memories_11 : decode cX11_memories 11 = .ok (.iload_n 2, 1) := by decide +kernel
theorem dX11_memories_12 : decode cX11_memories 12 = .ok (.iconst 3, 1) := by decide +kernel
theorem dX11_memories_13 : decode cX11_memories 13 = .ok (.if_icmp .gt 12, 3) := by decide +kernel
theorem dX11_memories_16 : decode cX11_memories 16 = .ok (.iload_n 3, 1) := by decide +kernel
theorem dX11_memories_17 : decode cX11_memories 17 = .ok (.ifCond .lt 8, 3) := by decide +kernel
theorem dX11_memories_20 : decode cX11_memories 20 = .ok (.iload_n 3, 1) := by decide +kernel
theorem dX11_memories_21 : decode cX11_memories 21 = .ok (.iconst 1, 1) := by decide +kernel
theorem dX11_memories_22 : decode cX11_memories 22 = .ok (.if_icmp .le 5, 3) := by decide +kernel
theorem dX11_memories_25 : decode cX11_memories 25 = .ok (.iconst (-1), 1) := by decide +kernel
theorem dX11_memories_26 : decode cX11_memories 26 = .ok (.ireturn, 1) := by decide +kernel
theorem dX11_memories_27 : decode cX11_memories 27 = .ok (.aload_n 0, 1) := by decide +kernel
theorem dX11_memories_28 : decode cX11_memories 28 = .ok (.iload_n 1, 1) := by decide +kernel
theorem dX11_memories_29 : decode cX11_memories 29 = .ok (.invokevirtual 153, 3) := by decide +kernel
theorem dX11_memories_32 : decode cX11_memories 32 = .ok (.istore 4, 2) := by decide +kernel
theorem dX11_memories_34 : decode cX11_memories 34 = .ok (.iload 4, 2) := by decide +kernel
theorem dX11_memories_36 : decode cX11_memories 36 = .ok (.ifCond .eq 8, 3) := by decide +kernel
theorem dX11_memories_39 : decode cX11_memories 39 = .ok (.iload 4, 2) := by decide +kernel
theorem dX11_memories_41 : decode cX11_memories 41 = .ok (.goto 12, 3) := by decide +kernel
theorem dX11_memories_44 : decode cX11_memories 44 = .ok (.aload_n 0, 1) := by decide +kernel
theorem dX11_memories_45 : decode cX11_memories 45 = .ok (.getfield 28, 3) := by decide +kernel
theorem dX11_memories_48 : decode cX11_memories 48 = .ok (.iload_n 2, 1) := by decide +kernel
theorem dX11_memories_49 : decode cX11_memories 49 = .ok (.iload_n 3, 1) := by decide +kernel
theorem dX11_memories_50 : decode cX11_memories 50 = .ok (.invokevirtual 196, 3) := by decide +kernel
theorem dX11_memories_53 : decode cX11_memories 53 = .ok (.ireturn, 1) := by decide +kernel
theorem dX11_marked_0 : decode cX11_marked 0 = .ok (.iload_n 1, 1) := by decide +kernel
theorem dX11_marked_1 : decode cX11_marked 1 = .ok (.invokestatic 97, 3) := by decide +kernel
theorem dX11_marked_4 : decode cX11_marked 4 = .ok (.ifCond .ne 5, 3) := by decide +kernel
theorem dX11_marked_7 : decode cX11_marked 7 = .ok (.iconst (-1), 1) := by decide +kernel
theorem dX11_marked_8 : decode cX11_marked 8 = .ok (.ireturn, 1) := by decide +kernel
theorem dX11_marked_9 : decode cX11_marked 9 = .ok (.aload_n 0, 1) := by decide +kernel
theorem dX11_marked_10 : decode cX11_marked 10 = .ok (.iload_n 1, 1) := by decide +kernel
theorem dX11_marked_11 : decode cX11_marked 11 = .ok (.invokevirtual 153, 3) := by decide +kernel
theorem dX11_marked_14 : decode cX11_marked 14 = .ok (.istore_n 2, 1) := by decide +kernel
theorem dX11_marked_15 : decode cX11_marked 15 = .ok (.iload_n 2, 1) := by decide +kernel
theorem dX11_marked_16 : decode cX11_marked 16 = .ok (.ifCond .eq 7, 3) := by decide +kernel
theorem dX11_marked_19 : decode cX11_marked 19 = .ok (.iload_n 2, 1) := by decide +kernel
theorem dX11_marked_20 : decode cX11_marked 20 = .ok (.goto 10, 3) := by decide +kernel
theorem dX11_marked_23 : decode cX11_marked 23 = .ok (.aload_n 0, 1) := by decide +kernel
theorem dX11_marked_24 : decode cX11_marked 24 = .ok (.getfield 28, 3) := by decide +kernel
theorem dX11_marked_27 : decode cX11_marked 27 = .ok (.invokevirtual 199, 3) := by decide +kernel
theorem dX11_marked_30 : decode cX11_marked 30 = .ok (.ireturn, 1) := by decide +kernel
theorem dX11_chairs_0 : decode cX11_chairs 0 = .ok (.iload_n 2, 1) := by decide +kernel
theorem dX11_chairs_1 : decode cX11_chairs 1 = .ok (.bipush 10, 2) := by decide +kernel
theorem dX11_chairs_3 : decode cX11_chairs 3 = .ok (.irem, 1) := by decide +kernel
theorem dX11_chairs_4 : decode cX11_chairs 4 = .ok (.istore 4, 2) := by decide +kernel
theorem dX11_chairs_6 : decode cX11_chairs 6 = .ok (.iload_n 1, 1) := by decide +kernel
theorem dX11_chairs_7 : decode cX11_chairs 7 = .ok (.invokestatic 97, 3) := by decide +kernel
theorem dX11_chairs_10 : decode cX11_chairs 10 = .ok (.ifCond .eq 29, 3) := by decide +kernel
theorem dX11_chairs_13 : decode cX11_chairs 13 = .ok (.iload_n 2, 1) := by decide +kernel
theorem dX11_chairs_14 : decode cX11_chairs 14 = .ok (.ifCond .lt 25, 3) := by decide +kernel
theorem dX11_chairs_17 : decode cX11_chairs 17 = .ok (.iload_n 2, 1) := by decide +kernel
theorem dX11_chairs_18 : decode cX11_chairs 18 = .ok (.bipush 10, 2) := by decide +kernel
theorem dX11_chairs_20 : decode cX11_chairs 20 = .ok (.idiv, 1) := by decide +kernel
theorem dX11_chairs_21 : decode cX11_chairs 21 = .ok (.invokestatic 123, 3) := by decide +kernel
theorem dX11_chairs_24 : decode cX11_chairs 24 = .ok (.ifCond .eq 15, 3) := by decide +kernel
theorem dX11_chairs_27 : decode cX11_chairs 27 = .ok (.iload 4, 2) := by decide +kernel
theorem dX11_chairs_29 : decode cX11_chairs 29 = .ok (.iconst 1, 1) := by decide +kernel
theorem dX11_chairs_30 : decode cX11_chairs 30 = .ok (.if_icmp .lt 9, 3) := by decide +kernel
theorem dX11_chairs_33 : decode cX11_chairs 33 = .ok (.iload 4, 2) := by decide +kernel
theorem dX11_chairs_35 : decode cX11_chairs 35 = .ok (.iconst 3, 1) := by decide +kernel
theorem dX11_chairs_36 : decode cX11_chairs 36 = .ok (.if_icmp .le 5, 3) := by decide +kernel
theorem dX11_chairs_39 : decode cX11_chairs 39 = .ok (.iconst (-1), 1) := by decide +kernel
theorem dX11_chairs_40 : decode cX11_chairs 40 = .ok (.ireturn, 1) := by decide +kernel
theorem dX11_chairs_41 : decode cX11_chairs 41 = .ok (.iload_n 3, 1) := by decide +kernel
theorem dX11_chairs_42 : decode cX11_chairs 42 = .ok (.iconst (-1), 1) := by decide +kernel
theorem dX11_chairs_43 : decode cX11_chairs 43 = .ok (.if_icmp .eq 16, 3) := by decide +kernel
theorem dX11_chairs_46 : decode cX11_chairs 46 = .ok (.aload_n 0, 1) := by decide +kernel
theorem dX11_chairs_47 : decode cX11_chairs 47 = .ok (.getfield 12, 3) := by decide +kernel
theorem dX11_chairs_50 : decode cX11_chairs 50 = .ok (.iload_n 3, 1) := by decide +kernel
theorem dX11_chairs_51 : decode cX11_chairs 51 = .ok (.invokevirtual 146, 3) := by decide +kernel
theorem dX11_chairs_54 : decode cX11_chairs 54 = .ok (.ifCond .ne 5, 3) := by decide +kernel
theorem dX11_chairs_57 : decode cX11_chairs 57 = .ok (.iconst (-1), 1) := by decide +kernel
theorem dX11_chairs_58 : decode cX11_chairs 58 = .ok (.ireturn, 1) := by decide +kernel
theorem dX11_chairs_59 : decode cX11_chairs 59 = .ok (.aload_n 0, 1) := by decide +kernel
theorem dX11_chairs_60 : decode cX11_chairs 60 = .ok (.iload_n 1, 1) := by decide +kernel
theorem dX11_chairs_61 : decode cX11_chairs 61 = .ok (.invokevirtual 153, 3) := by decide +kernel
theorem dX11_chairs_64 : decode cX11_chairs 64 = .ok (.istore 5, 2) := by decide +kernel
theorem dX11_chairs_66 : decode cX11_chairs 66 = .ok (.iload 5, 2) := by decide +kernel
theorem dX11_chairs_68 : decode cX11_chairs 68 = .ok (.ifCond .eq 8, 3) := by decide +kernel
theorem dX11_chairs_71 : decode cX11_chairs 71 = .ok (.iload 5, 2) := by decide +kernel
theorem dX11_chairs_73 : decode cX11_chairs 73 = .ok (.goto 17, 3) := by decide +kernel
theorem dX11_chairs_76 : decode cX11_chairs 76 = .ok (.aload_n 0, 1) := by decide +kernel
theorem dX11_chairs_77 : decode cX11_chairs 77 = .ok (.getfield 35, 3) := by decide +kernel
theorem dX11_chairs_80 : decode cX11_chairs 80 = .ok (.iload_n 2, 1) := by decide +kernel
theorem dX11_chairs_81 : decode cX11_chairs 81 = .ok (.bipush 10, 2) := by decide +kernel
theorem dX11_chairs_83 : decode cX11_chairs 83 = .ok (.idiv, 1) := by decide +kernel
theorem dX11_chairs_84 : decode cX11_chairs 84 = .ok (.iload 4, 2) := by decide +kernel
theorem dX11_chairs_86 : decode cX11_chairs 86 = .ok (.iload_n 3, 1) := by decide +kernel
theorem dX11_chairs_87 : decode cX11_chairs 87 = .ok (.invokevirtual 202, 3) := by decide +kernel
theorem dX11_chairs_90 : decode cX11_chairs 90 = .ok (.ireturn, 1) := by decide +kernel
theorem dX11_wilful_0 : decode cX11_wilful 0 = .ok (.iload_n 1, 1) := by decide +kernel
theorem dX11_wilful_1 : decode cX11_wilful 1 = .ok (.invokestatic 97, 3) := by decide +kernel
theorem dX11_wilful_4 : decode cX11_wilful 4 = .ok (.ifCond .eq 21, 3) := by decide +kernel
theorem dX11_wilful_7 : decode cX11_wilful 7 = .ok (.aload_n 0, 1) := by decide +kernel
theorem dX11_wilful_8 : decode cX11_wilful 8 = .ok (.getfield 12, 3) := by decide +kernel
theorem dX11_wilful_11 : decode cX11_wilful 11 = .ok (.iload_n 2, 1) := by decide +kernel
theorem dX11_wilful_12 : decode cX11_wilful 12 = .ok (.invokevirtual 146, 3) := by decide +kernel
theorem dX11_wilful_15 : decode cX11_wilful 15 = .ok (.ifCond .eq 10, 3) := by decide +kernel
theorem dX11_wilful_18 : decode cX11_wilful 18 = .ok (.iload_n 3, 1) := by decide +kernel
theorem dX11_wilful_19 : decode cX11_wilful 19 = .ok (.invokestatic 85, 3) := by decide +kernel
theorem dX11_wilful_22 : decode cX11_wilful 22 = .ok (.ifCond .ne 6, 3) := by decide +kernel
theorem dX11_wilful_25 : decode cX11_wilful 25 = .ok (.ldc 205, 2) := by decide +kernel
theorem dX11_wilful_27 : decode cX11_wilful 27 = .ok (.ireturn, 1) := by decide +kernel
theorem dX11_wilful_28 : decode cX11_wilful 28 = .ok (.aload_n 0, 1) := by decide +kernel
theorem dX11_wilful_29 : decode cX11_wilful 29 = .ok (.iload_n 1, 1) := by decide +kernel
theorem dX11_wilful_30 : decode cX11_wilful 30 = .ok (.invokevirtual 153, 3) := by decide +kernel
theorem dX11_wilful_33 : decode cX11_wilful 33 = .ok (.ifCond .eq 8, 3) := by decide +kernel
theorem dX11_wilful_36 : decode cX11_wilful 36 = .ok (.ldc 205, 2) := by decide +kernel
theorem dX11_wilful_38 : decode cX11_wilful 38 = .ok (.goto 12, 3) := by decide +kernel
theorem dX11_wilful_41 : decode cX11_wilful 41 = .ok (.aload_n 0, 1) := by decide +kernel
theorem dX11_wilful_42 : decode cX11_wilful 42 = .ok (.getfield 28, 3) := by decide +kernel
theorem dX11_wilful_45 : decode cX11_wilful 45 = .ok (.iload_n 2, 1) := by decide +kernel
theorem dX11_wilful_46 : decode cX11_wilful 46 = .ok (.iload_n 3, 1) := by decide +kernel
theorem dX11_wilful_47 : decode cX11_wilful 47 = .ok (.invokevirtual 206, 3) := by decide +kernel
theorem dX11_wilful_50 : decode cX11_wilful 50 = .ok (.ireturn, 1) := by decide +kernel
theorem dX11_who_0 : decode cX11_who 0 = .ok (.iload_n 1, 1) := by decide +kernel
theorem dX11_who_1 : decode cX11_who 1 = .ok (.invokestatic 97, 3) := by decide +kernel
theorem dX11_who_4 : decode cX11_who 4 = .ok (.ifCond .eq 20, 3) := by decide +kernel
theorem dX11_who_7 : decode cX11_who 7 = .ok (.iload_n 2, 1) := by decide +kernel
theorem dX11_who_8 : decode cX11_who 8 = .ok (.invokestatic 123, 3) := by decide +kernel
theorem dX11_who_11 : decode cX11_who 11 = .ok (.ifCond .eq 13, 3) := by decide +kernel
theorem dX11_who_14 : decode cX11_who 14 = .ok (.iload_n 3, 1) := by decide +kernel
theorem dX11_who_15 : decode cX11_who 15 = .ok (.ifCond .lt 9, 3) := by decide +kernel
theorem dX11_who_18 : decode cX11_who 18 = .ok (.iload_n 3, 1) := by decide +kernel
theorem dX11_who_19 : decode cX11_who 19 = .ok (.bipush 12, 2) := by decide +kernel
theorem dX11_who_21 : decode cX11_who 21 = .ok (.if_icmp .lt 5, 3) := by decide +kernel
theorem dX11_who_24 : decode cX11_who 24 = .ok (.iconst (-1), 1) := by decide +kernel
theorem dX11_who_25 : decode cX11_who 25 = .ok (.ireturn, 1) := by decide +kernel
theorem dX11_who_26 : decode cX11_who 26 = .ok (.aload_n 0, 1) := by decide +kernel
theorem dX11_who_27 : decode cX11_who 27 = .ok (.iload_n 1, 1) := by decide +kernel
theorem dX11_who_28 : decode cX11_who 28 = .ok (.invokevirtual 209, 3) := by decide +kernel
theorem dX11_who_31 : decode cX11_who 31 = .ok (.istore 4, 2) := by decide +kernel
theorem dX11_who_33 : decode cX11_who 33 = .ok (.iload 4, 2) := by decide +kernel
theorem dX11_who_35 : decode cX11_who 35 = .ok (.ifCond .eq 6, 3) := by decide +kernel
theorem dX11_who_38 : decode cX11_who 38 = .ok (.iload 4, 2) := by decide +kernel
theorem dX11_who_40 : decode cX11_who 40 = .ok (.ireturn, 1) := by decide +kernel
theorem dX11_who_41 : decode cX11_who 41 = .ok (.iload_n 3, 1) := by decide +kernel
theorem dX11_who_42 : decode cX11_who 42 = .ok (.aload_n 0, 1) := by decide +kernel
theorem dX11_who_43 : decode cX11_who 43 = .ok (.getfield 80, 3) := by decide +kernel
theorem dX11_who_46 : decode cX11_who 46 = .ok (.iload_n 1, 1) := by decide +kernel
theorem dX11_who_47 : decode cX11_who 47 = .ok (.aaload, 1) := by decide +kernel
theorem dX11_who_48 : decode cX11_who 48 = .ok (.getfield 212, 3) := by decide +kernel
theorem dX11_who_51 : decode cX11_who 51 = .ok (.if_icmp .ge 21, 3) := by decide +kernel
theorem dX11_who_54 : decode cX11_who 54 = .ok (.aload_n 0, 1) := by decide +kernel
theorem dX11_who_55 : decode cX11_who 55 = .ok (.getfield 51, 3) := by decide +kernel
theorem dX11_who_58 : decode cX11_who 58 = .ok (.aload_n 0, 1) := by decide +kernel
theorem dX11_who_59 : decode cX11_who 59 = .ok (.getfield 80, 3) := by decide +kernel
theorem dX11_who_62 : decode cX11_who 62 = .ok (.iload_n 1, 1) := by decide +kernel
theorem dX11_who_63 : decode cX11_who 63 = .ok (.aaload, 1) := by decide +kernel
theorem dX11_who_64 : decode cX11_who 64 = .ok (.iload_n 2, 1) := by decide +kernel
theorem dX11_who_65 : decode cX11_who 65 = .ok (.iload_n 3, 1) := by decide +kernel
theorem dX11_who_66 : decode cX11_who 66 = .ok (.invokevirtual 213, 3) := by decide +kernel
theorem dX11_who_69 : decode cX11_who 69 = .ok (.goto 4, 3) := by decide +kernel
theorem dX11_who_72 : decode cX11_who 72 = .ok (.iconst (-1), 1) := by decide +kernel
theorem dX11_who_73 : decode cX11_who 73 = .ok (.ireturn, 1) := by decide +kernel
theorem dX11_judge_0 : decode cX11_judge 0 = .ok (.iload_n 1, 1) := by decide +kernel
theorem dX11_judge_1 : decode cX11_judge 1 = .ok (.bipush 10, 2) := by decide +kernel
theorem dX11_judge_3 : decode cX11_judge 3 = .ok (.idiv, 1) := by decide +kernel
theorem dX11_judge_4 : decode cX11_judge 4 = .ok (.istore_n 3, 1) := by decide +kernel
theorem dX11_judge_5 : decode cX11_judge 5 = .ok (.iload_n 1, 1) := by decide +kernel
theorem dX11_judge_6 : decode cX11_judge 6 = .ok (.bipush 10, 2) := by decide +kernel
theorem dX11_judge_8 : decode cX11_judge 8 = .ok (.irem, 1) := by decide +kernel
theorem dX11_judge_9 : decode cX11_judge 9 = .ok (.istore 4, 2) := by decide +kernel
theorem dX11_judge_11 : decode cX11_judge 11 = .ok (.iload_n 1, 1) := by decide +kernel
theorem dX11_judge_12 : decode cX11_judge 12 = .ok (.ifCond .lt 25, 3) := by decide +kernel
theorem dX11_judge_15 : decode cX11_judge 15 = .ok (.iload_n 3, 1) := by decide +kernel
theorem dX11_judge_16 : decode cX11_judge 16 = .ok (.invokestatic 97, 3) := by decide +kernel
theorem dX11_judge_19 : decode cX11_judge 19 = .ok (.ifCond .eq 18, 3) := by decide +kernel
theorem dX11_judge_22 : decode cX11_judge 22 = .ok (.iload 4, 2) := by decide +kernel
theorem dX11_judge_24 : decode cX11_judge 24 = .ok (.invokestatic 97, 3) := by decide +kernel
theorem dX11_judge_27 : decode cX11_judge 27 = .ok (.ifCond .eq 10, 3) := by decide +kernel
theorem dX11_judge_30 : decode cX11_judge 30 = .ok (.iload_n 2, 1) := by decide +kernel
theorem dX11_judge_31 : decode cX11_judge 31 = .ok (.invokestatic 123, 3) := by decide +kernel
theorem dX11_judge_34 : decode cX11_judge 34 = .ok (.ifCond .ne 5, 3) := by decide +kernel
theorem dX11_judge_37 : decode cX11_judge 37 = .ok (.iconst (-1), 1) := by decide +kernel
theorem dX11_judge_38 : decode cX11_judge 38 = .ok (.ireturn, 1) := by decide +kernel
theorem dX11_judge_39 : decode cX11_judge 39 = .ok (.aload_n 0, 1) := by decide +kernel
theorem dX11_judge_40 : decode cX11_judge 40 = .ok (.iload_n 3, 1) := by decide +kernel
theorem dX11_judge_41 : decode cX11_judge 41 = .ok (.invokevirtual 209, 3) := by decide +kernel
theorem dX11_judge_44 : decode cX11_judge 44 = .ok (.istore 5, 2) := by decide +kernel
theorem dX11_judge_46 : decode cX11_judge 46 = .ok (.aload_n 0, 1) := by decide +kernel
theorem dX11_judge_47 : decode cX11_judge 47 = .ok (.iload 4, 2) := by decide +kernel
theorem dX11_judge_49 : decode cX11_judge 49 = .ok (.invokevirtual 209, 3) := by decide +kernel
theorem dX11_judge_52 : decode cX11_judge 52 = .ok (.istore 6, 2) := by decide +kernel
theorem dX11_judge_54 : decode cX11_judge 54 = .ok (.iload 5, 2) := by decide +kernel
theorem dX11_judge_56 : decode cX11_judge 56 = .ok (.bipush (-11), 2) := by decide +kernel
theorem dX11_judge_58 : decode cX11_judge 58 = .ok (.if_icmp .eq 10, 3) := by decide +kernel
theorem dX11_judge_61 : decode cX11_judge 61 = .ok (.iload 6, 2) := by decide +kernel
theorem dX11_judge_63 : decode cX11_judge 63 = .ok (.bipush (-11), 2) := by decide +kernel
theorem dX11_judge_65 : decode cX11_judge 65 = .ok (.if_icmp .ne 6, 3) := by decide +kernel
theorem dX11_judge_68 : decode cX11_judge 68 = .ok (.bipush (-11), 2) := by decide +kernel
theorem dX11_judge_70 : decode cX11_judge 70 = .ok (.ireturn, 1) := by decide +kernel
theorem dX11_judge_71 : decode cX11_judge 71 = .ok (.iload 5, 2) := by decide +kernel
theorem dX11_judge_73 : decode cX11_judge 73 = .ok (.ifCond .ne 8, 3) := by decide +kernel
theorem dX11_judge_76 : decode cX11_judge 76 = .ok (.iload 6, 2) := by decide +kernel
theorem dX11_judge_78 : decode cX11_judge 78 = .ok (.ifCond .eq 6, 3) := by decide +kernel
theorem dX11_judge_81 : decode cX11_judge 81 = .ok (.bipush (-12), 2) := by decide +kernel
theorem dX11_judge_83 : decode cX11_judge 83 = .ok (.ireturn, 1) := by decide +kernel
theorem dX11_judge_84 : decode cX11_judge 84 = .ok (.aload_n 0, 1) := by decide +kernel
theorem dX11_judge_85 : decode cX11_judge 85 = .ok (.iload_n 3, 1) := by decide +kernel
theorem dX11_judge_86 : decode cX11_judge 86 = .ok (.invokevirtual 153, 3) := by decide +kernel
theorem dX11_judge_89 : decode cX11_judge 89 = .ok (.pop, 1) := by decide +kernel
theorem dX11_judge_90 : decode cX11_judge 90 = .ok (.aload_n 0, 1) := by decide +kernel
theorem dX11_judge_91 : decode cX11_judge 91 = .ok (.aload_n 0, 1) := by decide +kernel
theorem dX11_judge_92 : decode cX11_judge 92 = .ok (.getfield 80, 3) := by decide +kernel
theorem dX11_judge_95 : decode cX11_judge 95 = .ok (.iload 4, 2) := by decide +kernel
theorem dX11_judge_97 : decode cX11_judge 97 = .ok (.aaload, 1) := by decide +kernel
theorem dX11_judge_98 : decode cX11_judge 98 = .ok (.iload_n 2, 1) := by decide +kernel
theorem dX11_judge_99 : decode cX11_judge 99 = .ok (.invokevirtual 216, 3) := by decide +kernel
theorem dX11_judge_102 : decode cX11_judge 102 = .ok (.ireturn, 1) := by decide +kernel
theorem dX11_drawn_0 : decode cX11_drawn 0 = .ok (.iload_n 1, 1) := by decide +kernel
theorem dX11_drawn_1 : decode cX11_drawn 1 = .ok (.invokestatic 97, 3) := by decide +kernel
theorem dX11_drawn_4 : decode cX11_drawn 4 = .ok (.ifCond .eq 25, 3) := by decide +kernel
theorem dX11_drawn_7 : decode cX11_drawn 7 = .ok (.iload_n 3, 1) := by decide +kernel
theorem dX11_drawn_8 : decode cX11_drawn 8 = .ok (.iconst 1, 1) := by decide +kernel
theorem dX11_drawn_9 : decode cX11_drawn 9 = .ok (.if_icmp .lt 20, 3) := by decide +kernel
theorem dX11_drawn_12 : decode cX11_drawn 12 = .ok (.iload_n 3, 1) := by decide +kernel
theorem dX11_drawn_13 : decode cX11_drawn 13 = .ok (.bipush 20, 2) := by decide +kernel
theorem dX11_drawn_15 : decode cX11_drawn 15 = .ok (.if_icmp .gt 14, 3) := by decide +kernel
theorem dX11_drawn_18 : decode cX11_drawn 18 = .ok (.iload 4, 2) := by decide +kernel
theorem dX11_drawn_20 : decode cX11_drawn 20 = .ok (.ifCond .lt 9, 3) := by decide +kernel
theorem dX11_drawn_23 : decode cX11_drawn 23 = .ok (.iload 4, 2) := by decide +kernel
theorem dX11_drawn_25 : decode cX11_drawn 25 = .ok (.iconst 1, 1) := by decide +kernel
theorem dX11_drawn_26 : decode cX11_drawn 26 = .ok (.if_icmp .le 5, 3) := by decide +kernel
theorem dX11_drawn_29 : decode cX11_drawn 29 = .ok (.iconst (-1), 1) := by decide +kernel
theorem dX11_drawn_30 : decode cX11_drawn 30 = .ok (.ireturn, 1) := by decide +kernel
theorem dX11_drawn_31 : decode cX11_drawn 31 = .ok (.aload_n 0, 1) := by decide +kernel
theorem dX11_drawn_32 : decode cX11_drawn 32 = .ok (.iload_n 1, 1) := by decide +kernel
theorem dX11_drawn_33 : decode cX11_drawn 33 = .ok (.invokevirtual 153, 3) := by decide +kernel
theorem dX11_drawn_36 : decode cX11_drawn 36 = .ok (.istore 5, 2) := by decide +kernel
theorem dX11_drawn_38 : decode cX11_drawn 38 = .ok (.iload 5, 2) := by decide +kernel
theorem dX11_drawn_40 : decode cX11_drawn 40 = .ok (.ifCond .eq 6, 3) := by decide +kernel
theorem dX11_drawn_43 : decode cX11_drawn 43 = .ok (.iload 5, 2) := by decide +kernel
theorem dX11_drawn_45 : decode cX11_drawn 45 = .ok (.ireturn, 1) := by decide +kernel
theorem dX11_drawn_46 : decode cX11_drawn 46 = .ok (.aload_n 0, 1) := by decide +kernel
theorem dX11_drawn_47 : decode cX11_drawn 47 = .ok (.getfield 28, 3) := by decide +kernel
theorem dX11_drawn_50 : decode cX11_drawn 50 = .ok (.iload_n 2, 1) := by decide +kernel
theorem dX11_drawn_51 : decode cX11_drawn 51 = .ok (.iload_n 3, 1) := by decide +kernel
theorem dX11_drawn_52 : decode cX11_drawn 52 = .ok (.invokevirtual 220, 3) := by decide +kernel
theorem dX11_drawn_55 : decode cX11_drawn 55 = .ok (.istore 6, 2) := by decide +kernel
theorem dX11_drawn_57 : decode cX11_drawn 57 = .ok (.iload 4, 2) := by decide +kernel
theorem dX11_drawn_59 : decode cX11_drawn 59 = .ok (.ifCond .ne 13, 3) := by decide +kernel
theorem dX11_drawn_62 : decode cX11_drawn 62 = .ok (.aload_n 0, 1) := by decide +kernel
theorem dX11_drawn_63 : decode cX11_drawn 63 = .ok (.getfield 28, 3) := by decide +kernel
theorem dX11_drawn_66 : decode cX11_drawn 66 = .ok (.getfield 187, 3) := by decide +kernel
theorem dX11_drawn_69 : decode cX11_drawn 69 = .ok (.goto 5, 3) := by decide +kernel
theorem dX11_drawn_72 : decode cX11_drawn 72 = .ok (.iload 6, 2) := by decide +kernel
theorem dX11_drawn_74 : decode cX11_drawn 74 = .ok (.ireturn, 1) := by decide +kernel
theorem dX11_sit_0 : decode cX11_sit 0 = .ok (.aload_n 0, 1) := by decide +kernel
theorem dX11_sit_1 : decode cX11_sit 1 = .ok (.getfield 12, 3) := by decide +kernel
theorem dX11_sit_4 : decode cX11_sit 4 = .ok (.iload_n 1, 1) := by decide +kernel
theorem dX11_sit_5 : decode cX11_sit 5 = .ok (.invokevirtual 146, 3) := by decide +kernel
theorem dX11_sit_8 : decode cX11_sit 8 = .ok (.ifCond .eq 14, 3) := by decide +kernel
theorem dX11_sit_11 : decode cX11_sit 11 = .ok (.aload_n 0, 1) := by decide +kernel
theorem dX11_sit_12 : decode cX11_sit 12 = .ok (.getfield 60, 3) := by decide +kernel
theorem dX11_sit_15 : decode cX11_sit 15 = .ok (.iload_n 1, 1) := by decide +kernel
theorem dX11_sit_16 : decode cX11_sit 16 = .ok (.invokevirtual 223, 3) := by decide +kernel
theorem dX11_sit_19 : decode cX11_sit 19 = .ok (.goto 4, 3) := by decide +kernel
theorem dX11_sit_22 : decode cX11_sit 22 = .ok (.iconst (-1), 1) := by decide +kernel
theorem dX11_sit_23 : decode cX11_sit 23 = .ok (.ireturn, 1) := by decide +kernel
theorem dX11_set_0 : decode cX11_set 0 = .ok (.iload_n 1, 1) := by decide +kernel
theorem dX11_set_1 : decode cX11_set 1 = .ok (.invokestatic 123, 3) := by decide +kernel
theorem dX11_set_4 : decode cX11_set 4 = .ok (.ifCond .eq 22, 3) := by decide +kernel
theorem dX11_set_7 : decode cX11_set 7 = .ok (.iload_n 2, 1) := by decide +kernel
theorem dX11_set_8 : decode cX11_set 8 = .ok (.invokestatic 85, 3) := by decide +kernel
theorem dX11_set_11 : decode cX11_set 11 = .ok (.ifCond .eq 15, 3) := by decide +kernel
theorem dX11_set_14 : decode cX11_set 14 = .ok (.aload_n 0, 1) := by decide +kernel
theorem dX11_set_15 : decode cX11_set 15 = .ok (.getfield 60, 3) := by decide +kernel
theorem dX11_set_18 : decode cX11_set 18 = .ok (.iload_n 1, 1) := by decide +kernel
theorem dX11_set_19 : decode cX11_set 19 = .ok (.iload_n 2, 1) := by decide +kernel
theorem dX11_set_20 : decode cX11_set 20 = .ok (.invokevirtual 225, 3) := by decide +kernel
theorem dX11_set_23 : decode cX11_set 23 = .ok (.goto 4, 3) := by decide +kernel
theorem dX11_set_26 : decode cX11_set 26 = .ok (.iconst (-1), 1) := by decide +kernel
theorem dX11_set_27 : decode cX11_set 27 = .ok (.ireturn, 1) := by decide +kernel
theorem dX11_night_0 : decode cX11_night 0 = .ok (.aload_n 0, 1) := by decide +kernel
theorem dX11_night_1 : decode cX11_night 1 = .ok (.getfield 60, 3) := by decide +kernel
theorem dX11_night_4 : decode cX11_night 4 = .ok (.invokevirtual 228, 3) := by decide +kernel
theorem dX11_night_7 : decode cX11_night 7 = .ok (.ireturn, 1) := by decide +kernel
theorem dX11_led_0 : decode cX11_led 0 = .ok (.iload_n 1, 1) := by decide +kernel
theorem dX11_led_1 : decode cX11_led 1 = .ok (.ifCond .lt 8, 3) := by decide +kernel
theorem dX11_led_4 : decode cX11_led 4 = .ok (.iload_n 1, 1) := by decide +kernel
theorem dX11_led_5 : decode cX11_led 5 = .ok (.iconst 5, 1) := by decide +kernel
theorem dX11_led_6 : decode cX11_led 6 = .ok (.if_icmp .lt 7, 3) := by decide +kernel
theorem dX11_led_9 : decode cX11_led 9 = .ok (.iconst (-1), 1) := by decide +kernel
theorem dX11_led_10 : decode cX11_led 10 = .ok (.goto 12, 3) := by decide +kernel
theorem dX11_led_13 : decode cX11_led 13 = .ok (.aload_n 0, 1) := by decide +kernel
theorem dX11_led_14 : decode cX11_led 14 = .ok (.getfield 60, 3) := by decide +kernel
theorem dX11_led_17 : decode cX11_led 17 = .ok (.getfield 231, 3) := by decide +kernel
theorem dX11_led_20 : decode cX11_led 20 = .ok (.iload_n 1, 1) := by decide +kernel
theorem dX11_led_21 : decode cX11_led 21 = .ok (.iaload, 1) := by decide +kernel
theorem dX11_led_22 : decode cX11_led 22 = .ok (.ireturn, 1) := by decide +kernel
theorem dX11_image_0 : decode cX11_image 0 = .ok (.aload_n 0, 1) := by decide +kernel
theorem dX11_image_1 : decode cX11_image 1 = .ok (.getfield 60, 3) := by decide +kernel
theorem dX11_image_4 : decode cX11_image 4 = .ok (.invokevirtual 232, 3) := by decide +kernel
theorem dX11_image_7 : decode cX11_image 7 = .ok (.ireturn, 1) := by decide +kernel
theorem dX11_back_0 : decode cX11_back 0 = .ok (.aload_n 0, 1) := by decide +kernel
theorem dX11_back_1 : decode cX11_back 1 = .ok (.getfield 60, 3) := by decide +kernel
theorem dX11_back_4 : decode cX11_back 4 = .ok (.invokevirtual 235, 3) := by decide +kernel
theorem dX11_back_7 : decode cX11_back 7 = .ok (.ireturn, 1) := by decide +kernel
theorem dX11_undo_0 : decode cX11_undo 0 = .ok (.aload_n 0, 1) := by decide +kernel
theorem dX11_undo_1 : decode cX11_undo 1 = .ok (.getfield 67, 3) := by decide +kernel
theorem dX11_undo_4 : decode cX11_undo 4 = .ok (.getfield 238, 3) := by decide +kernel
theorem dX11_undo_7 : decode cX11_undo 7 = .ok (.ifCond .ne 6, 3) := by decide +kernel
theorem dX11_undo_10 : decode cX11_undo 10 = .ok (.bipush (-5), 2) := by decide +kernel
theorem dX11_undo_12 : decode cX11_undo 12 = .ok (.ireturn, 1) := by decide +kernel
theorem dX11_undo_13 : decode cX11_undo 13 = .ok (.aload_n 0, 1) := by decide +kernel
theorem dX11_undo_14 : decode cX11_undo 14 = .ok (.getfield 67, 3) := by decide +kernel
theorem dX11_undo_17 : decode cX11_undo 17 = .ok (.dup, 1) := by decide +kernel
theorem dX11_undo_18 : decode cX11_undo 18 = .ok (.getfield 238, 3) := by decide +kernel
theorem dX11_undo_21 : decode cX11_undo 21 = .ok (.iconst 1, 1) := by decide +kernel
theorem dX11_undo_22 : decode cX11_undo 22 = .ok (.isub, 1) := by decide +kernel
theorem dX11_undo_23 : decode cX11_undo 23 = .ok (.putfield 238, 3) := by decide +kernel
theorem dX11_undo_26 : decode cX11_undo 26 = .ok (.aload_n 0, 1) := by decide +kernel
theorem dX11_undo_27 : decode cX11_undo 27 = .ok (.getfield 12, 3) := by decide +kernel
theorem dX11_undo_30 : decode cX11_undo 30 = .ok (.aload_n 0, 1) := by decide +kernel
theorem dX11_undo_31 : decode cX11_undo 31 = .ok (.getfield 67, 3) := by decide +kernel
theorem dX11_undo_34 : decode cX11_undo 34 = .ok (.getfield 241, 3) := by decide +kernel
theorem dX11_undo_37 : decode cX11_undo 37 = .ok (.aload_n 0, 1) := by decide +kernel
theorem dX11_undo_38 : decode cX11_undo 38 = .ok (.getfield 67, 3) := by decide +kernel
theorem dX11_undo_41 : decode cX11_undo 41 = .ok (.getfield 238, 3) := by decide +kernel
theorem dX11_undo_44 : decode cX11_undo 44 = .ok (.iaload, 1) := by decide +kernel
theorem dX11_undo_45 : decode cX11_undo 45 = .ok (.aload_n 0, 1) := by decide +kernel
theorem dX11_undo_46 : decode cX11_undo 46 = .ok (.getfield 67, 3) := by decide +kernel
theorem dX11_undo_49 : decode cX11_undo 49 = .ok (.getfield 244, 3) := by decide +kernel
theorem dX11_undo_52 : decode cX11_undo 52 = .ok (.aload_n 0, 1) := by decide +kernel
theorem dX11_undo_53 : decode cX11_undo 53 = .ok (.getfield 67, 3) := by decide +kernel
theorem dX11_undo_56 : decode cX11_undo 56 = .ok (.getfield 238, 3) := by decide +kernel
theorem dX11_undo_59 : decode cX11_undo 59 = .ok (.iaload, 1) := by decide +kernel
theorem dX11_undo_60 : decode cX11_undo 60 = .ok (.invokevirtual 119, 3) := by decide +kernel
theorem dX11_undo_63 : decode cX11_undo 63 = .ok (.aload_n 0, 1) := by decide +kernel
theorem dX11_undo_64 : decode cX11_undo 64 = .ok (.getfield 67, 3) := by decide +kernel
theorem dX11_undo_67 : decode cX11_undo 67 = .ok (.getfield 238, 3) := by decide +kernel
theorem dX11_undo_70 : decode cX11_undo 70 = .ok (.ireturn, 1) := by decide +kernel
theorem dX11_redo_0 : decode cX11_redo 0 = .ok (.aload_n 0, 1) := by decide +kernel
theorem dX11_redo_1 : decode cX11_redo 1 = .ok (.getfield 67, 3) := by decide +kernel
theorem dX11_redo_4 : decode cX11_redo 4 = .ok (.getfield 238, 3) := by decide +kernel
theorem dX11_redo_7 : decode cX11_redo 7 = .ok (.aload_n 0, 1) := by decide +kernel
theorem dX11_redo_8 : decode cX11_redo 8 = .ok (.getfield 67, 3) := by decide +kernel
theorem dX11_redo_11 : decode cX11_redo 11 = .ok (.getfield 247, 3) := by decide +kernel
theorem dX11_redo_14 : decode cX11_redo 14 = .ok (.if_icmp .lt 6, 3) := by decide +kernel
theorem dX11_redo_17 : decode cX11_redo 17 = .ok (.bipush (-5), 2) := by decide +kernel
theorem dX11_redo_19 : decode cX11_redo 19 = .ok (.ireturn, 1) := by decide +kernel
theorem dX11_redo_20 : decode cX11_redo 20 = .ok (.aload_n 0, 1) := by decide +kernel
theorem dX11_redo_21 : decode cX11_redo 21 = .ok (.getfield 12, 3) := by decide +kernel
theorem dX11_redo_24 : decode cX11_redo 24 = .ok (.aload_n 0, 1) := by decide +kernel
theorem dX11_redo_25 : decode cX11_redo 25 = .ok (.getfield 67, 3) := by decide +kernel
theorem dX11_redo_28 : decode cX11_redo 28 = .ok (.getfield 241, 3) := by decide +kernel
theorem dX11_redo_31 : decode cX11_redo 31 = .ok (.aload_n 0, 1) := by decide +kernel
theorem dX11_redo_32 : decode cX11_redo 32 = .ok (.getfield 67, 3) := by decide +kernel
theorem dX11_redo_35 : decode cX11_redo 35 = .ok (.getfield 238, 3) := by decide +kernel
theorem dX11_redo_38 : decode cX11_redo 38 = .ok (.iaload, 1) := by decide +kernel
theorem dX11_redo_39 : decode cX11_redo 39 = .ok (.aload_n 0, 1) := by decide +kernel
theorem dX11_redo_40 : decode cX11_redo 40 = .ok (.getfield 67, 3) := by decide +kernel
theorem dX11_redo_43 : decode cX11_redo 43 = .ok (.getfield 250, 3) := by decide +kernel
theorem dX11_redo_46 : decode cX11_redo 46 = .ok (.aload_n 0, 1) := by decide +kernel
theorem dX11_redo_47 : decode cX11_redo 47 = .ok (.getfield 67, 3) := by decide +kernel
theorem dX11_redo_50 : decode cX11_redo 50 = .ok (.getfield 238, 3) := by decide +kernel
theorem dX11_redo_53 : decode cX11_redo 53 = .ok (.iaload, 1) := by decide +kernel
theorem dX11_redo_54 : decode cX11_redo 54 = .ok (.invokevirtual 119, 3) := by decide +kernel
theorem dX11_redo_57 : decode cX11_redo 57 = .ok (.aload_n 0, 1) := by decide +kernel
theorem dX11_redo_58 : decode cX11_redo 58 = .ok (.getfield 67, 3) := by decide +kernel
theorem dX11_redo_61 : decode cX11_redo 61 = .ok (.dup, 1) := by decide +kernel
theorem dX11_redo_62 : decode cX11_redo 62 = .ok (.getfield 238, 3) := by decide +kernel
theorem dX11_redo_65 : decode cX11_redo 65 = .ok (.iconst 1, 1) := by decide +kernel
theorem dX11_redo_66 : decode cX11_redo 66 = .ok (.iadd, 1) := by decide +kernel
theorem dX11_redo_67 : decode cX11_redo 67 = .ok (.putfield 238, 3) := by decide +kernel
theorem dX11_redo_70 : decode cX11_redo 70 = .ok (.aload_n 0, 1) := by decide +kernel
theorem dX11_redo_71 : decode cX11_redo 71 = .ok (.getfield 67, 3) := by decide +kernel
theorem dX11_redo_74 : decode cX11_redo 74 = .ok (.getfield 247, 3) := by decide +kernel
theorem dX11_redo_77 : decode cX11_redo 77 = .ok (.aload_n 0, 1) := by decide +kernel
theorem dX11_redo_78 : decode cX11_redo 78 = .ok (.getfield 67, 3) := by decide +kernel
theorem dX11_redo_81 : decode cX11_redo 81 = .ok (.getfield 238, 3) := by decide +kernel
theorem dX11_redo_84 : decode cX11_redo 84 = .ok (.isub, 1) := by decide +kernel
theorem dX11_redo_85 : decode cX11_redo 85 = .ok (.ireturn, 1) := by decide +kernel
theorem dX11_body_0 : decode cX11_body 0 = .ok (.iload_n 1, 1) := by decide +kernel
theorem dX11_body_1 : decode cX11_body 1 = .ok (.invokestatic 253, 3) := by decide +kernel
theorem dX11_body_4 : decode cX11_body 4 = .ok (.ifCond .eq 14, 3) := by decide +kernel
theorem dX11_body_7 : decode cX11_body 7 = .ok (.aload_n 0, 1) := by decide +kernel
theorem dX11_body_8 : decode cX11_body 8 = .ok (.getfield 74, 3) := by decide +kernel
theorem dX11_body_11 : decode cX11_body 11 = .ok (.iload_n 1, 1) := by decide +kernel
theorem dX11_body_12 : decode cX11_body 12 = .ok (.invokevirtual 256, 3) := by decide +kernel
theorem dX11_body_15 : decode cX11_body 15 = .ok (.goto 4, 3) := by decide +kernel
theorem dX11_body_18 : decode cX11_body 18 = .ok (.iconst (-1), 1) := by decide +kernel
theorem dX11_body_19 : decode cX11_body 19 = .ok (.ireturn, 1) := by decide +kernel
theorem dX11_act_0 : decode cX11_act 0 = .ok (.aload_n 0, 1) := by decide +kernel
theorem dX11_act_1 : decode cX11_act 1 = .ok (.getfield 74, 3) := by decide +kernel
theorem dX11_act_4 : decode cX11_act 4 = .ok (.iload_n 1, 1) := by decide +kernel
theorem dX11_act_5 : decode cX11_act 5 = .ok (.iload_n 2, 1) := by decide +kernel
theorem dX11_act_6 : decode cX11_act 6 = .ok (.iload_n 3, 1) := by decide +kernel
theorem dX11_act_7 : decode cX11_act 7 = .ok (.invokevirtual 257, 3) := by decide +kernel
theorem dX11_act_10 : decode cX11_act 10 = .ok (.ireturn, 1) := by decide +kernel
theorem dX11_trace_0 : decode cX11_trace 0 = .ok (.iload_n 1, 1) := by decide +kernel
theorem dX11_trace_1 : decode cX11_trace 1 = .ok (.ifCond .lt 19, 3) := by decide +kernel
theorem dX11_trace_4 : decode cX11_trace 4 = .ok (.iload_n 1, 1) := by decide +kernel
theorem dX11_trace_5 : decode cX11_trace 5 = .ok (.aload_n 0, 1) := by decide +kernel
theorem dX11_trace_6 : decode cX11_trace 6 = .ok (.getfield 74, 3) := by decide +kernel
theorem dX11_trace_9 : decode cX11_trace 9 = .ok (.getfield 260, 3) := by decide +kernel
theorem dX11_trace_12 : decode cX11_trace 12 = .ok (.bipush 24, 2) := by decide +kernel
theorem dX11_trace_14 : decode cX11_trace 14 = .ok (.invokestatic 263, 3) := by decide +kernel
theorem dX11_trace_17 : decode cX11_trace 17 = .ok (.if_icmp .lt 7, 3) := by decide +kernel
theorem dX11_trace_20 : decode cX11_trace 20 = .ok (.iconst (-1), 1) := by decide +kernel
theorem dX11_trace_21 : decode cX11_trace 21 = .ok (.goto 12, 3) := by decide +kernel
theorem dX11_trace_24 : decode cX11_trace 24 = .ok (.aload_n 0, 1) := by decide +kernel
theorem dX11_trace_25 : decode cX11_trace 25 = .ok (.getfield 74, 3) := by decide +kernel
theorem dX11_trace_28 : decode cX11_trace 28 = .ok (.getfield 268, 3) := by decide +kernel
theorem dX11_trace_31 : decode cX11_trace 31 = .ok (.iload_n 1, 1) := by decide +kernel
theorem dX11_trace_32 : decode cX11_trace 32 = .ok (.iaload, 1) := by decide +kernel
theorem dX11_trace_33 : decode cX11_trace 33 = .ok (.ireturn, 1) := by decide +kernel
theorem dX11_keep_0 : decode cX11_keep 0 = .ok (.iload_n 1, 1) := by decide +kernel
theorem dX11_keep_1 : decode cX11_keep 1 = .ok (.invokestatic 97, 3) := by decide +kernel
theorem dX11_keep_4 : decode cX11_keep 4 = .ok (.ifCond .eq 19, 3) := by decide +kernel
theorem dX11_keep_7 : decode cX11_keep 7 = .ok (.iload_n 2, 1) := by decide +kernel
theorem dX11_keep_8 : decode cX11_keep 8 = .ok (.iconst (-1), 1) := by decide +kernel
theorem dX11_keep_9 : decode cX11_keep 9 = .ok (.if_icmp .lt 14, 3) := by decide +kernel
theorem dX11_keep_12 : decode cX11_keep 12 = .ok (.iload_n 2, 1) := by decide +kernel
theorem dX11_keep_13 : decode cX11_keep 13 = .ok (.aload_n 0, 1) := by decide +kernel
theorem dX11_keep_14 : decode cX11_keep 14 = .ok (.getfield 74, 3) := by decide +kernel
theorem dX11_keep_17 : decode cX11_keep 17 = .ok (.getfield 271, 3) := by decide +kernel
theorem dX11_keep_20 : decode cX11_keep 20 = .ok (.if_icmp .lt 5, 3) := by decide +kernel
theorem dX11_keep_23 : decode cX11_keep 23 = .ok (.iconst (-1), 1) := by decide +kernel
theorem dX11_keep_24 : decode cX11_keep 24 = .ok (.ireturn, 1) := by decide +kernel
theorem dX11_keep_25 : decode cX11_keep 25 = .ok (.aload_n 0, 1) := by decide +kernel
theorem dX11_keep_26 : decode cX11_keep 26 = .ok (.getfield 80, 3) := by decide +kernel
theorem dX11_keep_29 : decode cX11_keep 29 = .ok (.iload_n 1, 1) := by decide +kernel
theorem dX11_keep_30 : decode cX11_keep 30 = .ok (.aaload, 1) := by decide +kernel
theorem dX11_keep_31 : decode cX11_keep 31 = .ok (.iload_n 2, 1) := by decide +kernel
theorem dX11_keep_32 : decode cX11_keep 32 = .ok (.invokevirtual 272, 3) := by decide +kernel
theorem dX11_keep_35 : decode cX11_keep 35 = .ok (.iconst 1, 1) := by decide +kernel
theorem dX11_keep_36 : decode cX11_keep 36 = .ok (.ireturn, 1) := by decide +kernel
theorem dX11_row_0 : decode cX11_row 0 = .ok (.iload_n 1, 1) := by decide +kernel
theorem dX11_row_1 : decode cX11_row 1 = .ok (.invokestatic 97, 3) := by decide +kernel
theorem dX11_row_4 : decode cX11_row 4 = .ok (.ifCond .eq 18, 3) := by decide +kernel
theorem dX11_row_7 : decode cX11_row 7 = .ok (.iload_n 2, 1) := by decide +kernel
theorem dX11_row_8 : decode cX11_row 8 = .ok (.ifCond .lt 14, 3) := by decide +kernel
theorem dX11_row_11 : decode cX11_row 11 = .ok (.iload_n 2, 1) := by decide +kernel
theorem dX11_row_12 : decode cX11_row 12 = .ok (.iconst 4, 1) := by decide +kernel
theorem dX11_row_13 : decode cX11_row 13 = .ok (.if_icmp .gt 9, 3) := by decide +kernel
theorem dX11_row_16 : decode cX11_row 16 = .ok (.iload_n 3, 1) := by decide +kernel
theorem dX11_row_17 : decode cX11_row 17 = .ok (.bipush 60, 2) := by decide +kernel
theorem dX11_row_19 : decode cX11_row 19 = .ok (.if_icmp .le 5, 3) := by decide +kernel
theorem dX11_row_22 : decode cX11_row 22 = .ok (.iconst (-1), 1) := by decide +kernel
theorem dX11_row_23 : decode cX11_row 23 = .ok (.ireturn, 1) := by decide +kernel
theorem dX11_row_24 : decode cX11_row 24 = .ok (.iload_n 3, 1) := by decide +kernel
theorem dX11_row_25 : decode cX11_row 25 = .ok (.ifCond .ge 6, 3) := by decide +kernel
theorem dX11_row_28 : decode cX11_row 28 = .ok (.bipush (-14), 2) := by decide +kernel
theorem dX11_row_30 : decode cX11_row 30 = .ok (.ireturn, 1) := by decide +kernel
theorem dX11_row_31 : decode cX11_row 31 = .ok (.aload_n 0, 1) := by decide +kernel
theorem dX11_row_32 : decode cX11_row 32 = .ok (.getfield 80, 3) := by decide +kernel
theorem dX11_row_35 : decode cX11_row 35 = .ok (.iload_n 1, 1) := by decide +kernel
theorem dX11_row_36 : decode cX11_row 36 = .ok (.aaload, 1) := by decide +kernel
theorem dX11_row_37 : decode cX11_row 37 = .ok (.iload_n 2, 1) := by decide +kernel
theorem dX11_row_38 : decode cX11_row 38 = .ok (.iload_n 3, 1) := by decide +kernel
theorem dX11_row_39 : decode cX11_row 39 = .ok (.invokevirtual 275, 3) := by decide +kernel
theorem dX11_row_42 : decode cX11_row 42 = .ok (.iconst 1, 1) := by decide +kernel
theorem dX11_row_43 : decode cX11_row 43 = .ok (.ireturn, 1) := by decide +kernel
theorem dX11_put_0 : decode cX11_put 0 = .ok (.aload_n 0, 1) := by decide +kernel
theorem dX11_put_1 : decode cX11_put 1 = .ok (.iload_n 1, 1) := by decide +kernel
theorem dX11_put_2 : decode cX11_put 2 = .ok (.iload_n 2, 1) := by decide +kernel
theorem dX11_put_3 : decode cX11_put 3 = .ok (.invokevirtual 278, 3) := by decide +kernel
theorem dX11_put_6 : decode cX11_put 6 = .ok (.istore 5, 2) := by decide +kernel
theorem dX11_put_8 : decode cX11_put 8 = .ok (.iload 5, 2) := by decide +kernel
theorem dX11_put_10 : decode cX11_put 10 = .ok (.ifCond .eq 6, 3) := by decide +kernel
theorem dX11_put_13 : decode cX11_put 13 = .ok (.iload 5, 2) := by decide +kernel
theorem dX11_put_15 : decode cX11_put 15 = .ok (.ireturn, 1) := by decide +kernel
theorem dX11_put_16 : decode cX11_put 16 = .ok (.aload_n 0, 1) := by decide +kernel
theorem dX11_put_17 : decode cX11_put 17 = .ok (.getfield 80, 3) := by decide +kernel
theorem dX11_put_20 : decode cX11_put 20 = .ok (.iload_n 1, 1) := by decide +kernel
theorem dX11_put_21 : decode cX11_put 21 = .ok (.aaload, 1) := by decide +kernel
theorem dX11_put_22 : decode cX11_put 22 = .ok (.getfield 281, 3) := by decide +kernel
theorem dX11_put_25 : decode cX11_put 25 = .ok (.iload_n 2, 1) := by decide +kernel
theorem dX11_put_26 : decode cX11_put 26 = .ok (.aload_n 0, 1) := by decide +kernel
theorem dX11_put_27 : decode cX11_put 27 = .ok (.getfield 80, 3) := by decide +kernel
theorem dX11_put_30 : decode cX11_put 30 = .ok (.iload_n 1, 1) := by decide +kernel
theorem dX11_put_31 : decode cX11_put 31 = .ok (.aaload, 1) := by decide +kernel
theorem dX11_put_32 : decode cX11_put 32 = .ok (.lload_n 3, 1) := by decide +kernel
theorem dX11_put_33 : decode cX11_put 33 = .ok (.invokevirtual 285, 3) := by decide +kernel
theorem dX11_put_36 : decode cX11_put 36 = .ok (.lastore, 1) := by decide +kernel
theorem dX11_put_37 : decode cX11_put 37 = .ok (.iconst 1, 1) := by decide +kernel
theorem dX11_put_38 : decode cX11_put 38 = .ok (.ireturn, 1) := by decide +kernel
theorem dX11_element_0 : decode cX11_element 0 = .ok (.aload_n 0, 1) := by decide +kernel
theorem dX11_element_1 : decode cX11_element 1 = .ok (.iload_n 1, 1) := by decide +kernel
theorem dX11_element_2 : decode cX11_element 2 = .ok (.iload_n 2, 1) := by decide +kernel
theorem dX11_element_3 : decode cX11_element 3 = .ok (.invokevirtual 278, 3) := by decide +kernel
theorem dX11_element_6 : decode cX11_element 6 = .ok (.ifCond .eq 9, 3) := by decide +kernel
theorem dX11_element_9 : decode cX11_element 9 = .ok (.ldc2_w 289, 3) := by decide +kernel
theorem dX11_element_12 : decode cX11_element 12 = .ok (.goto 14, 3) := by decide +kernel
theorem dX11_element_15 : decode cX11_element 15 = .ok (.aload_n 0, 1) := by decide +kernel
theorem dX11_element_16 : decode cX11_element 16 = .ok (.getfield 80, 3) := by decide +kernel
theorem dX11_element_19 : decode cX11_element 19 = .ok (.iload_n 1, 1) := by decide +kernel
theorem dX11_element_20 : decode cX11_element 20 = .ok (.aaload, 1) := by decide +kernel
theorem dX11_element_21 : decode cX11_element 21 = .ok (.getfield 281, 3) := by decide +kernel
theorem dX11_element_24 : decode cX11_element 24 = .ok (.iload_n 2, 1) := by decide +kernel
theorem dX11_element_25 : decode cX11_element 25 = .ok (.laload, 1) := by decide +kernel
theorem dX11_element_26 : decode cX11_element 26 = .ok (.lreturn, 1) := by decide +kernel
theorem dX11_shift_0 : decode cX11_shift 0 = .ok (.iload_n 1, 1) := by decide +kernel
theorem dX11_shift_1 : decode cX11_shift 1 = .ok (.invokestatic 97, 3) := by decide +kernel
theorem dX11_shift_4 : decode cX11_shift 4 = .ok (.ifCond .eq 10, 3) := by decide +kernel
theorem dX11_shift_7 : decode cX11_shift 7 = .ok (.iload_n 3, 1) := by decide +kernel
theorem dX11_shift_8 : decode cX11_shift 8 = .ok (.invokestatic 97, 3) := by decide +kernel
theorem dX11_shift_11 : decode cX11_shift 11 = .ok (.ifCond .ne 5, 3) := by decide +kernel
theorem dX11_shift_14 : decode cX11_shift 14 = .ok (.iconst (-1), 1) := by decide +kernel
theorem dX11_shift_15 : decode cX11_shift 15 = .ok (.ireturn, 1) := by decide +kernel
theorem dX11_shift_16 : decode cX11_shift 16 = .ok (.aload_n 0, 1) := by decide +kernel
theorem dX11_shift_17 : decode cX11_shift 17 = .ok (.getfield 80, 3) := by decide +kernel
theorem dX11_shift_20 : decode cX11_shift 20 = .ok (.iload_n 1, 1) := by decide +kernel
theorem dX11_shift_21 : decode cX11_shift 21 = .ok (.aaload, 1) := by decide +kernel
theorem dX11_shift_22 : decode cX11_shift 22 = .ok (.astore 6, 2) := by decide +kernel
theorem dX11_shift_24 : decode cX11_shift 24 = .ok (.aload_n 0, 1) := by decide +kernel
theorem dX11_shift_25 : decode cX11_shift 25 = .ok (.getfield 80, 3) := by decide +kernel
theorem dX11_shift_28 : decode cX11_shift 28 = .ok (.iload_n 3, 1) := by decide +kernel
theorem dX11_shift_29 : decode cX11_shift 29 = .ok (.aaload, 1) := by decide +kernel
theorem dX11_shift_30 : decode cX11_shift 30 = .ok (.astore 7, 2) := by decide +kernel
theorem dX11_shift_32 : decode cX11_shift 32 = .ok (.aload 6, 2) := by decide +kernel
theorem dX11_shift_34 : decode cX11_shift 34 = .ok (.getfield 100, 3) := by decide +kernel
theorem dX11_shift_37 : decode cX11_shift 37 = .ok (.iconst (-1), 1) := by decide +kernel
theorem dX11_shift_38 : decode cX11_shift 38 = .ok (.if_icmp .eq 12, 3) := by decide +kernel
theorem dX11_shift_41 : decode cX11_shift 41 = .ok (.aload 7, 2) := by decide +kernel
theorem dX11_shift_43 : decode cX11_shift 43 = .ok (.getfield 100, 3) := by decide +kernel
theorem dX11_shift_46 : decode cX11_shift 46 = .ok (.iconst (-1), 1) := by decide +kernel
theorem dX11_shift_47 : decode cX11_shift 47 = .ok (.if_icmp .ne 6, 3) := by decide +kernel
theorem dX11_shift_50 : decode cX11_shift 50 = .ok (.bipush (-11), 2) := by decide +kernel
theorem dX11_shift_52 : decode cX11_shift 52 = .ok (.ireturn, 1) := by decide +kernel
theorem dX11_shift_53 : decode cX11_shift 53 = .ok (.aload 6, 2) := by decide +kernel
theorem dX11_shift_55 : decode cX11_shift 55 = .ok (.invokevirtual 291, 3) := by decide +kernel
theorem dX11_shift_58 : decode cX11_shift 58 = .ok (.ifCond .eq 16, 3) := by decide +kernel
theorem dX11_shift_61 : decode cX11_shift 61 = .ok (.aload 6, 2) := by decide +kernel
theorem dX11_shift_63 : decode cX11_shift 63 = .ok (.getfield 100, 3) := by decide +kernel
theorem dX11_shift_66 : decode cX11_shift 66 = .ok (.aload 7, 2) := by decide +kernel
theorem dX11_shift_68 : decode cX11_shift 68 = .ok (.getfield 100, 3) := by decide +kernel
theorem dX11_shift_71 : decode cX11_shift 71 = .ok (.if_icmp .eq 6, 3) := by decide +kernel
theorem dX11_shift_74 : decode cX11_shift 74 = .ok (.bipush (-12), 2) := by decide +kernel
theorem dX11_shift_76 : decode cX11_shift 76 = .ok (.ireturn, 1) := by decide +kernel
theorem dX11_shift_77 : decode cX11_shift 77 = .ok (.aload 6, 2) := by decide +kernel
theorem dX11_shift_79 : decode cX11_shift 79 = .ok (.iload_n 2, 1) := by decide +kernel
theorem dX11_shift_80 : decode cX11_shift 80 = .ok (.iload 5, 2) := by decide +kernel
theorem dX11_shift_82 : decode cX11_shift 82 = .ok (.invokevirtual 295, 3) := by decide +kernel
theorem dX11_shift_85 : decode cX11_shift 85 = .ok (.ifCond .eq 15, 3) := by decide +kernel
theorem dX11_shift_88 : decode cX11_shift 88 = .ok (.aload 7, 2) := by decide +kernel
theorem dX11_shift_90 : decode cX11_shift 90 = .ok (.iload 4, 2) := by decide +kernel
theorem dX11_shift_92 : decode cX11_shift 92 = .ok (.iload 5, 2) := by decide +kernel
theorem dX11_shift_94 : decode cX11_shift 94 = .ok (.invokevirtual 295, 3) := by decide +kernel
theorem dX11_shift_97 : decode cX11_shift 97 = .ok (.ifCond .ne 6, 3) := by decide +kernel
theorem dX11_shift_100 : decode cX11_shift 100 = .ok (.bipush (-13), 2) := by decide +kernel
theorem dX11_shift_102 : decode cX11_shift 102 = .ok (.ireturn, 1) := by decide +kernel
theorem dX11_shift_103 : decode cX11_shift 103 = .ok (.aload 6, 2) := by decide +kernel
theorem dX11_shift_105 : decode cX11_shift 105 = .ok (.getfield 281, 3) := by decide +kernel
theorem dX11_shift_108 : decode cX11_shift 108 = .ok (.iload_n 2, 1) := by decide +kernel
theorem dX11_shift_109 : decode cX11_shift 109 = .ok (.aload 7, 2) := by decide +kernel
theorem dX11_shift_111 : decode cX11_shift 111 = .ok (.getfield 281, 3) := by decide +kernel
theorem dX11_shift_114 : decode cX11_shift 114 = .ok (.iload 4, 2) := by decide +kernel
theorem dX11_shift_116 : decode cX11_shift 116 = .ok (.iload 5, 2) := by decide +kernel
theorem dX11_shift_118 : decode cX11_shift 118 = .ok (.invokestatic 298, 3) := by decide +kernel
theorem dX11_shift_121 : decode cX11_shift 121 = .ok (.iload 5, 2) := by decide +kernel
theorem dX11_shift_123 : decode cX11_shift 123 = .ok (.ireturn, 1) := by decide +kernel
theorem dX11_taken_0 : decode cX11_taken 0 = .ok (.iload_n 1, 1) := by decide +kernel
theorem dX11_taken_1 : decode cX11_taken 1 = .ok (.invokestatic 97, 3) := by decide +kernel
theorem dX11_taken_4 : decode cX11_taken 4 = .ok (.ifCond .eq 10, 3) := by decide +kernel
theorem dX11_taken_7 : decode cX11_taken 7 = .ok (.iload_n 2, 1) := by decide +kernel
theorem dX11_taken_8 : decode cX11_taken 8 = .ok (.invokestatic 253, 3) := by decide +kernel
theorem dX11_taken_11 : decode cX11_taken 11 = .ok (.ifCond .ne 5, 3) := by decide +kernel
theorem dX11_taken_14 : decode cX11_taken 14 = .ok (.iconst (-1), 1) := by decide +kernel
theorem dX11_taken_15 : decode cX11_taken 15 = .ok (.ireturn, 1) := by decide +kernel
theorem dX11_taken_16 : decode cX11_taken 16 = .ok (.aload_n 0, 1) := by decide +kernel
theorem dX11_taken_17 : decode cX11_taken 17 = .ok (.getfield 80, 3) := by decide +kernel
theorem dX11_taken_20 : decode cX11_taken 20 = .ok (.iload_n 1, 1) := by decide +kernel
theorem dX11_taken_21 : decode cX11_taken 21 = .ok (.aaload, 1) := by decide +kernel
theorem dX11_taken_22 : decode cX11_taken 22 = .ok (.astore_n 3, 1) := by decide +kernel
theorem dX11_taken_23 : decode cX11_taken 23 = .ok (.aload_n 3, 1) := by decide +kernel
theorem dX11_taken_24 : decode cX11_taken 24 = .ok (.getfield 100, 3) := by decide +kernel
theorem dX11_taken_27 : decode cX11_taken 27 = .ok (.iconst (-1), 1) := by decide +kernel
theorem dX11_taken_28 : decode cX11_taken 28 = .ok (.if_icmp .ne 6, 3) := by decide +kernel
theorem dX11_taken_31 : decode cX11_taken 31 = .ok (.bipush (-11), 2) := by decide +kernel
theorem dX11_taken_33 : decode cX11_taken 33 = .ok (.ireturn, 1) := by decide +kernel
theorem dX11_taken_34 : decode cX11_taken 34 = .ok (.aload_n 3, 1) := by decide +kernel
theorem dX11_taken_35 : decode cX11_taken 35 = .ok (.getfield 100, 3) := by decide +kernel
theorem dX11_taken_38 : decode cX11_taken 38 = .ok (.bipush (-2), 2) := by decide +kernel
theorem dX11_taken_40 : decode cX11_taken 40 = .ok (.if_icmp .ne 18, 3) := by decide +kernel
theorem dX11_taken_43 : decode cX11_taken 43 = .ok (.aload_n 0, 1) := by decide +kernel
theorem dX11_taken_44 : decode cX11_taken 44 = .ok (.getfield 74, 3) := by decide +kernel
theorem dX11_taken_47 : decode cX11_taken 47 = .ok (.aload_n 3, 1) := by decide +kernel
theorem dX11_taken_48 : decode cX11_taken 48 = .ok (.getfield 304, 3) := by decide +kernel
theorem dX11_taken_51 : decode cX11_taken 51 = .ok (.iload_n 2, 1) := by decide +kernel
theorem dX11_taken_52 : decode cX11_taken 52 = .ok (.invokevirtual 307, 3) := by decide +kernel
theorem dX11_taken_55 : decode cX11_taken 55 = .ok (.goto 5, 3) := by decide +kernel
theorem dX11_taken_58 : decode cX11_taken 58 = .ok (.bipush (-12), 2) := by decide +kernel
theorem dX11_taken_60 : decode cX11_taken 60 = .ok (.ireturn, 1) := by decide +kernel
theorem dX11_count_0 : decode cX11_count 0 = .ok (.iload_n 1, 1) := by decide +kernel
theorem dX11_count_1 : decode cX11_count 1 = .ok (.tableswitch 78 0 4 #[35, 43, 54, 62, 70], 35) := by decide +kernel
theorem dX11_count_36 : decode cX11_count 36 = .ok (.aload_n 0, 1) := by decide +kernel
theorem dX11_count_37 : decode cX11_count 37 = .ok (.getfield 12, 3) := by decide +kernel
theorem dX11_count_40 : decode cX11_count 40 = .ok (.getfield 310, 3) := by decide +kernel
theorem dX11_count_43 : decode cX11_count 43 = .ok (.ireturn, 1) := by decide +kernel
theorem dX11_count_44 : decode cX11_count 44 = .ok (.aload_n 0, 1) := by decide +kernel
theorem dX11_count_45 : decode cX11_count 45 = .ok (.getfield 12, 3) := by decide +kernel
theorem dX11_count_48 : decode cX11_count 48 = .ok (.getfield 129, 3) := by decide +kernel
theorem dX11_count_51 : decode cX11_count 51 = .ok (.getfield 313, 3) := by decide +kernel
theorem dX11_count_54 : decode cX11_count 54 = .ok (.ireturn, 1) := by decide +kernel
theorem dX11_count_55 : decode cX11_count 55 = .ok (.aload_n 0, 1) := by decide +kernel
theorem dX11_count_56 : decode cX11_count 56 = .ok (.getfield 67, 3) := by decide +kernel
theorem dX11_count_59 : decode cX11_count 59 = .ok (.getfield 238, 3) := by decide +kernel
theorem dX11_count_62 : decode cX11_count 62 = .ok (.ireturn, 1) := by decide +kernel
theorem dX11_count_63 : decode cX11_count 63 = .ok (.aload_n 0, 1) := by decide +kernel
theorem dX11_count_64 : decode cX11_count 64 = .ok (.getfield 74, 3) := by decide +kernel
theorem dX11_count_67 : decode cX11_count 67 = .ok (.getfield 271, 3) := by decide +kernel
theorem dX11_count_70 : decode cX11_count 70 = .ok (.ireturn, 1) := by decide +kernel
theorem dX11_count_71 : decode cX11_count 71 = .ok (.aload_n 0, 1) := by decide +kernel
theorem dX11_count_72 : decode cX11_count 72 = .ok (.getfield 74, 3) := by decide +kernel
theorem dX11_count_75 : decode cX11_count 75 = .ok (.getfield 260, 3) := by decide +kernel
theorem dX11_count_78 : decode cX11_count 78 = .ok (.ireturn, 1) := by decide +kernel
theorem dX11_count_79 : decode cX11_count 79 = .ok (.iconst (-1), 1) := by decide +kernel
theorem dX11_count_80 : decode cX11_count 80 = .ok (.ireturn, 1) := by decide +kernel
theorem dX11_isPart_0 : decode cX11_isPart 0 = .ok (.iload_n 0, 1) := by decide +kernel
theorem dX11_isPart_1 : decode cX11_isPart 1 = .ok (.ifCond .lt 12, 3) := by decide +kernel
theorem dX11_isPart_4 : decode cX11_isPart 4 = .ok (.iload_n 0, 1) := by decide +kernel
theorem dX11_isPart_5 : decode cX11_isPart 5 = .ok (.iconst 3, 1) := by decide +kernel
theorem dX11_isPart_6 : decode cX11_isPart 6 = .ok (.if_icmp .ge 7, 3) := by decide +kernel
theorem dX11_isPart_9 : decode cX11_isPart 9 = .ok (.iconst 1, 1) := by decide +kernel
theorem dX11_isPart_10 : decode cX11_isPart 10 = .ok (.goto 4, 3) := by decide +kernel
theorem dX11_isPart_13 : decode cX11_isPart 13 = .ok (.iconst 0, 1) := by decide +kernel
theorem dX11_isPart_14 : decode cX11_isPart 14 = .ok (.ireturn, 1) := by decide +kernel
theorem dX11_isSetting_0 : decode cX11_isSetting 0 = .ok (.iload_n 0, 1) := by decide +kernel
theorem dX11_isSetting_1 : decode cX11_isSetting 1 = .ok (.ifCond .lt 13, 3) := by decide +kernel
theorem dX11_isSetting_4 : decode cX11_isSetting 4 = .ok (.iload_n 0, 1) := by decide +kernel
theorem dX11_isSetting_5 : decode cX11_isSetting 5 = .ok (.bipush 60, 2) := by decide +kernel
theorem dX11_isSetting_7 : decode cX11_isSetting 7 = .ok (.if_icmp .gt 7, 3) := by decide +kernel
theorem dX11_isSetting_10 : decode cX11_isSetting 10 = .ok (.iconst 1, 1) := by decide +kernel
theorem dX11_isSetting_11 : decode cX11_isSetting 11 = .ok (.goto 4, 3) := by decide +kernel
theorem dX11_isSetting_14 : decode cX11_isSetting 14 = .ok (.iconst 0, 1) := by decide +kernel
theorem dX11_isSetting_15 : decode cX11_isSetting 15 = .ok (.ireturn, 1) := by decide +kernel
theorem dX11_isShelf_0 : decode cX11_isShelf 0 = .ok (.iload_n 0, 1) := by decide +kernel
theorem dX11_isShelf_1 : decode cX11_isShelf 1 = .ok (.ifCond .lt 13, 3) := by decide +kernel
theorem dX11_isShelf_4 : decode cX11_isShelf 4 = .ok (.iload_n 0, 1) := by decide +kernel
theorem dX11_isShelf_5 : decode cX11_isShelf 5 = .ok (.bipush 6, 2) := by decide +kernel
theorem dX11_isShelf_7 : decode cX11_isShelf 7 = .ok (.if_icmp .ge 7, 3) := by decide +kernel
theorem dX11_isShelf_10 : decode cX11_isShelf 10 = .ok (.iconst 1, 1) := by decide +kernel
theorem dX11_isShelf_11 : decode cX11_isShelf 11 = .ok (.goto 4, 3) := by decide +kernel
theorem dX11_isShelf_14 : decode cX11_isShelf 14 = .ok (.iconst 0, 1) := by decide +kernel
theorem dX11_isShelf_15 : decode cX11_isShelf 15 = .ok (.ireturn, 1) := by decide +kernel
theorem dX11_isKind_0 : decode cX11_isKind 0 = .ok (.iload_n 0, 1) := by decide +kernel
theorem dX11_isKind_1 : decode cX11_isKind 1 = .ok (.ifCond .lt 13, 3) := by decide +kernel
theorem dX11_isKind_4 : decode cX11_isKind 4 = .ok (.iload_n 0, 1) := by decide +kernel
theorem dX11_isKind_5 : decode cX11_isKind 5 = .ok (.bipush 8, 2) := by decide +kernel
theorem dX11_isKind_7 : decode cX11_isKind 7 = .ok (.if_icmp .ge 7, 3) := by decide +kernel
theorem dX11_isKind_10 : decode cX11_isKind 10 = .ok (.iconst 1, 1) := by decide +kernel
theorem dX11_isKind_11 : decode cX11_isKind 11 = .ok (.goto 4, 3) := by decide +kernel
theorem dX11_isKind_14 : decode cX11_isKind 14 = .ok (.iconst 0, 1) := by decide +kernel
theorem dX11_isKind_15 : decode cX11_isKind 15 = .ok (.ireturn, 1) := by decide +kernel
theorem dX11_fits_0 : decode cX11_fits 0 = .ok (.iload_n 0, 1) := by decide +kernel
theorem dX11_fits_1 : decode cX11_fits 1 = .ok (.ifCond .lt 33, 3) := by decide +kernel
theorem dX11_fits_4 : decode cX11_fits 4 = .ok (.iload_n 0, 1) := by decide +kernel
theorem dX11_fits_5 : decode cX11_fits 5 = .ok (.getstatic 314, 3) := by decide +kernel
theorem dX11_fits_8 : decode cX11_fits 8 = .ok (.arraylength, 1) := by decide +kernel
theorem dX11_fits_9 : decode cX11_fits 9 = .ok (.if_icmp .ge 25, 3) := by decide +kernel
theorem dX11_fits_12 : decode cX11_fits 12 = .ok (.iload_n 1, 1) := by decide +kernel
theorem dX11_fits_13 : decode cX11_fits 13 = .ok (.getstatic 317, 3) := by decide +kernel
theorem dX11_fits_16 : decode cX11_fits 16 = .ok (.iload_n 0, 1) := by decide +kernel
theorem dX11_fits_17 : decode cX11_fits 17 = .ok (.iaload, 1) := by decide +kernel
theorem dX11_fits_18 : decode cX11_fits 18 = .ok (.if_icmp .lt 16, 3) := by decide +kernel
theorem dX11_fits_21 : decode cX11_fits 21 = .ok (.iload_n 1, 1) := by decide +kernel
theorem dX11_fits_22 : decode cX11_fits 22 = .ok (.getstatic 314, 3) := by decide +kernel
theorem dX11_fits_25 : decode cX11_fits 25 = .ok (.iload_n 0, 1) := by decide +kernel
theorem dX11_fits_26 : decode cX11_fits 26 = .ok (.iaload, 1) := by decide +kernel
theorem dX11_fits_27 : decode cX11_fits 27 = .ok (.if_icmp .gt 7, 3) := by decide +kernel
theorem dX11_fits_30 : decode cX11_fits 30 = .ok (.iconst 1, 1) := by decide +kernel
theorem dX11_fits_31 : decode cX11_fits 31 = .ok (.goto 4, 3) := by decide +kernel
theorem dX11_fits_34 : decode cX11_fits 34 = .ok (.iconst 0, 1) := by decide +kernel
theorem dX11_fits_35 : decode cX11_fits 35 = .ok (.ireturn, 1) := by decide +kernel
theorem dX11_refusalOf_0 : decode cX11_refusalOf 0 = .ok (.aload_n 0, 1) := by decide +kernel
theorem dX11_refusalOf_1 : decode cX11_refusalOf 1 = .ok (.getfield 80, 3) := by decide +kernel
theorem dX11_refusalOf_4 : decode cX11_refusalOf 4 = .ok (.iload_n 1, 1) := by decide +kernel
theorem dX11_refusalOf_5 : decode cX11_refusalOf 5 = .ok (.aaload, 1) := by decide +kernel
theorem dX11_refusalOf_6 : decode cX11_refusalOf 6 = .ok (.getfield 100, 3) := by decide +kernel
theorem dX11_refusalOf_9 : decode cX11_refusalOf 9 = .ok (.iconst (-1), 1) := by decide +kernel
theorem dX11_refusalOf_10 : decode cX11_refusalOf 10 = .ok (.if_icmp .ne 6, 3) := by decide +kernel
theorem dX11_refusalOf_13 : decode cX11_refusalOf 13 = .ok (.bipush (-11), 2) := by decide +kernel
theorem dX11_refusalOf_15 : decode cX11_refusalOf 15 = .ok (.ireturn, 1) := by decide +kernel
theorem dX11_refusalOf_16 : decode cX11_refusalOf 16 = .ok (.aload_n 0, 1) := by decide +kernel
theorem dX11_refusalOf_17 : decode cX11_refusalOf 17 = .ok (.getfield 80, 3) := by decide +kernel
theorem dX11_refusalOf_20 : decode cX11_refusalOf 20 = .ok (.iload_n 1, 1) := by decide +kernel
theorem dX11_refusalOf_21 : decode cX11_refusalOf 21 = .ok (.aaload, 1) := by decide +kernel
theorem dX11_refusalOf_22 : decode cX11_refusalOf 22 = .ok (.getfield 100, 3) := by decide +kernel
theorem dX11_refusalOf_25 : decode cX11_refusalOf 25 = .ok (.ifCond .ne 7, 3) := by decide +kernel
theorem dX11_refusalOf_28 : decode cX11_refusalOf 28 = .ok (.iconst 0, 1) := by decide +kernel
theorem dX11_refusalOf_29 : decode cX11_refusalOf 29 = .ok (.goto 5, 3) := by decide +kernel
theorem dX11_refusalOf_32 : decode cX11_refusalOf 32 = .ok (.bipush (-12), 2) := by decide +kernel
theorem dX11_refusalOf_34 : decode cX11_refusalOf 34 = .ok (.ireturn, 1) := by decide +kernel
theorem dX11_readWeek_0 : decode cX11_readWeek 0 = .ok (.aload_n 0, 1) := by decide +kernel
theorem dX11_readWeek_1 : decode cX11_readWeek 1 = .ok (.iload_n 1, 1) := by decide +kernel
theorem dX11_readWeek_2 : decode cX11_readWeek 2 = .ok (.invokevirtual 209, 3) := by decide +kernel
theorem dX11_readWeek_5 : decode cX11_readWeek 5 = .ok (.istore_n 2, 1) := by decide +kernel
theorem dX11_readWeek_6 : decode cX11_readWeek 6 = .ok (.iload_n 2, 1) := by decide +kernel
theorem dX11_readWeek_7 : decode cX11_readWeek 7 = .ok (.ifCond .ne 23, 3) := by decide +kernel
theorem dX11_readWeek_10 : decode cX11_readWeek 10 = .ok (.aload_n 0, 1) := by decide +kernel
theorem dX11_readWeek_11 : decode cX11_readWeek 11 = .ok (.getfield 19, 3) := by decide +kernel
theorem dX11_readWeek_14 : decode cX11_readWeek 14 = .ok (.aload_n 0, 1) := by decide +kernel
theorem dX11_readWeek_15 : decode cX11_readWeek 15 = .ok (.getfield 80, 3) := by decide +kernel
theorem dX11_readWeek_18 : decode cX11_readWeek 18 = .ok (.iload_n 1, 1) := by decide +kernel
theorem dX11_readWeek_19 : decode cX11_readWeek 19 = .ok (.aaload, 1) := by decide +kernel
theorem dX11_readWeek_20 : decode cX11_readWeek 20 = .ok (.aload_n 0, 1) := by decide +kernel
theorem dX11_readWeek_21 : decode cX11_readWeek 21 = .ok (.getfield 12, 3) := by decide +kernel
theorem dX11_readWeek_24 : decode cX11_readWeek 24 = .ok (.getfield 310, 3) := by decide +kernel
theorem dX11_readWeek_27 : decode cX11_readWeek 27 = .ok (.invokevirtual 320, 3) := by decide +kernel
theorem dX11_readWeek_30 : decode cX11_readWeek 30 = .ok (.iload_n 2, 1) := by decide +kernel
theorem dX11_readWeek_31 : decode cX11_readWeek 31 = .ok (.ireturn, 1) := by decide +kernel
theorem dX11_refusalAt_0 : decode cX11_refusalAt 0 = .ok (.iload_n 1, 1) := by decide +kernel
theorem dX11_refusalAt_1 : decode cX11_refusalAt 1 = .ok (.invokestatic 97, 3) := by decide +kernel
theorem dX11_refusalAt_4 : decode cX11_refusalAt 4 = .ok (.ifCond .ne 5, 3) := by decide +kernel
theorem dX11_refusalAt_7 : decode cX11_refusalAt 7 = .ok (.iconst (-1), 1) := by decide +kernel
theorem dX11_refusalAt_8 : decode cX11_refusalAt 8 = .ok (.ireturn, 1) := by decide +kernel
theorem dX11_refusalAt_9 : decode cX11_refusalAt 9 = .ok (.aload_n 0, 1) := by decide +kernel
theorem dX11_refusalAt_10 : decode cX11_refusalAt 10 = .ok (.getfield 80, 3) := by decide +kernel
theorem dX11_refusalAt_13 : decode cX11_refusalAt 13 = .ok (.iload_n 1, 1) := by decide +kernel
theorem dX11_refusalAt_14 : decode cX11_refusalAt 14 = .ok (.aaload, 1) := by decide +kernel
theorem dX11_refusalAt_15 : decode cX11_refusalAt 15 = .ok (.astore_n 3, 1) := by decide +kernel
theorem dX11_refusalAt_16 : decode cX11_refusalAt 16 = .ok (.aload_n 3, 1) := by decide +kernel
theorem dX11_refusalAt_17 : decode cX11_refusalAt 17 = .ok (.getfield 100, 3) := by decide +kernel
theorem dX11_refusalAt_20 : decode cX11_refusalAt 20 = .ok (.iconst (-1), 1) := by decide +kernel
theorem dX11_refusalAt_21 : decode cX11_refusalAt 21 = .ok (.if_icmp .ne 6, 3) := by decide +kernel
theorem dX11_refusalAt_24 : decode cX11_refusalAt 24 = .ok (.bipush (-11), 2) := by decide +kernel
theorem dX11_refusalAt_26 : decode cX11_refusalAt 26 = .ok (.ireturn, 1) := by decide +kernel
theorem dX11_refusalAt_27 : decode cX11_refusalAt 27 = .ok (.aload_n 3, 1) := by decide +kernel
theorem dX11_refusalAt_28 : decode cX11_refusalAt 28 = .ok (.invokevirtual 291, 3) := by decide +kernel
theorem dX11_refusalAt_31 : decode cX11_refusalAt 31 = .ok (.ifCond .ne 6, 3) := by decide +kernel
theorem dX11_refusalAt_34 : decode cX11_refusalAt 34 = .ok (.bipush (-12), 2) := by decide +kernel
theorem dX11_refusalAt_36 : decode cX11_refusalAt 36 = .ok (.ireturn, 1) := by decide +kernel
theorem dX11_refusalAt_37 : decode cX11_refusalAt 37 = .ok (.aload_n 3, 1) := by decide +kernel
theorem dX11_refusalAt_38 : decode cX11_refusalAt 38 = .ok (.iload_n 2, 1) := by decide +kernel
theorem dX11_refusalAt_39 : decode cX11_refusalAt 39 = .ok (.iconst 1, 1) := by decide +kernel
theorem dX11_refusalAt_40 : decode cX11_refusalAt 40 = .ok (.invokevirtual 295, 3) := by decide +kernel
theorem dX11_refusalAt_43 : decode cX11_refusalAt 43 = .ok (.ifCond .eq 7, 3) := by decide +kernel
theorem dX11_refusalAt_46 : decode cX11_refusalAt 46 = .ok (.iconst 0, 1) := by decide +kernel
theorem dX11_refusalAt_47 : decode cX11_refusalAt 47 = .ok (.goto 5, 3) := by decide +kernel
theorem dX11_refusalAt_50 : decode cX11_refusalAt 50 = .ok (.bipush (-13), 2) := by decide +kernel
theorem dX11_refusalAt_52 : decode cX11_refusalAt 52 = .ok (.ireturn, 1) := by decide +kernel
theorem dX11_fromRow_0 : decode cX11_fromRow 0 = .ok (.iconst 0, 1) := by decide +kernel
theorem dX11_fromRow_1 : decode cX11_fromRow 1 = .ok (.istore 4, 2) := by decide +kernel
theorem dX11_fromRow_3 : decode cX11_fromRow 3 = .ok (.iload_n 2, 1) := by decide +kernel
theorem dX11_fromRow_4 : decode cX11_fromRow 4 = .ok (.istore 5, 2) := by decide +kernel
theorem dX11_fromRow_6 : decode cX11_fromRow 6 = .ok (.iload 4, 2) := by decide +kernel
theorem dX11_fromRow_8 : decode cX11_fromRow 8 = .ok (.iload_n 3, 1) := by decide +kernel
theorem dX11_fromRow_9 : decode cX11_fromRow 9 = .ok (.if_icmp .ge 35, 3) := by decide +kernel
theorem dX11_fromRow_12 : decode cX11_fromRow 12 = .ok (.aload_n 1, 1) := by decide +kernel
theorem dX11_fromRow_13 : decode cX11_fromRow 13 = .ok (.iload 5, 2) := by decide +kernel
theorem dX11_fromRow_15 : decode cX11_fromRow 15 = .ok (.iconst 4, 1) := by decide +kernel
theorem dX11_fromRow_16 : decode cX11_fromRow 16 = .ok (.invokevirtual 295, 3) := by decide +kernel
theorem dX11_fromRow_19 : decode cX11_fromRow 19 = .ok (.ifCond .eq 25, 3) := by decide +kernel
theorem dX11_fromRow_22 : decode cX11_fromRow 22 = .ok (.aload_n 0, 1) := by decide +kernel
theorem dX11_fromRow_23 : decode cX11_fromRow 23 = .ok (.aload_n 1, 1) := by decide +kernel
theorem dX11_fromRow_24 : decode cX11_fromRow 24 = .ok (.iload 5, 2) := by decide +kernel
theorem dX11_fromRow_26 : decode cX11_fromRow 26 = .ok (.invokevirtual 324, 3) := by decide +kernel
theorem dX11_fromRow_29 : decode cX11_fromRow 29 = .ok (.ifCond .ne 6, 3) := by decide +kernel
theorem dX11_fromRow_32 : decode cX11_fromRow 32 = .ok (.iload 4, 2) := by decide +kernel
theorem dX11_fromRow_34 : decode cX11_fromRow 34 = .ok (.ireturn, 1) := by decide +kernel
theorem dX11_fromRow_35 : decode cX11_fromRow 35 = .ok (.iinc 4 1, 3) := by decide +kernel
theorem dX11_fromRow_38 : decode cX11_fromRow 38 = .ok (.iinc 5 4, 3) := by decide +kernel
theorem dX11_fromRow_41 : decode cX11_fromRow 41 = .ok (.goto (-35), 3) := by decide +kernel
theorem dX11_fromRow_44 : decode cX11_fromRow 44 = .ok (.iload 4, 2) := by decide +kernel
theorem dX11_fromRow_46 : decode cX11_fromRow 46 = .ok (.ireturn, 1) := by decide +kernel
theorem dX11_comesFrom_0 : decode cX11_comesFrom 0 = .ok (.aload_n 1, 1) := by decide +kernel
theorem dX11_comesFrom_1 : decode cX11_comesFrom 1 = .ok (.getfield 281, 3) := by decide +kernel
theorem dX11_comesFrom_4 : decode cX11_comesFrom 4 = .ok (.iload_n 2, 1) := by decide +kernel
theorem dX11_comesFrom_5 : decode cX11_comesFrom 5 = .ok (.iconst 3, 1) := by decide +kernel
theorem dX11_comesFrom_6 : decode cX11_comesFrom 6 = .ok (.iadd, 1) := by decide +kernel
theorem dX11_comesFrom_7 : decode cX11_comesFrom 7 = .ok (.laload, 1) := by decide +kernel
theorem dX11_comesFrom_8 : decode cX11_comesFrom 8 = .ok (.l2i, 1) := by decide +kernel
theorem dX11_comesFrom_9 : decode cX11_comesFrom 9 = .ok (.istore_n 3, 1) := by decide +kernel
theorem dX11_comesFrom_10 : decode cX11_comesFrom 10 = .ok (.iconst 0, 1) := by decide +kernel
theorem dX11_comesFrom_11 : decode cX11_comesFrom 11 = .ok (.istore 4, 2) := by decide +kernel
theorem dX11_comesFrom_13 : decode cX11_comesFrom 13 = .ok (.iload 4, 2) := by decide +kernel
theorem dX11_comesFrom_15 : decode cX11_comesFrom 15 = .ok (.iconst 3, 1) := by decide +kernel
theorem dX11_comesFrom_16 : decode cX11_comesFrom 16 = .ok (.if_icmp .ge 27, 3) := by decide +kernel
theorem dX11_comesFrom_19 : decode cX11_comesFrom 19 = .ok (.aload_n 1, 1) := by decide +kernel
theorem dX11_comesFrom_20 : decode cX11_comesFrom 20 = .ok (.getfield 281, 3) := by decide +kernel
theorem dX11_comesFrom_23 : decode cX11_comesFrom 23 = .ok (.iload_n 2, 1) := by decide +kernel
theorem dX11_comesFrom_24 : decode cX11_comesFrom 24 = .ok (.iload 4, 2) := by decide +kernel
theorem dX11_comesFrom_26 : decode cX11_comesFrom 26 = .ok (.iadd, 1) := by decide +kernel
theorem dX11_comesFrom_27 : decode cX11_comesFrom 27 = .ok (.laload, 1) := by decide +kernel
theorem dX11_comesFrom_28 : decode cX11_comesFrom 28 = .ok (.l2i, 1) := by decide +kernel
theorem dX11_comesFrom_29 : decode cX11_comesFrom 29 = .ok (.invokestatic 85, 3) := by decide +kernel
theorem dX11_comesFrom_32 : decode cX11_comesFrom 32 = .ok (.ifCond .ne 5, 3) := by decide +kernel
theorem dX11_comesFrom_35 : decode cX11_comesFrom 35 = .ok (.iconst 0, 1) := by decide +kernel
theorem dX11_comesFrom_36 : decode cX11_comesFrom 36 = .ok (.ireturn, 1) := by decide +kernel
theorem dX11_comesFrom_37 : decode cX11_comesFrom 37 = .ok (.iinc 4 1, 3) := by decide +kernel
theorem dX11_comesFrom_40 : decode cX11_comesFrom 40 = .ok (.goto (-27), 3) := by decide +kernel
theorem dX11_comesFrom_43 : decode cX11_comesFrom 43 = .ok (.iconst 5, 1) := by decide +kernel
theorem dX11_comesFrom_44 : decode cX11_comesFrom 44 = .ok (.iload_n 3, 1) := by decide +kernel
theorem dX11_comesFrom_45 : decode cX11_comesFrom 45 = .ok (.invokestatic 89, 3) := by decide +kernel
theorem dX11_comesFrom_48 : decode cX11_comesFrom 48 = .ok (.ifCond .ne 5, 3) := by decide +kernel
theorem dX11_comesFrom_51 : decode cX11_comesFrom 51 = .ok (.iconst 0, 1) := by decide +kernel
theorem dX11_comesFrom_52 : decode cX11_comesFrom 52 = .ok (.ireturn, 1) := by decide +kernel
theorem dX11_comesFrom_53 : decode cX11_comesFrom 53 = .ok (.aload_n 1, 1) := by decide +kernel
theorem dX11_comesFrom_54 : decode cX11_comesFrom 54 = .ok (.getfield 281, 3) := by decide +kernel
theorem dX11_comesFrom_57 : decode cX11_comesFrom 57 = .ok (.iload_n 2, 1) := by decide +kernel
theorem dX11_comesFrom_58 : decode cX11_comesFrom 58 = .ok (.laload, 1) := by decide +kernel
theorem dX11_comesFrom_59 : decode cX11_comesFrom 59 = .ok (.l2i, 1) := by decide +kernel
theorem dX11_comesFrom_60 : decode cX11_comesFrom 60 = .ok (.istore 4, 2) := by decide +kernel
theorem dX11_comesFrom_62 : decode cX11_comesFrom 62 = .ok (.aload_n 1, 1) := by decide +kernel
theorem dX11_comesFrom_63 : decode cX11_comesFrom 63 = .ok (.getfield 281, 3) := by decide +kernel
theorem dX11_comesFrom_66 : decode cX11_comesFrom 66 = .ok (.iload_n 2, 1) := by decide +kernel
theorem dX11_comesFrom_67 : decode cX11_comesFrom 67 = .ok (.iconst 1, 1) := by decide +kernel
theorem dX11_comesFrom_68 : decode cX11_comesFrom 68 = .ok (.iadd, 1) := by decide +kernel
theorem dX11_comesFrom_69 : decode cX11_comesFrom 69 = .ok (.laload, 1) := by decide +kernel
theorem dX11_comesFrom_70 : decode cX11_comesFrom 70 = .ok (.l2i, 1) := by decide +kernel
theorem dX11_comesFrom_71 : decode cX11_comesFrom 71 = .ok (.istore 5, 2) := by decide +kernel
theorem dX11_comesFrom_73 : decode cX11_comesFrom 73 = .ok (.aload_n 0, 1) := by decide +kernel
theorem dX11_comesFrom_74 : decode cX11_comesFrom 74 = .ok (.getfield 12, 3) := by decide +kernel
theorem dX11_comesFrom_77 : decode cX11_comesFrom 77 = .ok (.iload 4, 2) := by decide +kernel
theorem dX11_comesFrom_79 : decode cX11_comesFrom 79 = .ok (.iload 5, 2) := by decide +kernel
theorem dX11_comesFrom_81 : decode cX11_comesFrom 81 = .ok (.aload_n 1, 1) := by decide +kernel
theorem dX11_comesFrom_82 : decode cX11_comesFrom 82 = .ok (.getfield 281, 3) := by decide +kernel
theorem dX11_comesFrom_85 : decode cX11_comesFrom 85 = .ok (.iload_n 2, 1) := by decide +kernel
theorem dX11_comesFrom_86 : decode cX11_comesFrom 86 = .ok (.iconst 2, 1) := by decide +kernel
theorem dX11_comesFrom_87 : decode cX11_comesFrom 87 = .ok (.iadd, 1) := by decide +kernel
theorem dX11_comesFrom_88 : decode cX11_comesFrom 88 = .ok (.laload, 1) := by decide +kernel
theorem dX11_comesFrom_89 : decode cX11_comesFrom 89 = .ok (.l2i, 1) := by decide +kernel
theorem dX11_comesFrom_90 : decode cX11_comesFrom 90 = .ok (.iload_n 3, 1) := by decide +kernel
theorem dX11_comesFrom_91 : decode cX11_comesFrom 91 = .ok (.invokevirtual 93, 3) := by decide +kernel
theorem dX11_comesFrom_94 : decode cX11_comesFrom 94 = .ok (.ifCond .lt 7, 3) := by decide +kernel
theorem dX11_comesFrom_97 : decode cX11_comesFrom 97 = .ok (.iconst 1, 1) := by decide +kernel
theorem dX11_comesFrom_98 : decode cX11_comesFrom 98 = .ok (.goto 4, 3) := by decide +kernel
theorem dX11_comesFrom_101 : decode cX11_comesFrom 101 = .ok (.iconst 0, 1) := by decide +kernel
theorem dX11_comesFrom_102 : decode cX11_comesFrom 102 = .ok (.ireturn, 1) := by decide +kernel
theorem dX11_firstUnlike_0 : decode cX11_firstUnlike 0 = .ok (.aload_n 0, 1) := by decide +kernel
theorem dX11_firstUnlike_1 : decode cX11_firstUnlike 1 = .ok (.getfield 19, 3) := by decide +kernel
theorem dX11_firstUnlike_4 : decode cX11_firstUnlike 4 = .ok (.getfield 168, 3) := by decide +kernel
theorem dX11_firstUnlike_7 : decode cX11_firstUnlike 7 = .ok (.aload_n 1, 1) := by decide +kernel
theorem dX11_firstUnlike_8 : decode cX11_firstUnlike 8 = .ok (.getfield 212, 3) := by decide +kernel
theorem dX11_firstUnlike_11 : decode cX11_firstUnlike 11 = .ok (.invokestatic 263, 3) := by decide +kernel
theorem dX11_firstUnlike_14 : decode cX11_firstUnlike 14 = .ok (.istore_n 3, 1) := by decide +kernel
theorem dX11_firstUnlike_15 : decode cX11_firstUnlike 15 = .ok (.aload_n 0, 1) := by decide +kernel
theorem dX11_firstUnlike_16 : decode cX11_firstUnlike 16 = .ok (.getfield 28, 3) := by decide +kernel
theorem dX11_firstUnlike_19 : decode cX11_firstUnlike 19 = .ok (.invokevirtual 328, 3) := by decide +kernel
theorem dX11_firstUnlike_22 : decode cX11_firstUnlike 22 = .ok (.iconst 0, 1) := by decide +kernel
theorem dX11_firstUnlike_23 : decode cX11_firstUnlike 23 = .ok (.istore 4, 2) := by decide +kernel
theorem dX11_firstUnlike_25 : decode cX11_firstUnlike 25 = .ok (.iload 4, 2) := by decide +kernel
theorem dX11_firstUnlike_27 : decode cX11_firstUnlike 27 = .ok (.iload_n 3, 1) := by decide +kernel
theorem dX11_firstUnlike_28 : decode cX11_firstUnlike 28 = .ok (.if_icmp .ge 64, 3) := by decide +kernel
theorem dX11_firstUnlike_31 : decode cX11_firstUnlike 31 = .ok (.aload_n 0, 1) := by decide +kernel
theorem dX11_firstUnlike_32 : decode cX11_firstUnlike 32 = .ok (.getfield 28, 3) := by decide +kernel
theorem dX11_firstUnlike_35 : decode cX11_firstUnlike 35 = .ok (.aload_n 0, 1) := by decide +kernel
theorem dX11_firstUnlike_36 : decode cX11_firstUnlike 36 = .ok (.getfield 19, 3) := by decide +kernel
theorem dX11_firstUnlike_39 : decode cX11_firstUnlike 39 = .ok (.getfield 331, 3) := by decide +kernel
theorem dX11_firstUnlike_42 : decode cX11_firstUnlike 42 = .ok (.iload 4, 2) := by decide +kernel
theorem dX11_firstUnlike_44 : decode cX11_firstUnlike 44 = .ok (.iaload, 1) := by decide +kernel
theorem dX11_firstUnlike_45 : decode cX11_firstUnlike 45 = .ok (.invokevirtual 333, 3) := by decide +kernel
theorem dX11_firstUnlike_48 : decode cX11_firstUnlike 48 = .ok (.aload_n 1, 1) := by decide +kernel
theorem dX11_firstUnlike_49 : decode cX11_firstUnlike 49 = .ok (.getfield 281, 3) := by decide +kernel
theorem dX11_firstUnlike_52 : decode cX11_firstUnlike 52 = .ok (.iload 4, 2) := by decide +kernel
theorem dX11_firstUnlike_54 : decode cX11_firstUnlike 54 = .ok (.laload, 1) := by decide +kernel
theorem dX11_firstUnlike_55 : decode cX11_firstUnlike 55 = .ok (.ldc2_w 336, 3) := by decide +kernel
theorem dX11_firstUnlike_58 : decode cX11_firstUnlike 58 = .ok (.lcmp, 1) := by decide +kernel
theorem dX11_firstUnlike_59 : decode cX11_firstUnlike 59 = .ok (.ifCond .eq 27, 3) := by decide +kernel
theorem dX11_firstUnlike_62 : decode cX11_firstUnlike 62 = .ok (.aload_n 1, 1) := by decide +kernel
theorem dX11_firstUnlike_63 : decode cX11_firstUnlike 63 = .ok (.getfield 281, 3) := by decide +kernel
theorem dX11_firstUnlike_66 : decode cX11_firstUnlike 66 = .ok (.iload 4, 2) := by decide +kernel
theorem dX11_firstUnlike_68 : decode cX11_firstUnlike 68 = .ok (.laload, 1) := by decide +kernel
theorem dX11_firstUnlike_69 : decode cX11_firstUnlike 69 = .ok (.aload_n 0, 1) := by decide +kernel
theorem dX11_firstUnlike_70 : decode cX11_firstUnlike 70 = .ok (.getfield 28, 3) := by decide +kernel
theorem dX11_firstUnlike_73 : decode cX11_firstUnlike 73 = .ok (.getfield 190, 3) := by decide +kernel
theorem dX11_firstUnlike_76 : decode cX11_firstUnlike 76 = .ok (.iload_n 2, 1) := by decide +kernel
theorem dX11_firstUnlike_77 : decode cX11_firstUnlike 77 = .ok (.iaload, 1) := by decide +kernel
theorem dX11_firstUnlike_78 : decode cX11_firstUnlike 78 = .ok (.i2l, 1) := by decide +kernel
theorem dX11_firstUnlike_79 : decode cX11_firstUnlike 79 = .ok (.lcmp, 1) := by decide +kernel
theorem dX11_firstUnlike_80 : decode cX11_firstUnlike 80 = .ok (.ifCond .eq 6, 3) := by decide +kernel
theorem dX11_firstUnlike_83 : decode cX11_firstUnlike 83 = .ok (.iload 4, 2) := by decide +kernel
theorem dX11_firstUnlike_85 : decode cX11_firstUnlike 85 = .ok (.ireturn, 1) := by decide +kernel
theorem dX11_firstUnlike_86 : decode cX11_firstUnlike 86 = .ok (.iinc 4 1, 3) := by decide +kernel
theorem dX11_firstUnlike_89 : decode cX11_firstUnlike 89 = .ok (.goto (-64), 3) := by decide +kernel
theorem dX11_firstUnlike_92 : decode cX11_firstUnlike 92 = .ok (.bipush (-2), 2) := by decide +kernel
theorem dX11_firstUnlike_94 : decode cX11_firstUnlike 94 = .ok (.ireturn, 1) := by decide +kernel
theorem dX12_within_0 : decode cX12_within 0 = .ok (.lload_n 0, 1) := by decide +kernel
theorem dX12_within_1 : decode cX12_within 1 = .ok (.lload_n 2, 1) := by decide +kernel
theorem dX12_within_2 : decode cX12_within 2 = .ok (.lcmp, 1) := by decide +kernel
theorem dX12_within_3 : decode cX12_within 3 = .ok (.ifCond .lt 14, 3) := by decide +kernel
theorem dX12_within_6 : decode cX12_within 6 = .ok (.lload_n 0, 1) := by decide +kernel
theorem dX12_within_7 : decode cX12_within 7 = .ok (.lload 4, 2) := by decide +kernel
theorem dX12_within_9 : decode cX12_within 9 = .ok (.lcmp, 1) := by decide +kernel
theorem dX12_within_10 : decode cX12_within 10 = .ok (.ifCond .gt 7, 3) := by decide +kernel
theorem dX12_within_13 : decode cX12_within 13 = .ok (.iconst 1, 1) := by decide +kernel
theorem dX12_within_14 : decode cX12_within 14 = .ok (.goto 4, 3) := by decide +kernel
theorem dX12_within_17 : decode cX12_within 17 = .ok (.iconst 0, 1) := by decide +kernel
theorem dX12_within_18 : decode cX12_within 18 = .ok (.ireturn, 1) := by decide +kernel
theorem dX12_sizeOf_0 : decode cX12_sizeOf 0 = .ok (.iload_n 0, 1) := by decide +kernel
theorem dX12_sizeOf_1 : decode cX12_sizeOf 1 = .ok (.ifCond .ge 8, 3) := by decide +kernel
theorem dX12_sizeOf_4 : decode cX12_sizeOf 4 = .ok (.iload_n 0, 1) := by decide +kernel
theorem dX12_sizeOf_5 : decode cX12_sizeOf 5 = .ok (.ineg, 1) := by decide +kernel
theorem dX12_sizeOf_6 : decode cX12_sizeOf 6 = .ok (.goto 4, 3) := by decide +kernel
theorem dX12_sizeOf_9 : decode cX12_sizeOf 9 = .ok (.iload_n 0, 1) := by decide +kernel
theorem dX12_sizeOf_10 : decode cX12_sizeOf 10 = .ok (.ireturn, 1) := by decide +kernel
theorem dX12_isIn_0 : decode cX12_isIn 0 = .ok (.iload_n 0, 1) := by decide +kernel
theorem dX12_isIn_1 : decode cX12_isIn 1 = .ok (.iload_n 1, 1) := by decide +kernel
theorem dX12_isIn_2 : decode cX12_isIn 2 = .ok (.ishr, 1) := by decide +kernel
theorem dX12_isIn_3 : decode cX12_isIn 3 = .ok (.iconst 1, 1) := by decide +kernel
theorem dX12_isIn_4 : decode cX12_isIn 4 = .ok (.iand, 1) := by decide +kernel
theorem dX12_isIn_5 : decode cX12_isIn 5 = .ok (.iconst 1, 1) := by decide +kernel
theorem dX12_isIn_6 : decode cX12_isIn 6 = .ok (.if_icmp .ne 7, 3) := by decide +kernel
theorem dX12_isIn_9 : decode cX12_isIn 9 = .ok (.iconst 1, 1) := by decide +kernel
theorem dX12_isIn_10 : decode cX12_isIn 10 = .ok (.goto 4, 3) := by decide +kernel
theorem dX12_isIn_13 : decode cX12_isIn 13 = .ok (.iconst 0, 1) := by decide +kernel
theorem dX12_isIn_14 : decode cX12_isIn 14 = .ok (.ireturn, 1) := by decide +kernel
theorem dX12_bitsOf_0 : decode cX12_bitsOf 0 = .ok (.iconst 0, 1) := by decide +kernel
theorem dX12_bitsOf_1 : decode cX12_bitsOf 1 = .ok (.istore_n 1, 1) := by decide +kernel
theorem dX12_bitsOf_2 : decode cX12_bitsOf 2 = .ok (.iload_n 0, 1) := by decide +kernel
theorem dX12_bitsOf_3 : decode cX12_bitsOf 3 = .ok (.istore_n 2, 1) := by decide +kernel
theorem dX12_bitsOf_4 : decode cX12_bitsOf 4 = .ok (.iload_n 2, 1) := by decide +kernel
theorem dX12_bitsOf_5 : decode cX12_bitsOf 5 = .ok (.ifCond .eq 15, 3) := by decide +kernel
theorem dX12_bitsOf_8 : decode cX12_bitsOf 8 = .ok (.iinc 1 1, 3) := by decide +kernel
theorem dX12_bitsOf_11 : decode cX12_bitsOf 11 = .ok (.iload_n 2, 1) := by decide +kernel
theorem dX12_bitsOf_12 : decode cX12_bitsOf 12 = .ok (.iload_n 2, 1) := by decide +kernel
theorem dX12_bitsOf_13 : decode cX12_bitsOf 13 = .ok (.iconst 1, 1) := by decide +kernel
theorem dX12_bitsOf_14 : decode cX12_bitsOf 14 = .ok (.isub, 1) := by decide +kernel
theorem dX12_bitsOf_15 : decode cX12_bitsOf 15 = .ok (.iand, 1) := by decide +kernel
theorem dX12_bitsOf_16 : decode cX12_bitsOf 16 = .ok (.istore_n 2, 1) := by decide +kernel
theorem dX12_bitsOf_17 : decode cX12_bitsOf 17 = .ok (.goto (-13), 3) := by decide +kernel
theorem dX12_bitsOf_20 : decode cX12_bitsOf 20 = .ok (.iload_n 1, 1) := by decide +kernel
theorem dX12_bitsOf_21 : decode cX12_bitsOf 21 = .ok (.ireturn, 1) := by decide +kernel
theorem dX12_becomes_0 : decode cX12_becomes 0 = .ok (.aload_n 0, 1) := by decide +kernel
theorem dX12_becomes_1 : decode cX12_becomes 1 = .ok (.getfield 9, 3) := by decide +kernel
theorem dX12_becomes_4 : decode cX12_becomes 4 = .ok (.iload_n 1, 1) := by decide +kernel
theorem dX12_becomes_5 : decode cX12_becomes 5 = .ok (.iaload, 1) := by decide +kernel
theorem dX12_becomes_6 : decode cX12_becomes 6 = .ok (.istore_n 3, 1) := by decide +kernel
theorem dX12_becomes_7 : decode cX12_becomes 7 = .ok (.iload_n 3, 1) := by decide +kernel
theorem dX12_becomes_8 : decode cX12_becomes 8 = .ok (.iload_n 2, 1) := by decide +kernel
theorem dX12_becomes_9 : decode cX12_becomes 9 = .ok (.if_icmp .ne 5, 3) := by decide +kernel
theorem dX12_becomes_12 : decode cX12_becomes 12 = .ok (.iload_n 3, 1) := by decide +kernel
theorem dX12_becomes_13 : decode cX12_becomes 13 = .ok (.ireturn, 1) := by decide +kernel
theorem dX12_becomes_14 : decode cX12_becomes 14 = .ok (.aload_n 0, 1) := by decide +kernel
theorem dX12_becomes_15 : decode cX12_becomes 15 = .ok (.getfield 100, 3) := by decide +kernel
theorem dX12_becomes_18 : decode cX12_becomes 18 = .ok (.bipush 40, 2) := by decide +kernel
theorem dX12_becomes_20 : decode cX12_becomes 20 = .ok (.if_icmp .ne 77, 3) := by decide +kernel
theorem dX12_becomes_23 : decode cX12_becomes 23 = .ok (.iconst 1, 1) := by decide +kernel
theorem dX12_becomes_24 : decode cX12_becomes 24 = .ok (.istore 4, 2) := by decide +kernel
theorem dX12_becomes_26 : decode cX12_becomes 26 = .ok (.iload 4, 2) := by decide +kernel
theorem dX12_becomes_28 : decode cX12_becomes 28 = .ok (.bipush 40, 2) := by decide +kernel
theorem dX12_becomes_30 : decode cX12_becomes 30 = .ok (.if_icmp .ge 57, 3) := by decide +kernel
theorem dX12_becomes_33 : decode cX12_becomes 33 = .ok (.aload_n 0, 1) := by decide +kernel
theorem dX12_becomes_34 : decode cX12_becomes 34 = .ok (.getfield 13, 3) := by decide +kernel
theorem dX12_becomes_37 : decode cX12_becomes 37 = .ok (.iload 4, 2) := by decide +kernel
theorem dX12_becomes_39 : decode cX12_becomes 39 = .ok (.iconst 1, 1) := by decide +kernel
theorem dX12_becomes_40 : decode cX12_becomes 40 = .ok (.isub, 1) := by decide +kernel
theorem dX12_becomes_41 : decode cX12_becomes 41 = .ok (.aload_n 0, 1) := by decide +kernel
theorem dX12_becomes_42 : decode cX12_becomes 42 = .ok (.getfield 13, 3) := by decide +kernel
theorem dX12_becomes_45 : decode cX12_becomes 45 = .ok (.iload 4, 2) := by decide +kernel
theorem dX12_becomes_47 : decode cX12_becomes 47 = .ok (.iaload, 1) := by decide +kernel
theorem dX12_becomes_48 : decode cX12_becomes 48 = .ok (.iastore, 1) := by decide +kernel
theorem dX12_becomes_49 : decode cX12_becomes 49 = .ok (.aload_n 0, 1) := by decide +kernel
theorem dX12_becomes_50 : decode cX12_becomes 50 = .ok (.getfield 16, 3) := by decide +kernel
theorem dX12_becomes_53 : decode cX12_becomes 53 = .ok (.iload 4, 2) := by decide +kernel
theorem dX12_becomes_55 : decode cX12_becomes 55 = .ok (.iconst 1, 1) := by decide +kernel
theorem dX12_becomes_56 : decode cX12_becomes 56 = .ok (.isub, 1) := by decide +kernel
theorem dX12_becomes_57 : decode cX12_becomes 57 = .ok (.aload_n 0, 1) := by decide +kernel
theorem dX12_becomes_58 : decode cX12_becomes 58 = .ok (.getfield 16, 3) := by decide +kernel
theorem dX12_becomes_61 : decode cX12_becomes 61 = .ok (.iload 4, 2) := by decide +kernel
theorem dX12_becomes_63 : decode cX12_becomes 63 = .ok (.iaload, 1) := by decide +kernel
theorem dX12_becomes_64 : decode cX12_becomes 64 = .ok (.iastore, 1) := by decide +kernel
theorem dX12_becomes_65 : decode cX12_becomes 65 = .ok (.aload_n 0, 1) := by decide +kernel
theorem dX12_becomes_66 : decode cX12_becomes 66 = .ok (.getfield 19, 3) := by decide +kernel
theorem dX12_becomes_69 : decode cX12_becomes 69 = .ok (.iload 4, 2) := by decide +kernel
theorem dX12_becomes_71 : decode cX12_becomes 71 = .ok (.iconst 1, 1) := by decide +kernel
theorem dX12_becomes_72 : decode cX12_becomes 72 = .ok (.isub, 1) := by decide +kernel
theorem dX12_becomes_73 : decode cX12_becomes 73 = .ok (.aload_n 0, 1) := by decide +kernel
theorem dX12_becomes_74 : decode cX12_becomes 74 = .ok (.getfield 19, 3) := by decide +kernel
theorem dX12_becomes_77 : decode cX12_becomes 77 = .ok (.iload 4, 2) := by decide +kernel
theorem dX12_becomes_79 : decode cX12_becomes 79 = .ok (.iaload, 1) := by decide +kernel
theorem dX12_becomes_80 : decode cX12_becomes 80 = .ok (.iastore, 1) := by decide +kernel
theorem dX12_becomes_81 : decode cX12_becomes 81 = .ok (.iinc 4 1, 3) := by decide +kernel
theorem dX12_becomes_84 : decode cX12_becomes 84 = .ok (.goto (-58), 3) := by decide +kernel
theorem dX12_becomes_87 : decode cX12_becomes 87 = .ok (.aload_n 0, 1) := by decide +kernel
theorem dX12_becomes_88 : decode cX12_becomes 88 = .ok (.dup, 1) := by decide +kernel
theorem dX12_becomes_89 : decode cX12_becomes 89 = .ok (.getfield 100, 3) := by decide +kernel
theorem dX12_becomes_92 : decode cX12_becomes 92 = .ok (.iconst 1, 1) := by decide +kernel
theorem dX12_becomes_93 : decode cX12_becomes 93 = .ok (.isub, 1) := by decide +kernel
theorem dX12_becomes_94 : decode cX12_becomes 94 = .ok (.putfield 100, 3) := by decide +kernel
theorem dX12_becomes_97 : decode cX12_becomes 97 = .ok (.aload_n 0, 1) := by decide +kernel
theorem dX12_becomes_98 : decode cX12_becomes 98 = .ok (.getfield 13, 3) := by decide +kernel
theorem dX12_becomes_101 : decode cX12_becomes 101 = .ok (.aload_n 0, 1) := by decide +kernel
theorem dX12_becomes_102 : decode cX12_becomes 102 = .ok (.getfield 100, 3) := by decide +kernel
theorem dX12_becomes_105 : decode cX12_becomes 105 = .ok (.iload_n 1, 1) := by decide +kernel
theorem dX12_becomes_106 : decode cX12_becomes 106 = .ok (.iastore, 1) := by decide +kernel
theorem dX12_becomes_107 : decode cX12_becomes 107 = .ok (.aload_n 0, 1) := by decide +kernel
theorem dX12_becomes_108 : decode cX12_becomes 108 = .ok (.getfield 16, 3) := by decide +kernel
theorem dX12_becomes_111 : decode cX12_becomes 111 = .ok (.aload_n 0, 1) := by decide +kernel
theorem dX12_becomes_112 : decode cX12_becomes 112 = .ok (.getfield 100, 3) := by decide +kernel
theorem dX12_becomes_115 : decode cX12_becomes 115 = .ok (.iload_n 3, 1) := by decide +kernel
theorem dX12_becomes_116 : decode cX12_becomes 116 = .ok (.iastore, 1) := by decide +kernel
theorem dX12_becomes_117 : decode cX12_becomes 117 = .ok (.aload_n 0, 1) := by decide +kernel
theorem dX12_becomes_118 : decode cX12_becomes 118 = .ok (.getfield 19, 3) := by decide +kernel
theorem dX12_becomes_121 : decode cX12_becomes 121 = .ok (.aload_n 0, 1) := by decide +kernel
theorem dX12_becomes_122 : decode cX12_becomes 122 = .ok (.getfield 100, 3) := by decide +kernel
theorem dX12_becomes_125 : decode cX12_becomes 125 = .ok (.iload_n 2, 1) := by decide +kernel
theorem dX12_becomes_126 : decode cX12_becomes 126 = .ok (.iastore, 1) := by decide +kernel
theorem dX12_becomes_127 : decode cX12_becomes 127 = .ok (.aload_n 0, 1) := by decide +kernel
theorem dX12_becomes_128 : decode cX12_becomes 128 = .ok (.dup, 1) := by decide +kernel
theorem dX12_becomes_129 : decode cX12_becomes 129 = .ok (.getfield 100, 3) := by decide +kernel
theorem dX12_becomes_132 : decode cX12_becomes 132 = .ok (.iconst 1, 1) := by decide +kernel
theorem dX12_becomes_133 : decode cX12_becomes 133 = .ok (.iadd, 1) := by decide +kernel
theorem dX12_becomes_134 : decode cX12_becomes 134 = .ok (.putfield 100, 3) := by decide +kernel
theorem dX12_becomes_137 : decode cX12_becomes 137 = .ok (.aload_n 0, 1) := by decide +kernel
theorem dX12_becomes_138 : decode cX12_becomes 138 = .ok (.aload_n 0, 1) := by decide +kernel
theorem dX12_becomes_139 : decode cX12_becomes 139 = .ok (.getfield 100, 3) := by decide +kernel
theorem dX12_becomes_142 : decode cX12_becomes 142 = .ok (.putfield 103, 3) := by decide +kernel
theorem dX12_becomes_145 : decode cX12_becomes 145 = .ok (.aload_n 0, 1) := by decide +kernel
theorem dX12_becomes_146 : decode cX12_becomes 146 = .ok (.getfield 9, 3) := by decide +kernel
theorem dX12_becomes_149 : decode cX12_becomes 149 = .ok (.iload_n 1, 1) := by decide +kernel
theorem dX12_becomes_150 : decode cX12_becomes 150 = .ok (.iload_n 2, 1) := by decide +kernel
theorem dX12_becomes_151 : decode cX12_becomes 151 = .ok (.iastore, 1) := by decide +kernel
theorem dX12_becomes_152 : decode cX12_becomes 152 = .ok (.iload_n 3, 1) := by decide +kernel
theorem dX12_becomes_153 : decode cX12_becomes 153 = .ok (.ireturn, 1) := by decide +kernel
theorem dX12_undo_0 : decode cX12_undo 0 = .ok (.aload_n 0, 1) := by decide +kernel
theorem dX12_undo_1 : decode cX12_undo 1 = .ok (.getfield 100, 3) := by decide +kernel
theorem dX12_undo_4 : decode cX12_undo 4 = .ok (.ifCond .ne 6, 3) := by decide +kernel
theorem dX12_undo_7 : decode cX12_undo 7 = .ok (.bipush (-5), 2) := by decide +kernel
theorem dX12_undo_9 : decode cX12_undo 9 = .ok (.ireturn, 1) := by decide +kernel
theorem dX12_undo_10 : decode cX12_undo 10 = .ok (.aload_n 0, 1) := by decide +kernel
theorem dX12_undo_11 : decode cX12_undo 11 = .ok (.dup, 1) := by decide +kernel
theorem dX12_undo_12 : decode cX12_undo 12 = .ok (.getfield 100, 3) := by decide +kernel
theorem dX12_undo_15 : decode cX12_undo 15 = .ok (.iconst 1, 1) := by decide +kernel
theorem dX12_undo_16 : decode cX12_undo 16 = .ok (.isub, 1) := by decide +kernel
theorem dX12_undo_17 : decode cX12_undo 17 = .ok (.putfield 100, 3) := by decide +kernel
theorem dX12_undo_20 : decode cX12_undo 20 = .ok (.aload_n 0, 1) := by decide +kernel
theorem dX12_undo_21 : decode cX12_undo 21 = .ok (.getfield 9, 3) := by decide +kernel
theorem dX12_undo_24 : decode cX12_undo 24 = .ok (.aload_n 0, 1) := by decide +kernel
theorem dX12_undo_25 : decode cX12_undo 25 = .ok (.getfield 13, 3) := by decide +kernel
theorem dX12_undo_28 : decode cX12_undo 28 = .ok (.aload_n 0, 1) := by decide +kernel
theorem dX12_undo_29 : decode cX12_undo 29 = .ok (.getfield 100, 3) := by decide +kernel
theorem dX12_undo_32 : decode cX12_undo 32 = .ok (.iaload, 1) := by decide +kernel
theorem dX12_undo_33 : decode cX12_undo 33 = .ok (.aload_n 0, 1) := by decide +kernel
theorem dX12_undo_34 : decode cX12_undo 34 = .ok (.getfield 16, 3) := by decide +kernel
theorem dX12_undo_37 : decode cX12_undo 37 = .ok (.aload_n 0, 1) := by decide +kernel
theorem dX12_undo_38 : decode cX12_undo 38 = .ok (.getfield 100, 3) := by decide +kernel
theorem dX12_undo_41 : decode cX12_undo 41 = .ok (.iaload, 1) := by decide +kernel
theorem dX12_undo_42 : decode cX12_undo 42 = .ok (.iastore, 1) := by decide +kernel
theorem dX12_undo_43 : decode cX12_undo 43 = .ok (.aload_n 0, 1) := by decide +kernel
theorem dX12_undo_44 : decode cX12_undo 44 = .ok (.getfield 100, 3) := by decide +kernel
theorem dX12_undo_47 : decode cX12_undo 47 = .ok (.ireturn, 1) := by decide +kernel
theorem dX12_redo_0 : decode cX12_redo 0 = .ok (.aload_n 0, 1) := by decide +kernel
theorem dX12_redo_1 : decode cX12_redo 1 = .ok (.getfield 100, 3) := by decide +kernel
theorem dX12_redo_4 : decode cX12_redo 4 = .ok (.aload_n 0, 1) := by decide +kernel
theorem dX12_redo_5 : decode cX12_redo 5 = .ok (.getfield 103, 3) := by decide +kernel
theorem dX12_redo_8 : decode cX12_redo 8 = .ok (.if_icmp .ne 6, 3) := by decide +kernel
theorem dX12_redo_11 : decode cX12_redo 11 = .ok (.bipush (-5), 2) := by decide +kernel
theorem dX12_redo_13 : decode cX12_redo 13 = .ok (.ireturn, 1) := by decide +kernel
theorem dX12_redo_14 : decode cX12_redo 14 = .ok (.aload_n 0, 1) := by decide +kernel
theorem dX12_redo_15 : decode cX12_redo 15 = .ok (.getfield 9, 3) := by decide +kernel
theorem dX12_redo_18 : decode cX12_redo 18 = .ok (.aload_n 0, 1) := by decide +kernel
theorem dX12_redo_19 : decode cX12_redo 19 = .ok (.getfield 13, 3) := by decide +kernel
theorem dX12_redo_22 : decode cX12_redo 22 = .ok (.aload_n 0, 1) := by decide +kernel
theorem dX12_redo_23 : decode cX12_redo 23 = .ok (.getfield 100, 3) := by decide +kernel
theorem dX12_redo_26 : decode cX12_redo 26 = .ok (.iaload, 1) := by decide +kernel
theorem dX12_redo_27 : decode cX12_redo 27 = .ok (.aload_n 0, 1) := by decide +kernel
theorem dX12_redo_28 : decode cX12_redo 28 = .ok (.getfield 19, 3) := by decide +kernel
theorem dX12_redo_31 : decode cX12_redo 31 = .ok (.aload_n 0, 1) := by decide +kernel
theorem dX12_redo_32 : decode cX12_redo 32 = .ok (.getfield 100, 3) := by decide +kernel
theorem dX12_redo_35 : decode cX12_redo 35 = .ok (.iaload, 1) := by decide +kernel
theorem dX12_redo_36 : decode cX12_redo 36 = .ok (.iastore, 1) := by decide +kernel
theorem dX12_redo_37 : decode cX12_redo 37 = .ok (.aload_n 0, 1) := by decide +kernel
theorem dX12_redo_38 : decode cX12_redo 38 = .ok (.dup, 1) := by decide +kernel
theorem dX12_redo_39 : decode cX12_redo 39 = .ok (.getfield 100, 3) := by decide +kernel
theorem dX12_redo_42 : decode cX12_redo 42 = .ok (.iconst 1, 1) := by decide +kernel
theorem dX12_redo_43 : decode cX12_redo 43 = .ok (.iadd, 1) := by decide +kernel
theorem dX12_redo_44 : decode cX12_redo 44 = .ok (.putfield 100, 3) := by decide +kernel
theorem dX12_redo_47 : decode cX12_redo 47 = .ok (.aload_n 0, 1) := by decide +kernel
theorem dX12_redo_48 : decode cX12_redo 48 = .ok (.getfield 103, 3) := by decide +kernel
theorem dX12_redo_51 : decode cX12_redo 51 = .ok (.aload_n 0, 1) := by decide +kernel
theorem dX12_redo_52 : decode cX12_redo 52 = .ok (.getfield 100, 3) := by decide +kernel
theorem dX12_redo_55 : decode cX12_redo 55 = .ok (.isub, 1) := by decide +kernel
theorem dX12_redo_56 : decode cX12_redo 56 = .ok (.ireturn, 1) := by decide +kernel
theorem dX12_isSitter_0 : decode cX12_isSitter 0 = .ok (.lload_n 1, 1) := by decide +kernel
theorem dX12_isSitter_1 : decode cX12_isSitter 1 = .ok (.lconst 0, 1) := by decide +kernel
theorem dX12_isSitter_2 : decode cX12_isSitter 2 = .ok (.aload_n 0, 1) := by decide +kernel
theorem dX12_isSitter_3 : decode cX12_isSitter 3 = .ok (.getfield 106, 3) := by decide +kernel
theorem dX12_isSitter_6 : decode cX12_isSitter 6 = .ok (.iconst 1, 1) := by decide +kernel
theorem dX12_isSitter_7 : decode cX12_isSitter 7 = .ok (.isub, 1) := by decide +kernel
theorem dX12_isSitter_8 : decode cX12_isSitter 8 = .ok (.i2l, 1) := by decide +kernel
theorem dX12_isSitter_9 : decode cX12_isSitter 9 = .ok (.invokestatic 109, 3) := by decide +kernel
theorem dX12_isSitter_12 : decode cX12_isSitter 12 = .ok (.ireturn, 1) := by decide +kernel
theorem dX12_isPart_0 : decode cX12_isPart 0 = .ok (.iload_n 0, 1) := by decide +kernel
theorem dX12_isPart_1 : decode cX12_isPart 1 = .ok (.i2l, 1) := by decide +kernel
theorem dX12_isPart_2 : decode cX12_isPart 2 = .ok (.lconst 0, 1) := by decide +kernel
theorem dX12_isPart_3 : decode cX12_isPart 3 = .ok (.ldc2_w 113, 3) := by decide +kernel
theorem dX12_isPart_6 : decode cX12_isPart 6 = .ok (.invokestatic 109, 3) := by decide +kernel
theorem dX12_isPart_9 : decode cX12_isPart 9 = .ok (.ireturn, 1) := by decide +kernel
theorem dX12_isSetting_0 : decode cX12_isSetting 0 = .ok (.lload_n 0, 1) := by decide +kernel
theorem dX12_isSetting_1 : decode cX12_isSetting 1 = .ok (.lconst 0, 1) := by decide +kernel
theorem dX12_isSetting_2 : decode cX12_isSetting 2 = .ok (.ldc2_w 115, 3) := by decide +kernel
theorem dX12_isSetting_5 : decode cX12_isSetting 5 = .ok (.invokestatic 109, 3) := by decide +kernel
theorem dX12_isSetting_8 : decode cX12_isSetting 8 = .ok (.ireturn, 1) := by decide +kernel
theorem dX12_numberOf_0 : decode cX12_numberOf 0 = .ok (.aload_n 0, 1) := by decide +kernel
theorem dX12_numberOf_1 : decode cX12_numberOf 1 = .ok (.getfield 9, 3) := by decide +kernel
theorem dX12_numberOf_4 : decode cX12_numberOf 4 = .ok (.bipush 8, 2) := by decide +kernel
theorem dX12_numberOf_6 : decode cX12_numberOf 6 = .ok (.iload_n 2, 1) := by decide +kernel
theorem dX12_numberOf_7 : decode cX12_numberOf 7 = .ok (.imul, 1) := by decide +kernel
theorem dX12_numberOf_8 : decode cX12_numberOf 8 = .ok (.iload_n 1, 1) := by decide +kernel
theorem dX12_numberOf_9 : decode cX12_numberOf 9 = .ok (.iadd, 1) := by decide +kernel
theorem dX12_numberOf_10 : decode cX12_numberOf 10 = .ok (.iaload, 1) := by decide +kernel
theorem dX12_numberOf_11 : decode cX12_numberOf 11 = .ok (.ireturn, 1) := by decide +kernel
theorem dX12_adds_0 : decode cX12_adds 0 = .ok (.aload_n 0, 1) := by decide +kernel
theorem dX12_adds_1 : decode cX12_adds 1 = .ok (.getfield 106, 3) := by decide +kernel
theorem dX12_adds_4 : decode cX12_adds 4 = .ok (.istore 5, 2) := by decide +kernel
theorem dX12_adds_6 : decode cX12_adds 6 = .ok (.aload_n 0, 1) := by decide +kernel
theorem dX12_adds_7 : decode cX12_adds 7 = .ok (.getfield 9, 3) := by decide +kernel
theorem dX12_adds_10 : decode cX12_adds 10 = .ok (.iload 5, 2) := by decide +kernel
theorem dX12_adds_12 : decode cX12_adds 12 = .ok (.iload_n 1, 1) := by decide +kernel
theorem dX12_adds_13 : decode cX12_adds 13 = .ok (.iastore, 1) := by decide +kernel
theorem dX12_adds_14 : decode cX12_adds 14 = .ok (.aload_n 0, 1) := by decide +kernel
theorem dX12_adds_15 : decode cX12_adds 15 = .ok (.getfield 9, 3) := by decide +kernel
theorem dX12_adds_18 : decode cX12_adds 18 = .ok (.bipush 8, 2) := by decide +kernel
theorem dX12_adds_20 : decode cX12_adds 20 = .ok (.iload 5, 2) := by decide +kernel
theorem dX12_adds_22 : decode cX12_adds 22 = .ok (.iadd, 1) := by decide +kernel
theorem dX12_adds_23 : decode cX12_adds 23 = .ok (.iload_n 2, 1) := by decide +kernel
theorem dX12_adds_24 : decode cX12_adds 24 = .ok (.iastore, 1) := by decide +kernel
theorem dX12_adds_25 : decode cX12_adds 25 = .ok (.aload_n 0, 1) := by decide +kernel
theorem dX12_adds_26 : decode cX12_adds 26 = .ok (.getfield 9, 3) := by decide +kernel
theorem dX12_adds_29 : decode cX12_adds 29 = .ok (.bipush 16, 2) := by decide +kernel
theorem dX12_adds_31 : decode cX12_adds 31 = .ok (.iload 5, 2) := by decide +kernel
theorem dX12_adds_33 : decode cX12_adds 33 = .ok (.iadd, 1) := by decide +kernel
theorem dX12_adds_34 : decode cX12_adds 34 = .ok (.iload_n 3, 1) := by decide +kernel
theorem dX12_adds_35 : decode cX12_adds 35 = .ok (.iastore, 1) := by decide +kernel
theorem dX12_adds_36 : decode cX12_adds 36 = .ok (.aload_n 0, 1) := by decide +kernel
theorem dX12_adds_37 : decode cX12_adds 37 = .ok (.getfield 9, 3) := by decide +kernel
theorem dX12_adds_40 : decode cX12_adds 40 = .ok (.bipush 24, 2) := by decide +kernel
theorem dX12_adds_42 : decode cX12_adds 42 = .ok (.iload 5, 2) := by decide +kernel
theorem dX12_adds_44 : decode cX12_adds 44 = .ok (.iadd, 1) := by decide +kernel
theorem dX12_adds_45 : decode cX12_adds 45 = .ok (.iconst 1, 1) := by decide +kernel
theorem dX12_adds_46 : decode cX12_adds 46 = .ok (.iastore, 1) := by decide +kernel
theorem dX12_adds_47 : decode cX12_adds 47 = .ok (.aload_n 0, 1) := by decide +kernel
theorem dX12_adds_48 : decode cX12_adds 48 = .ok (.getfield 9, 3) := by decide +kernel
theorem dX12_adds_51 : decode cX12_adds 51 = .ok (.bipush 32, 2) := by decide +kernel
theorem dX12_adds_53 : decode cX12_adds 53 = .ok (.iload 5, 2) := by decide +kernel
theorem dX12_adds_55 : decode cX12_adds 55 = .ok (.iadd, 1) := by decide +kernel
theorem dX12_adds_56 : decode cX12_adds 56 = .ok (.iconst 1, 1) := by decide +kernel
theorem dX12_adds_57 : decode cX12_adds 57 = .ok (.iastore, 1) := by decide +kernel
theorem dX12_adds_58 : decode cX12_adds 58 = .ok (.aload_n 0, 1) := by decide +kernel
theorem dX12_adds_59 : decode cX12_adds 59 = .ok (.getfield 9, 3) := by decide +kernel
theorem dX12_adds_62 : decode cX12_adds 62 = .ok (.bipush 40, 2) := by decide +kernel
theorem dX12_adds_64 : decode cX12_adds 64 = .ok (.iload 5, 2) := by decide +kernel
theorem dX12_adds_66 : decode cX12_adds 66 = .ok (.iadd, 1) := by decide +kernel
theorem dX12_adds_67 : decode cX12_adds 67 = .ok (.iload 4, 2) := by decide +kernel
theorem dX12_adds_69 : decode cX12_adds 69 = .ok (.iastore, 1) := by decide +kernel
theorem dX12_adds_70 : decode cX12_adds 70 = .ok (.aload_n 0, 1) := by decide +kernel
theorem dX12_adds_71 : decode cX12_adds 71 = .ok (.getfield 9, 3) := by decide +kernel
theorem dX12_adds_74 : decode cX12_adds 74 = .ok (.bipush 48, 2) := by decide +kernel
theorem dX12_adds_76 : decode cX12_adds 76 = .ok (.iload 5, 2) := by decide +kernel
theorem dX12_adds_78 : decode cX12_adds 78 = .ok (.iadd, 1) := by decide +kernel
theorem dX12_adds_79 : decode cX12_adds 79 = .ok (.iconst 0, 1) := by decide +kernel
theorem dX12_adds_80 : decode cX12_adds 80 = .ok (.iastore, 1) := by decide +kernel
theorem dX12_adds_81 : decode cX12_adds 81 = .ok (.aload_n 0, 1) := by decide +kernel
theorem dX12_adds_82 : decode cX12_adds 82 = .ok (.getfield 9, 3) := by decide +kernel
theorem dX12_adds_85 : decode cX12_adds 85 = .ok (.bipush 56, 2) := by decide +kernel
theorem dX12_adds_87 : decode cX12_adds 87 = .ok (.iload 5, 2) := by decide +kernel
theorem dX12_adds_89 : decode cX12_adds 89 = .ok (.iadd, 1) := by decide +kernel
theorem dX12_adds_90 : decode cX12_adds 90 = .ok (.iconst 0, 1) := by decide +kernel
theorem dX12_adds_91 : decode cX12_adds 91 = .ok (.iastore, 1) := by decide +kernel
theorem dX12_adds_92 : decode cX12_adds 92 = .ok (.aload_n 0, 1) := by decide +kernel
theorem dX12_adds_93 : decode cX12_adds 93 = .ok (.dup, 1) := by decide +kernel
theorem dX12_adds_94 : decode cX12_adds 94 = .ok (.getfield 106, 3) := by decide +kernel
theorem dX12_adds_97 : decode cX12_adds 97 = .ok (.iconst 1, 1) := by decide +kernel
theorem dX12_adds_98 : decode cX12_adds 98 = .ok (.iadd, 1) := by decide +kernel
theorem dX12_adds_99 : decode cX12_adds 99 = .ok (.putfield 106, 3) := by decide +kernel
theorem dX12_adds_102 : decode cX12_adds 102 = .ok (.return_, 1) := by decide +kernel
theorem dX12_sitter_0 : decode cX12_sitter 0 = .ok (.iload_n 1, 1) := by decide +kernel
theorem dX12_sitter_1 : decode cX12_sitter 1 = .ok (.i2l, 1) := by decide +kernel
theorem dX12_sitter_2 : decode cX12_sitter 2 = .ok (.invokestatic 117, 3) := by decide +kernel
theorem dX12_sitter_5 : decode cX12_sitter 5 = .ok (.ifCond .eq 15, 3) := by decide +kernel
theorem dX12_sitter_8 : decode cX12_sitter 8 = .ok (.iload_n 2, 1) := by decide +kernel
theorem dX12_sitter_9 : decode cX12_sitter 9 = .ok (.i2l, 1) := by decide +kernel
theorem dX12_sitter_10 : decode cX12_sitter 10 = .ok (.lconst 1, 1) := by decide +kernel
theorem dX12_sitter_11 : decode cX12_sitter 11 = .ok (.ldc2_w 121, 3) := by decide +kernel
theorem dX12_sitter_14 : decode cX12_sitter 14 = .ok (.invokestatic 109, 3) := by decide +kernel
theorem dX12_sitter_17 : decode cX12_sitter 17 = .ok (.ifCond .ne 5, 3) := by decide +kernel
theorem dX12_sitter_20 : decode cX12_sitter 20 = .ok (.iconst (-1), 1) := by decide +kernel
theorem dX12_sitter_21 : decode cX12_sitter 21 = .ok (.ireturn, 1) := by decide +kernel
theorem dX12_sitter_22 : decode cX12_sitter 22 = .ok (.aload_n 0, 1) := by decide +kernel
theorem dX12_sitter_23 : decode cX12_sitter 23 = .ok (.getfield 106, 3) := by decide +kernel
theorem dX12_sitter_26 : decode cX12_sitter 26 = .ok (.bipush 8, 2) := by decide +kernel
theorem dX12_sitter_28 : decode cX12_sitter 28 = .ok (.if_icmp .ne 6, 3) := by decide +kernel
theorem dX12_sitter_31 : decode cX12_sitter 31 = .ok (.bipush (-3), 2) := by decide +kernel
theorem dX12_sitter_33 : decode cX12_sitter 33 = .ok (.ireturn, 1) := by decide +kernel
theorem dX12_sitter_34 : decode cX12_sitter 34 = .ok (.aload_n 0, 1) := by decide +kernel
theorem dX12_sitter_35 : decode cX12_sitter 35 = .ok (.iload_n 1, 1) := by decide +kernel
theorem dX12_sitter_36 : decode cX12_sitter 36 = .ok (.iload_n 1, 1) := by decide +kernel
theorem dX12_sitter_37 : decode cX12_sitter 37 = .ok (.iload_n 1, 1) := by decide +kernel
theorem dX12_sitter_38 : decode cX12_sitter 38 = .ok (.iload_n 2, 1) := by decide +kernel
theorem dX12_sitter_39 : decode cX12_sitter 39 = .ok (.invokevirtual 123, 3) := by decide +kernel
theorem dX12_sitter_42 : decode cX12_sitter 42 = .ok (.aload_n 0, 1) := by decide +kernel
theorem dX12_sitter_43 : decode cX12_sitter 43 = .ok (.getfield 106, 3) := by decide +kernel
theorem dX12_sitter_46 : decode cX12_sitter 46 = .ok (.iconst 1, 1) := by decide +kernel
theorem dX12_sitter_47 : decode cX12_sitter 47 = .ok (.isub, 1) := by decide +kernel
theorem dX12_sitter_48 : decode cX12_sitter 48 = .ok (.ireturn, 1) := by decide +kernel
theorem dX12_sitters_0 : decode cX12_sitters 0 = .ok (.iload_n 1, 1) := by decide +kernel
theorem dX12_sitters_1 : decode cX12_sitters 1 = .ok (.invokestatic 127, 3) := by decide +kernel
theorem dX12_sitters_4 : decode cX12_sitters 4 = .ok (.ifCond .eq 15, 3) := by decide +kernel
theorem dX12_sitters_7 : decode cX12_sitters 7 = .ok (.iload_n 3, 1) := by decide +kernel
theorem dX12_sitters_8 : decode cX12_sitters 8 = .ok (.i2l, 1) := by decide +kernel
theorem dX12_sitters_9 : decode cX12_sitters 9 = .ok (.lconst 1, 1) := by decide +kernel
theorem dX12_sitters_10 : decode cX12_sitters 10 = .ok (.ldc2_w 131, 3) := by decide +kernel
theorem dX12_sitters_13 : decode cX12_sitters 13 = .ok (.invokestatic 109, 3) := by decide +kernel
theorem dX12_sitters_16 : decode cX12_sitters 16 = .ok (.ifCond .ne 5, 3) := by decide +kernel
theorem dX12_sitters_19 : decode cX12_sitters 19 = .ok (.iconst (-1), 1) := by decide +kernel
theorem dX12_sitters_20 : decode cX12_sitters 20 = .ok (.ireturn, 1) := by decide +kernel
theorem dX12_sitters_21 : decode cX12_sitters 21 = .ok (.aload_n 0, 1) := by decide +kernel
theorem dX12_sitters_22 : decode cX12_sitters 22 = .ok (.getfield 74, 3) := by decide +kernel
theorem dX12_sitters_25 : decode cX12_sitters 25 = .ok (.iload_n 1, 1) := by decide +kernel
theorem dX12_sitters_26 : decode cX12_sitters 26 = .ok (.iaload, 1) := by decide +kernel
theorem dX12_sitters_27 : decode cX12_sitters 27 = .ok (.ifCond .lt 17, 3) := by decide +kernel
theorem dX12_sitters_30 : decode cX12_sitters 30 = .ok (.aload_n 0, 1) := by decide +kernel
theorem dX12_sitters_31 : decode cX12_sitters 31 = .ok (.getfield 74, 3) := by decide +kernel
theorem dX12_sitters_34 : decode cX12_sitters 34 = .ok (.iload_n 1, 1) := by decide +kernel
theorem dX12_sitters_35 : decode cX12_sitters 35 = .ok (.iaload, 1) := by decide +kernel
theorem dX12_sitters_36 : decode cX12_sitters 36 = .ok (.bipush 50, 2) := by decide +kernel
theorem dX12_sitters_38 : decode cX12_sitters 38 = .ok (.if_icmp .eq 6, 3) := by decide +kernel
theorem dX12_sitters_41 : decode cX12_sitters 41 = .ok (.bipush (-12), 2) := by decide +kernel
theorem dX12_sitters_43 : decode cX12_sitters 43 = .ok (.ireturn, 1) := by decide +kernel
theorem dX12_sitters_44 : decode cX12_sitters 44 = .ok (.iconst 0, 1) := by decide +kernel
theorem dX12_sitters_45 : decode cX12_sitters 45 = .ok (.istore 4, 2) := by decide +kernel
theorem dX12_sitters_47 : decode cX12_sitters 47 = .ok (.aload_n 0, 1) := by decide +kernel
theorem dX12_sitters_48 : decode cX12_sitters 48 = .ok (.getfield 74, 3) := by decide +kernel
theorem dX12_sitters_51 : decode cX12_sitters 51 = .ok (.iload_n 1, 1) := by decide +kernel
theorem dX12_sitters_52 : decode cX12_sitters 52 = .ok (.iaload, 1) := by decide +kernel
theorem dX12_sitters_53 : decode cX12_sitters 53 = .ok (.bipush 50, 2) := by decide +kernel
theorem dX12_sitters_55 : decode cX12_sitters 55 = .ok (.if_icmp .ne 11, 3) := by decide +kernel
theorem dX12_sitters_58 : decode cX12_sitters 58 = .ok (.iload_n 2, 1) := by decide +kernel
theorem dX12_sitters_59 : decode cX12_sitters 59 = .ok (.ifCond .lt 7, 3) := by decide +kernel
theorem dX12_sitters_62 : decode cX12_sitters 62 = .ok (.iconst 1, 1) := by decide +kernel
theorem dX12_sitters_63 : decode cX12_sitters 63 = .ok (.goto 4, 3) := by decide +kernel
theorem dX12_sitters_66 : decode cX12_sitters 66 = .ok (.iconst 0, 1) := by decide +kernel
theorem dX12_sitters_67 : decode cX12_sitters 67 = .ok (.istore 5, 2) := by decide +kernel
theorem dX12_sitters_69 : decode cX12_sitters 69 = .ok (.iload 5, 2) := by decide +kernel
theorem dX12_sitters_71 : decode cX12_sitters 71 = .ok (.ifCond .eq 182, 3) := by decide +kernel
theorem dX12_sitters_74 : decode cX12_sitters 74 = .ok (.iload 4, 2) := by decide +kernel
theorem dX12_sitters_76 : decode cX12_sitters 76 = .ok (.iload_n 3, 1) := by decide +kernel
theorem dX12_sitters_77 : decode cX12_sitters 77 = .ok (.if_icmp .ge 176, 3) := by decide +kernel
theorem dX12_sitters_80 : decode cX12_sitters 80 = .ok (.iload_n 2, 1) := by decide +kernel
theorem dX12_sitters_81 : decode cX12_sitters 81 = .ok (.aload_n 0, 1) := by decide +kernel
theorem dX12_sitters_82 : decode cX12_sitters 82 = .ok (.getfield 77, 3) := by decide +kernel
theorem dX12_sitters_85 : decode cX12_sitters 85 = .ok (.iload_n 1, 1) := by decide +kernel
theorem dX12_sitters_86 : decode cX12_sitters 86 = .ok (.iaload, 1) := by decide +kernel
theorem dX12_sitters_87 : decode cX12_sitters 87 = .ok (.iconst 4, 1) := by decide +kernel
theorem dX12_sitters_88 : decode cX12_sitters 88 = .ok (.isub, 1) := by decide +kernel
theorem dX12_sitters_89 : decode cX12_sitters 89 = .ok (.iconst 4, 1) := by decide +kernel
theorem dX12_sitters_90 : decode cX12_sitters 90 = .ok (.iload 4, 2) := by decide +kernel
theorem dX12_sitters_92 : decode cX12_sitters 92 = .ok (.imul, 1) := by decide +kernel
theorem dX12_sitters_93 : decode cX12_sitters 93 = .ok (.isub, 1) := by decide +kernel
theorem dX12_sitters_94 : decode cX12_sitters 94 = .ok (.if_icmp .gt 16, 3) := by decide +kernel
theorem dX12_sitters_97 : decode cX12_sitters 97 = .ok (.aload_n 0, 1) := by decide +kernel
theorem dX12_sitters_98 : decode cX12_sitters 98 = .ok (.getfield 106, 3) := by decide +kernel
theorem dX12_sitters_101 : decode cX12_sitters 101 = .ok (.bipush 8, 2) := by decide +kernel
theorem dX12_sitters_103 : decode cX12_sitters 103 = .ok (.if_icmp .ge 7, 3) := by decide +kernel
theorem dX12_sitters_106 : decode cX12_sitters 106 = .ok (.iconst 1, 1) := by decide +kernel
theorem dX12_sitters_107 : decode cX12_sitters 107 = .ok (.goto 4, 3) := by decide +kernel
theorem dX12_sitters_110 : decode cX12_sitters 110 = .ok (.iconst 0, 1) := by decide +kernel
theorem dX12_sitters_111 : decode cX12_sitters 111 = .ok (.istore 5, 2) := by decide +kernel
theorem dX12_sitters_113 : decode cX12_sitters 113 = .ok (.bipush 60, 2) := by decide +kernel
theorem dX12_sitters_115 : decode cX12_sitters 115 = .ok (.iload_n 1, 1) := by decide +kernel
theorem dX12_sitters_116 : decode cX12_sitters 116 = .ok (.imul, 1) := by decide +kernel
theorem dX12_sitters_117 : decode cX12_sitters 117 = .ok (.iload_n 2, 1) := by decide +kernel
theorem dX12_sitters_118 : decode cX12_sitters 118 = .ok (.iadd, 1) := by decide +kernel
theorem dX12_sitters_119 : decode cX12_sitters 119 = .ok (.iconst 4, 1) := by decide +kernel
theorem dX12_sitters_120 : decode cX12_sitters 120 = .ok (.iload 4, 2) := by decide +kernel
theorem dX12_sitters_122 : decode cX12_sitters 122 = .ok (.imul, 1) := by decide +kernel
theorem dX12_sitters_123 : decode cX12_sitters 123 = .ok (.iadd, 1) := by decide +kernel
theorem dX12_sitters_124 : decode cX12_sitters 124 = .ok (.istore 6, 2) := by decide +kernel
theorem dX12_sitters_126 : decode cX12_sitters 126 = .ok (.iload 5, 2) := by decide +kernel
theorem dX12_sitters_128 : decode cX12_sitters 128 = .ok (.ifCond .eq 69, 3) := by decide +kernel
theorem dX12_sitters_131 : decode cX12_sitters 131 = .ok (.aload_n 0, 1) := by decide +kernel
theorem dX12_sitters_132 : decode cX12_sitters 132 = .ok (.getfield 80, 3) := by decide +kernel
theorem dX12_sitters_135 : decode cX12_sitters 135 = .ok (.iload 6, 2) := by decide +kernel
theorem dX12_sitters_137 : decode cX12_sitters 137 = .ok (.laload, 1) := by decide +kernel
theorem dX12_sitters_138 : decode cX12_sitters 138 = .ok (.invokestatic 117, 3) := by decide +kernel
theorem dX12_sitters_141 : decode cX12_sitters 141 = .ok (.ifCond .eq 56, 3) := by decide +kernel
theorem dX12_sitters_144 : decode cX12_sitters 144 = .ok (.aload_n 0, 1) := by decide +kernel
theorem dX12_sitters_145 : decode cX12_sitters 145 = .ok (.getfield 80, 3) := by decide +kernel
theorem dX12_sitters_148 : decode cX12_sitters 148 = .ok (.iload 6, 2) := by decide +kernel
theorem dX12_sitters_150 : decode cX12_sitters 150 = .ok (.iconst 1, 1) := by decide +kernel
theorem dX12_sitters_151 : decode cX12_sitters 151 = .ok (.iadd, 1) := by decide +kernel
theorem dX12_sitters_152 : decode cX12_sitters 152 = .ok (.laload, 1) := by decide +kernel
theorem dX12_sitters_153 : decode cX12_sitters 153 = .ok (.invokestatic 117, 3) := by decide +kernel
theorem dX12_sitters_156 : decode cX12_sitters 156 = .ok (.ifCond .eq 41, 3) := by decide +kernel
theorem dX12_sitters_159 : decode cX12_sitters 159 = .ok (.aload_n 0, 1) := by decide +kernel
theorem dX12_sitters_160 : decode cX12_sitters 160 = .ok (.getfield 80, 3) := by decide +kernel
theorem dX12_sitters_163 : decode cX12_sitters 163 = .ok (.iload 6, 2) := by decide +kernel
theorem dX12_sitters_165 : decode cX12_sitters 165 = .ok (.iconst 2, 1) := by decide +kernel
theorem dX12_sitters_166 : decode cX12_sitters 166 = .ok (.iadd, 1) := by decide +kernel
theorem dX12_sitters_167 : decode cX12_sitters 167 = .ok (.laload, 1) := by decide +kernel
theorem dX12_sitters_168 : decode cX12_sitters 168 = .ok (.invokestatic 117, 3) := by decide +kernel
theorem dX12_sitters_171 : decode cX12_sitters 171 = .ok (.ifCond .eq 26, 3) := by decide +kernel
theorem dX12_sitters_174 : decode cX12_sitters 174 = .ok (.aload_n 0, 1) := by decide +kernel
theorem dX12_sitters_175 : decode cX12_sitters 175 = .ok (.getfield 80, 3) := by decide +kernel
theorem dX12_sitters_178 : decode cX12_sitters 178 = .ok (.iload 6, 2) := by decide +kernel
theorem dX12_sitters_180 : decode cX12_sitters 180 = .ok (.iconst 3, 1) := by decide +kernel
theorem dX12_sitters_181 : decode cX12_sitters 181 = .ok (.iadd, 1) := by decide +kernel
theorem dX12_sitters_182 : decode cX12_sitters 182 = .ok (.laload, 1) := by decide +kernel
theorem dX12_sitters_183 : decode cX12_sitters 183 = .ok (.lconst 1, 1) := by decide +kernel
theorem dX12_sitters_184 : decode cX12_sitters 184 = .ok (.ldc2_w 121, 3) := by decide +kernel
theorem dX12_sitters_187 : decode cX12_sitters 187 = .ok (.invokestatic 109, 3) := by decide +kernel
theorem dX12_sitters_190 : decode cX12_sitters 190 = .ok (.ifCond .eq 7, 3) := by decide +kernel
theorem dX12_sitters_193 : decode cX12_sitters 193 = .ok (.iconst 1, 1) := by decide +kernel
theorem dX12_sitters_194 : decode cX12_sitters 194 = .ok (.goto 4, 3) := by decide +kernel
theorem dX12_sitters_197 : decode cX12_sitters 197 = .ok (.iconst 0, 1) := by decide +kernel
theorem dX12_sitters_198 : decode cX12_sitters 198 = .ok (.istore 5, 2) := by decide +kernel
theorem dX12_sitters_200 : decode cX12_sitters 200 = .ok (.iload 5, 2) := by decide +kernel
theorem dX12_sitters_202 : decode cX12_sitters 202 = .ok (.ifCond .eq 48, 3) := by decide +kernel
theorem dX12_sitters_205 : decode cX12_sitters 205 = .ok (.aload_n 0, 1) := by decide +kernel
theorem dX12_sitters_206 : decode cX12_sitters 206 = .ok (.aload_n 0, 1) := by decide +kernel
theorem dX12_sitters_207 : decode cX12_sitters 207 = .ok (.getfield 80, 3) := by decide +kernel
theorem dX12_sitters_210 : decode cX12_sitters 210 = .ok (.iload 6, 2) := by decide +kernel
theorem dX12_sitters_212 : decode cX12_sitters 212 = .ok (.laload, 1) := by decide +kernel
theorem dX12_sitters_213 : decode cX12_sitters 213 = .ok (.l2i, 1) := by decide +kernel
theorem dX12_sitters_214 : decode cX12_sitters 214 = .ok (.aload_n 0, 1) := by decide +kernel
theorem dX12_sitters_215 : decode cX12_sitters 215 = .ok (.getfield 80, 3) := by decide +kernel
theorem dX12_sitters_218 : decode cX12_sitters 218 = .ok (.iload 6, 2) := by decide +kernel
theorem dX12_sitters_220 : decode cX12_sitters 220 = .ok (.iconst 1, 1) := by decide +kernel
theorem dX12_sitters_221 : decode cX12_sitters 221 = .ok (.iadd, 1) := by decide +kernel
theorem dX12_sitters_222 : decode cX12_sitters 222 = .ok (.laload, 1) := by decide +kernel
theorem dX12_sitters_223 : decode cX12_sitters 223 = .ok (.l2i, 1) := by decide +kernel
theorem dX12_sitters_224 : decode cX12_sitters 224 = .ok (.aload_n 0, 1) := by decide +kernel
theorem dX12_sitters_225 : decode cX12_sitters 225 = .ok (.getfield 80, 3) := by decide +kernel
theorem dX12_sitters_228 : decode cX12_sitters 228 = .ok (.iload 6, 2) := by decide +kernel
theorem dX12_sitters_230 : decode cX12_sitters 230 = .ok (.iconst 2, 1) := by decide +kernel
theorem dX12_sitters_231 : decode cX12_sitters 231 = .ok (.iadd, 1) := by decide +kernel
theorem dX12_sitters_232 : decode cX12_sitters 232 = .ok (.laload, 1) := by decide +kernel
theorem dX12_sitters_233 : decode cX12_sitters 233 = .ok (.l2i, 1) := by decide +kernel
theorem dX12_sitters_234 : decode cX12_sitters 234 = .ok (.aload_n 0, 1) := by decide +kernel
theorem dX12_sitters_235 : decode cX12_sitters 235 = .ok (.getfield 80, 3) := by decide +kernel
theorem dX12_sitters_238 : decode cX12_sitters 238 = .ok (.iload 6, 2) := by decide +kernel
theorem dX12_sitters_240 : decode cX12_sitters 240 = .ok (.iconst 3, 1) := by decide +kernel
theorem dX12_sitters_241 : decode cX12_sitters 241 = .ok (.iadd, 1) := by decide +kernel
theorem dX12_sitters_242 : decode cX12_sitters 242 = .ok (.laload, 1) := by decide +kernel
theorem dX12_sitters_243 : decode cX12_sitters 243 = .ok (.l2i, 1) := by decide +kernel
theorem dX12_sitters_244 : decode cX12_sitters 244 = .ok (.invokevirtual 123, 3) := by decide +kernel
theorem dX12_sitters_247 : decode cX12_sitters 247 = .ok (.iinc 4 1, 3) := by decide +kernel
theorem dX12_sitters_250 : decode cX12_sitters 250 = .ok (.goto (-181), 3) := by decide +kernel
theorem dX12_sitters_253 : decode cX12_sitters 253 = .ok (.iload 4, 2) := by decide +kernel
theorem dX12_sitters_255 : decode cX12_sitters 255 = .ok (.ireturn, 1) := by decide +kernel
theorem dX12_placeOf_0 : decode cX12_placeOf 0 = .ok (.iload_n 2, 1) := by decide +kernel
theorem dX12_placeOf_1 : decode cX12_placeOf 1 = .ok (.i2l, 1) := by decide +kernel
theorem dX12_placeOf_2 : decode cX12_placeOf 2 = .ok (.lconst 0, 1) := by decide +kernel
theorem dX12_placeOf_3 : decode cX12_placeOf 3 = .ok (.ldc2_w 133, 3) := by decide +kernel
theorem dX12_placeOf_6 : decode cX12_placeOf 6 = .ok (.invokestatic 109, 3) := by decide +kernel
theorem dX12_placeOf_9 : decode cX12_placeOf 9 = .ok (.ifCond .eq 23, 3) := by decide +kernel
theorem dX12_placeOf_12 : decode cX12_placeOf 12 = .ok (.aload_n 0, 1) := by decide +kernel
theorem dX12_placeOf_13 : decode cX12_placeOf 13 = .ok (.iload_n 1, 1) := by decide +kernel
theorem dX12_placeOf_14 : decode cX12_placeOf 14 = .ok (.i2l, 1) := by decide +kernel
theorem dX12_placeOf_15 : decode cX12_placeOf 15 = .ok (.invokevirtual 135, 3) := by decide +kernel
theorem dX12_placeOf_18 : decode cX12_placeOf 18 = .ok (.ifCond .eq 12, 3) := by decide +kernel
theorem dX12_placeOf_21 : decode cX12_placeOf 21 = .ok (.bipush 8, 2) := by decide +kernel
theorem dX12_placeOf_23 : decode cX12_placeOf 23 = .ok (.iload_n 2, 1) := by decide +kernel
theorem dX12_placeOf_24 : decode cX12_placeOf 24 = .ok (.imul, 1) := by decide +kernel
theorem dX12_placeOf_25 : decode cX12_placeOf 25 = .ok (.iload_n 1, 1) := by decide +kernel
theorem dX12_placeOf_26 : decode cX12_placeOf 26 = .ok (.iadd, 1) := by decide +kernel
theorem dX12_placeOf_27 : decode cX12_placeOf 27 = .ok (.goto 4, 3) := by decide +kernel
theorem dX12_placeOf_30 : decode cX12_placeOf 30 = .ok (.iconst (-1), 1) := by decide +kernel
theorem dX12_placeOf_31 : decode cX12_placeOf 31 = .ok (.ireturn, 1) := by decide +kernel
theorem dX12_placeOf_32 : decode cX12_placeOf 32 = .ok (.iload_n 2, 1) := by decide +kernel
theorem dX12_placeOf_33 : decode cX12_placeOf 33 = .ok (.i2l, 1) := by decide +kernel
theorem dX12_placeOf_34 : decode cX12_placeOf 34 = .ok (.ldc2_w 131, 3) := by decide +kernel
theorem dX12_placeOf_37 : decode cX12_placeOf 37 = .ok (.ldc2_w 138, 3) := by decide +kernel
theorem dX12_placeOf_40 : decode cX12_placeOf 40 = .ok (.invokestatic 109, 3) := by decide +kernel
theorem dX12_placeOf_43 : decode cX12_placeOf 43 = .ok (.ifCond .eq 26, 3) := by decide +kernel
theorem dX12_placeOf_46 : decode cX12_placeOf 46 = .ok (.iload_n 1, 1) := by decide +kernel
theorem dX12_placeOf_47 : decode cX12_placeOf 47 = .ok (.invokestatic 140, 3) := by decide +kernel
theorem dX12_placeOf_50 : decode cX12_placeOf 50 = .ok (.ifCond .eq 17, 3) := by decide +kernel
theorem dX12_placeOf_53 : decode cX12_placeOf 53 = .ok (.bipush 64, 2) := by decide +kernel
theorem dX12_placeOf_55 : decode cX12_placeOf 55 = .ok (.iconst 3, 1) := by decide +kernel
theorem dX12_placeOf_56 : decode cX12_placeOf 56 = .ok (.iload_n 2, 1) := by decide +kernel
theorem dX12_placeOf_57 : decode cX12_placeOf 57 = .ok (.bipush 8, 2) := by decide +kernel
theorem dX12_placeOf_59 : decode cX12_placeOf 59 = .ok (.isub, 1) := by decide +kernel
theorem dX12_placeOf_60 : decode cX12_placeOf 60 = .ok (.imul, 1) := by decide +kernel
theorem dX12_placeOf_61 : decode cX12_placeOf 61 = .ok (.iadd, 1) := by decide +kernel
theorem dX12_placeOf_62 : decode cX12_placeOf 62 = .ok (.iload_n 1, 1) := by decide +kernel
theorem dX12_placeOf_63 : decode cX12_placeOf 63 = .ok (.iadd, 1) := by decide +kernel
theorem dX12_placeOf_64 : decode cX12_placeOf 64 = .ok (.goto 4, 3) := by decide +kernel
theorem dX12_placeOf_67 : decode cX12_placeOf 67 = .ok (.iconst (-1), 1) := by decide +kernel
theorem dX12_placeOf_68 : decode cX12_placeOf 68 = .ok (.ireturn, 1) := by decide +kernel
theorem dX12_placeOf_69 : decode cX12_placeOf 69 = .ok (.iload_n 2, 1) := by decide +kernel
theorem dX12_placeOf_70 : decode cX12_placeOf 70 = .ok (.bipush 10, 2) := by decide +kernel
theorem dX12_placeOf_72 : decode cX12_placeOf 72 = .ok (.if_icmp .ne 12, 3) := by decide +kernel
theorem dX12_placeOf_75 : decode cX12_placeOf 75 = .ok (.iload_n 1, 1) := by decide +kernel
theorem dX12_placeOf_76 : decode cX12_placeOf 76 = .ok (.ifCond .ne 8, 3) := by decide +kernel
theorem dX12_placeOf_79 : decode cX12_placeOf 79 = .ok (.bipush 70, 2) := by decide +kernel
theorem dX12_placeOf_81 : decode cX12_placeOf 81 = .ok (.goto 4, 3) := by decide +kernel
theorem dX12_placeOf_84 : decode cX12_placeOf 84 = .ok (.iconst (-1), 1) := by decide +kernel
theorem dX12_placeOf_85 : decode cX12_placeOf 85 = .ok (.ireturn, 1) := by decide +kernel
theorem dX12_mostOf_0 : decode cX12_mostOf 0 = .ok (.iload_n 0, 1) := by decide +kernel
theorem dX12_mostOf_1 : decode cX12_mostOf 1 = .ok (.tableswitch 58 3 10 #[47, 47, 50, 58, 50, 53, 47, 55], 47) := by decide +kernel
theorem dX12_mostOf_48 : decode cX12_mostOf 48 = .ok (.bipush 9, 2) := by decide +kernel
theorem dX12_mostOf_50 : decode cX12_mostOf 50 = .ok (.ireturn, 1) := by decide +kernel
theorem dX12_mostOf_51 : decode cX12_mostOf 51 = .ok (.bipush 12, 2) := by decide +kernel
theorem dX12_mostOf_53 : decode cX12_mostOf 53 = .ok (.ireturn, 1) := by decide +kernel
theorem dX12_mostOf_54 : decode cX12_mostOf 54 = .ok (.iconst 3, 1) := by decide +kernel
theorem dX12_mostOf_55 : decode cX12_mostOf 55 = .ok (.ireturn, 1) := by decide +kernel
theorem dX12_mostOf_56 : decode cX12_mostOf 56 = .ok (.bipush 99, 2) := by decide +kernel
theorem dX12_mostOf_58 : decode cX12_mostOf 58 = .ok (.ireturn, 1) := by decide +kernel
theorem dX12_mostOf_59 : decode cX12_mostOf 59 = .ok (.bipush 60, 2) := by decide +kernel
theorem dX12_mostOf_61 : decode cX12_mostOf 61 = .ok (.ireturn, 1) := by decide +kernel
theorem dX12_mend_0 : decode cX12_mend 0 = .ok (.aload_n 0, 1) := by decide +kernel
theorem dX12_mend_1 : decode cX12_mend 1 = .ok (.iload_n 1, 1) := by decide +kernel
theorem dX12_mend_2 : decode cX12_mend 2 = .ok (.iload_n 2, 1) := by decide +kernel
theorem dX12_mend_3 : decode cX12_mend 3 = .ok (.invokevirtual 143, 3) := by decide +kernel
theorem dX12_mend_6 : decode cX12_mend 6 = .ok (.istore 4, 2) := by decide +kernel
theorem dX12_mend_8 : decode cX12_mend 8 = .ok (.iload 4, 2) := by decide +kernel
theorem dX12_mend_10 : decode cX12_mend 10 = .ok (.ifCond .lt 36, 3) := by decide +kernel
theorem dX12_mend_13 : decode cX12_mend 13 = .ok (.iload_n 3, 1) := by decide +kernel
theorem dX12_mend_14 : decode cX12_mend 14 = .ok (.i2l, 1) := by decide +kernel
theorem dX12_mend_15 : decode cX12_mend 15 = .ok (.iload_n 2, 1) := by decide +kernel
theorem dX12_mend_16 : decode cX12_mend 16 = .ok (.iconst 5, 1) := by decide +kernel
theorem dX12_mend_17 : decode cX12_mend 17 = .ok (.if_icmp .ne 7, 3) := by decide +kernel
theorem dX12_mend_20 : decode cX12_mend 20 = .ok (.lconst 1, 1) := by decide +kernel
theorem dX12_mend_21 : decode cX12_mend 21 = .ok (.goto 4, 3) := by decide +kernel
theorem dX12_mend_24 : decode cX12_mend 24 = .ok (.lconst 0, 1) := by decide +kernel
theorem dX12_mend_25 : decode cX12_mend 25 = .ok (.iload_n 2, 1) := by decide +kernel
theorem dX12_mend_26 : decode cX12_mend 26 = .ok (.invokestatic 147, 3) := by decide +kernel
theorem dX12_mend_29 : decode cX12_mend 29 = .ok (.i2l, 1) := by decide +kernel
theorem dX12_mend_30 : decode cX12_mend 30 = .ok (.invokestatic 109, 3) := by decide +kernel
theorem dX12_mend_33 : decode cX12_mend 33 = .ok (.ifCond .eq 13, 3) := by decide +kernel
theorem dX12_mend_36 : decode cX12_mend 36 = .ok (.aload_n 0, 1) := by decide +kernel
theorem dX12_mend_37 : decode cX12_mend 37 = .ok (.iload 4, 2) := by decide +kernel
theorem dX12_mend_39 : decode cX12_mend 39 = .ok (.iload_n 3, 1) := by decide +kernel
theorem dX12_mend_40 : decode cX12_mend 40 = .ok (.invokevirtual 151, 3) := by decide +kernel
theorem dX12_mend_43 : decode cX12_mend 43 = .ok (.goto 4, 3) := by decide +kernel
theorem dX12_mend_46 : decode cX12_mend 46 = .ok (.iconst (-1), 1) := by decide +kernel
theorem dX12_mend_47 : decode cX12_mend 47 = .ok (.ireturn, 1) := by decide +kernel
theorem dX12_of_0 : decode cX12_of 0 = .ok (.iload_n 2, 1) := by decide +kernel
theorem dX12_of_1 : decode cX12_of 1 = .ok (.bipush 11, 2) := by decide +kernel
theorem dX12_of_3 : decode cX12_of 3 = .ok (.if_icmp .ne 21, 3) := by decide +kernel
theorem dX12_of_6 : decode cX12_of 6 = .ok (.iload_n 1, 1) := by decide +kernel
theorem dX12_of_7 : decode cX12_of 7 = .ok (.invokestatic 140, 3) := by decide +kernel
theorem dX12_of_10 : decode cX12_of 10 = .ok (.ifCond .eq 12, 3) := by decide +kernel
theorem dX12_of_13 : decode cX12_of 13 = .ok (.aload_n 0, 1) := by decide +kernel
theorem dX12_of_14 : decode cX12_of 14 = .ok (.getfield 22, 3) := by decide +kernel
theorem dX12_of_17 : decode cX12_of 17 = .ok (.iload_n 1, 1) := by decide +kernel
theorem dX12_of_18 : decode cX12_of 18 = .ok (.iaload, 1) := by decide +kernel
theorem dX12_of_19 : decode cX12_of 19 = .ok (.goto 4, 3) := by decide +kernel
theorem dX12_of_22 : decode cX12_of 22 = .ok (.iconst (-1), 1) := by decide +kernel
theorem dX12_of_23 : decode cX12_of 23 = .ok (.ireturn, 1) := by decide +kernel
theorem dX12_of_24 : decode cX12_of 24 = .ok (.aload_n 0, 1) := by decide +kernel
theorem dX12_of_25 : decode cX12_of 25 = .ok (.iload_n 1, 1) := by decide +kernel
theorem dX12_of_26 : decode cX12_of 26 = .ok (.iload_n 2, 1) := by decide +kernel
theorem dX12_of_27 : decode cX12_of 27 = .ok (.invokevirtual 143, 3) := by decide +kernel
theorem dX12_of_30 : decode cX12_of 30 = .ok (.istore_n 3, 1) := by decide +kernel
theorem dX12_of_31 : decode cX12_of 31 = .ok (.iload_n 3, 1) := by decide +kernel
theorem dX12_of_32 : decode cX12_of 32 = .ok (.ifCond .ge 7, 3) := by decide +kernel
theorem dX12_of_35 : decode cX12_of 35 = .ok (.iconst (-1), 1) := by decide +kernel
theorem dX12_of_36 : decode cX12_of 36 = .ok (.goto 9, 3) := by decide +kernel
theorem dX12_of_39 : decode cX12_of 39 = .ok (.aload_n 0, 1) := by decide +kernel
theorem dX12_of_40 : decode cX12_of 40 = .ok (.getfield 9, 3) := by decide +kernel
theorem dX12_of_43 : decode cX12_of 43 = .ok (.iload_n 3, 1) := by decide +kernel
theorem dX12_of_44 : decode cX12_of 44 = .ok (.iaload, 1) := by decide +kernel
theorem dX12_of_45 : decode cX12_of 45 = .ok (.ireturn, 1) := by decide +kernel
theorem dX12_feed_0 : decode cX12_feed 0 = .ok (.iload_n 1, 1) := by decide +kernel
theorem dX12_feed_1 : decode cX12_feed 1 = .ok (.i2l, 1) := by decide +kernel
theorem dX12_feed_2 : decode cX12_feed 2 = .ok (.lconst 0, 1) := by decide +kernel
theorem dX12_feed_3 : decode cX12_feed 3 = .ok (.ldc2_w 154, 3) := by decide +kernel
theorem dX12_feed_6 : decode cX12_feed 6 = .ok (.invokestatic 109, 3) := by decide +kernel
theorem dX12_feed_9 : decode cX12_feed 9 = .ok (.ifCond .ne 5, 3) := by decide +kernel
theorem dX12_feed_12 : decode cX12_feed 12 = .ok (.iconst (-1), 1) := by decide +kernel
theorem dX12_feed_13 : decode cX12_feed 13 = .ok (.ireturn, 1) := by decide +kernel
theorem dX12_feed_14 : decode cX12_feed 14 = .ok (.aload_n 0, 1) := by decide +kernel
theorem dX12_feed_15 : decode cX12_feed 15 = .ok (.getfield 156, 3) := by decide +kernel
theorem dX12_feed_18 : decode cX12_feed 18 = .ok (.bipush 120, 2) := by decide +kernel
theorem dX12_feed_20 : decode cX12_feed 20 = .ok (.if_icmp .ne 6, 3) := by decide +kernel
theorem dX12_feed_23 : decode cX12_feed 23 = .ok (.bipush (-3), 2) := by decide +kernel
theorem dX12_feed_25 : decode cX12_feed 25 = .ok (.ireturn, 1) := by decide +kernel
theorem dX12_feed_26 : decode cX12_feed 26 = .ok (.aload_n 0, 1) := by decide +kernel
theorem dX12_feed_27 : decode cX12_feed 27 = .ok (.getfield 25, 3) := by decide +kernel
theorem dX12_feed_30 : decode cX12_feed 30 = .ok (.aload_n 0, 1) := by decide +kernel
theorem dX12_feed_31 : decode cX12_feed 31 = .ok (.getfield 156, 3) := by decide +kernel
theorem dX12_feed_34 : decode cX12_feed 34 = .ok (.iload_n 1, 1) := by decide +kernel
theorem dX12_feed_35 : decode cX12_feed 35 = .ok (.iastore, 1) := by decide +kernel
theorem dX12_feed_36 : decode cX12_feed 36 = .ok (.aload_n 0, 1) := by decide +kernel
theorem dX12_feed_37 : decode cX12_feed 37 = .ok (.dup, 1) := by decide +kernel
theorem dX12_feed_38 : decode cX12_feed 38 = .ok (.getfield 156, 3) := by decide +kernel
theorem dX12_feed_41 : decode cX12_feed 41 = .ok (.iconst 1, 1) := by decide +kernel
theorem dX12_feed_42 : decode cX12_feed 42 = .ok (.iadd, 1) := by decide +kernel
theorem dX12_feed_43 : decode cX12_feed 43 = .ok (.putfield 156, 3) := by decide +kernel
theorem dX12_feed_46 : decode cX12_feed 46 = .ok (.aload_n 0, 1) := by decide +kernel
theorem dX12_feed_47 : decode cX12_feed 47 = .ok (.getfield 156, 3) := by decide +kernel
theorem dX12_feed_50 : decode cX12_feed 50 = .ok (.ireturn, 1) := by decide +kernel
theorem dX12_byteAt_0 : decode cX12_byteAt 0 = .ok (.aload_n 0, 1) := by decide +kernel
theorem dX12_byteAt_1 : decode cX12_byteAt 1 = .ok (.getfield 159, 3) := by decide +kernel
theorem dX12_byteAt_4 : decode cX12_byteAt 4 = .ok (.aload_n 0, 1) := by decide +kernel
theorem dX12_byteAt_5 : decode cX12_byteAt 5 = .ok (.getfield 162, 3) := by decide +kernel
theorem dX12_byteAt_8 : decode cX12_byteAt 8 = .ok (.if_icmp .ge 39, 3) := by decide +kernel
theorem dX12_byteAt_11 : decode cX12_byteAt 11 = .ok (.aload_n 0, 1) := by decide +kernel
theorem dX12_byteAt_12 : decode cX12_byteAt 12 = .ok (.getfield 165, 3) := by decide +kernel
theorem dX12_byteAt_15 : decode cX12_byteAt 15 = .ok (.ifCond .ge 15, 3) := by decide +kernel
theorem dX12_byteAt_18 : decode cX12_byteAt 18 = .ok (.aload_n 0, 1) := by decide +kernel
theorem dX12_byteAt_19 : decode cX12_byteAt 19 = .ok (.getfield 25, 3) := by decide +kernel
theorem dX12_byteAt_22 : decode cX12_byteAt 22 = .ok (.aload_n 0, 1) := by decide +kernel
theorem dX12_byteAt_23 : decode cX12_byteAt 23 = .ok (.getfield 159, 3) := by decide +kernel
theorem dX12_byteAt_26 : decode cX12_byteAt 26 = .ok (.iaload, 1) := by decide +kernel
theorem dX12_byteAt_27 : decode cX12_byteAt 27 = .ok (.goto 21, 3) := by decide +kernel
theorem dX12_byteAt_30 : decode cX12_byteAt 30 = .ok (.aload_n 0, 1) := by decide +kernel
theorem dX12_byteAt_31 : decode cX12_byteAt 31 = .ok (.getfield 28, 3) := by decide +kernel
theorem dX12_byteAt_34 : decode cX12_byteAt 34 = .ok (.aload_n 0, 1) := by decide +kernel
theorem dX12_byteAt_35 : decode cX12_byteAt 35 = .ok (.getfield 165, 3) := by decide +kernel
theorem dX12_byteAt_38 : decode cX12_byteAt 38 = .ok (.aload_n 0, 1) := by decide +kernel
theorem dX12_byteAt_39 : decode cX12_byteAt 39 = .ok (.getfield 159, 3) := by decide +kernel
theorem dX12_byteAt_42 : decode cX12_byteAt 42 = .ok (.iadd, 1) := by decide +kernel
theorem dX12_byteAt_43 : decode cX12_byteAt 43 = .ok (.iaload, 1) := by decide +kernel
theorem dX12_byteAt_44 : decode cX12_byteAt 44 = .ok (.goto 4, 3) := by decide +kernel
theorem dX12_byteAt_47 : decode cX12_byteAt 47 = .ok (.iconst 0, 1) := by decide +kernel
theorem dX12_byteAt_48 : decode cX12_byteAt 48 = .ok (.ireturn, 1) := by decide +kernel
theorem dX12_wrong_0 : decode cX12_wrong 0 = .ok (.aload_n 0, 1) := by decide +kernel
theorem dX12_wrong_1 : decode cX12_wrong 1 = .ok (.aload_n 0, 1) := by decide +kernel
theorem dX12_wrong_2 : decode cX12_wrong 2 = .ok (.getfield 168, 3) := by decide +kernel
theorem dX12_wrong_5 : decode cX12_wrong 5 = .ok (.ifCond .ge 10, 3) := by decide +kernel
theorem dX12_wrong_8 : decode cX12_wrong 8 = .ok (.aload_n 0, 1) := by decide +kernel
theorem dX12_wrong_9 : decode cX12_wrong 9 = .ok (.getfield 159, 3) := by decide +kernel
theorem dX12_wrong_12 : decode cX12_wrong 12 = .ok (.goto 7, 3) := by decide +kernel
theorem dX12_wrong_15 : decode cX12_wrong 15 = .ok (.aload_n 0, 1) := by decide +kernel
theorem dX12_wrong_16 : decode cX12_wrong 16 = .ok (.getfield 168, 3) := by decide +kernel
theorem dX12_wrong_19 : decode cX12_wrong 19 = .ok (.putfield 168, 3) := by decide +kernel
theorem dX12_wrong_22 : decode cX12_wrong 22 = .ok (.iconst 0, 1) := by decide +kernel
theorem dX12_wrong_23 : decode cX12_wrong 23 = .ok (.ireturn, 1) := by decide +kernel
theorem dX12_takes_0 : decode cX12_takes 0 = .ok (.aload_n 0, 1) := by decide +kernel
theorem dX12_takes_1 : decode cX12_takes 1 = .ok (.getfield 168, 3) := by decide +kernel
theorem dX12_takes_4 : decode cX12_takes 4 = .ok (.ifCond .ge 11, 3) := by decide +kernel
theorem dX12_takes_7 : decode cX12_takes 7 = .ok (.aload_n 0, 1) := by decide +kernel
theorem dX12_takes_8 : decode cX12_takes 8 = .ok (.invokevirtual 171, 3) := by decide +kernel
theorem dX12_takes_11 : decode cX12_takes 11 = .ok (.iload_n 1, 1) := by decide +kernel
theorem dX12_takes_12 : decode cX12_takes 12 = .ok (.if_icmp .eq 5, 3) := by decide +kernel
theorem dX12_takes_15 : decode cX12_takes 15 = .ok (.iconst 0, 1) := by decide +kernel
theorem dX12_takes_16 : decode cX12_takes 16 = .ok (.ireturn, 1) := by decide +kernel
theorem dX12_takes_17 : decode cX12_takes 17 = .ok (.aload_n 0, 1) := by decide +kernel
theorem dX12_takes_18 : decode cX12_takes 18 = .ok (.dup, 1) := by decide +kernel
theorem dX12_takes_19 : decode cX12_takes 19 = .ok (.getfield 159, 3) := by decide +kernel
theorem dX12_takes_22 : decode cX12_takes 22 = .ok (.iconst 1, 1) := by decide +kernel
theorem dX12_takes_23 : decode cX12_takes 23 = .ok (.iadd, 1) := by decide +kernel
theorem dX12_takes_24 : decode cX12_takes 24 = .ok (.putfield 159, 3) := by decide +kernel
theorem dX12_takes_27 : decode cX12_takes 27 = .ok (.iconst 1, 1) := by decide +kernel
theorem dX12_takes_28 : decode cX12_takes 28 = .ok (.ireturn, 1) := by decide +kernel
theorem dX12_either_0 : decode cX12_either 0 = .ok (.aload_n 0, 1) := by decide +kernel
theorem dX12_either_1 : decode cX12_either 1 = .ok (.invokevirtual 175, 3) := by decide +kernel
theorem dX12_either_4 : decode cX12_either 4 = .ok (.istore_n 1, 1) := by decide +kernel
theorem dX12_either_5 : decode cX12_either 5 = .ok (.aload_n 0, 1) := by decide +kernel
theorem dX12_either_6 : decode cX12_either 6 = .ok (.bipush 124, 2) := by decide +kernel
theorem dX12_either_8 : decode cX12_either 8 = .ok (.invokevirtual 178, 3) := by decide +kernel
theorem dX12_either_11 : decode cX12_either 11 = .ok (.ifCond .eq 25, 3) := by decide +kernel
theorem dX12_either_14 : decode cX12_either 14 = .ok (.aload_n 0, 1) := by decide +kernel
theorem dX12_either_15 : decode cX12_either 15 = .ok (.invokevirtual 175, 3) := by decide +kernel
theorem dX12_either_18 : decode cX12_either 18 = .ok (.istore_n 2, 1) := by decide +kernel
theorem dX12_either_19 : decode cX12_either 19 = .ok (.iload_n 1, 1) := by decide +kernel
theorem dX12_either_20 : decode cX12_either 20 = .ok (.ifCond .ne 7, 3) := by decide +kernel
theorem dX12_either_23 : decode cX12_either 23 = .ok (.iload_n 2, 1) := by decide +kernel
theorem dX12_either_24 : decode cX12_either 24 = .ok (.ifCond .eq 7, 3) := by decide +kernel
theorem dX12_either_27 : decode cX12_either 27 = .ok (.iconst 1, 1) := by decide +kernel
theorem dX12_either_28 : decode cX12_either 28 = .ok (.goto 4, 3) := by decide +kernel
theorem dX12_either_31 : decode cX12_either 31 = .ok (.iconst 0, 1) := by decide +kernel
theorem dX12_either_32 : decode cX12_either 32 = .ok (.istore_n 1, 1) := by decide +kernel
theorem dX12_either_33 : decode cX12_either 33 = .ok (.goto (-28), 3) := by decide +kernel
theorem dX12_either_36 : decode cX12_either 36 = .ok (.iload_n 1, 1) := by decide +kernel
theorem dX12_either_37 : decode cX12_either 37 = .ok (.ireturn, 1) := by decide +kernel
theorem dX12_both_0 : decode cX12_both 0 = .ok (.aload_n 0, 1) := by decide +kernel
theorem dX12_both_1 : decode cX12_both 1 = .ok (.invokevirtual 181, 3) := by decide +kernel
theorem dX12_both_4 : decode cX12_both 4 = .ok (.istore_n 1, 1) := by decide +kernel
theorem dX12_both_5 : decode cX12_both 5 = .ok (.aload_n 0, 1) := by decide +kernel
theorem dX12_both_6 : decode cX12_both 6 = .ok (.bipush 38, 2) := by decide +kernel
theorem dX12_both_8 : decode cX12_both 8 = .ok (.invokevirtual 178, 3) := by decide +kernel
theorem dX12_both_11 : decode cX12_both 11 = .ok (.ifCond .eq 25, 3) := by decide +kernel
theorem dX12_both_14 : decode cX12_both 14 = .ok (.aload_n 0, 1) := by decide +kernel
theorem dX12_both_15 : decode cX12_both 15 = .ok (.invokevirtual 181, 3) := by decide +kernel
theorem dX12_both_18 : decode cX12_both 18 = .ok (.istore_n 2, 1) := by decide +kernel
theorem dX12_both_19 : decode cX12_both 19 = .ok (.iload_n 1, 1) := by decide +kernel
theorem dX12_both_20 : decode cX12_both 20 = .ok (.ifCond .eq 11, 3) := by decide +kernel
theorem dX12_both_23 : decode cX12_both 23 = .ok (.iload_n 2, 1) := by decide +kernel
theorem dX12_both_24 : decode cX12_both 24 = .ok (.ifCond .eq 7, 3) := by decide +kernel
theorem dX12_both_27 : decode cX12_both 27 = .ok (.iconst 1, 1) := by decide +kernel
theorem dX12_both_28 : decode cX12_both 28 = .ok (.goto 4, 3) := by decide +kernel
theorem dX12_both_31 : decode cX12_both 31 = .ok (.iconst 0, 1) := by decide +kernel
theorem dX12_both_32 : decode cX12_both 32 = .ok (.istore_n 1, 1) := by decide +kernel
theorem dX12_both_33 : decode cX12_both 33 = .ok (.goto (-28), 3) := by decide +kernel
theorem dX12_both_36 : decode cX12_both 36 = .ok (.iload_n 1, 1) := by decide +kernel
theorem dX12_both_37 : decode cX12_both 37 = .ok (.ireturn, 1) := by decide +kernel
theorem dX12_compared_0 : decode cX12_compared 0 = .ok (.aload_n 0, 1) := by decide +kernel
theorem dX12_compared_1 : decode cX12_compared 1 = .ok (.invokevirtual 184, 3) := by decide +kernel
theorem dX12_compared_4 : decode cX12_compared 4 = .ok (.istore_n 1, 1) := by decide +kernel
theorem dX12_compared_5 : decode cX12_compared 5 = .ok (.aload_n 0, 1) := by decide +kernel
theorem dX12_compared_6 : decode cX12_compared 6 = .ok (.invokevirtual 171, 3) := by decide +kernel
theorem dX12_compared_9 : decode cX12_compared 9 = .ok (.istore_n 2, 1) := by decide +kernel
theorem dX12_compared_10 : decode cX12_compared 10 = .ok (.aload_n 0, 1) := by decide +kernel
theorem dX12_compared_11 : decode cX12_compared 11 = .ok (.getfield 168, 3) := by decide +kernel
theorem dX12_compared_14 : decode cX12_compared 14 = .ok (.ifCond .ge 21, 3) := by decide +kernel
theorem dX12_compared_17 : decode cX12_compared 17 = .ok (.iload_n 2, 1) := by decide +kernel
theorem dX12_compared_18 : decode cX12_compared 18 = .ok (.bipush 60, 2) := by decide +kernel
theorem dX12_compared_20 : decode cX12_compared 20 = .ok (.if_icmp .eq 17, 3) := by decide +kernel
theorem dX12_compared_23 : decode cX12_compared 23 = .ok (.iload_n 2, 1) := by decide +kernel
theorem dX12_compared_24 : decode cX12_compared 24 = .ok (.bipush 61, 2) := by decide +kernel
theorem dX12_compared_26 : decode cX12_compared 26 = .ok (.if_icmp .eq 11, 3) := by decide +kernel
theorem dX12_compared_29 : decode cX12_compared 29 = .ok (.iload_n 2, 1) := by decide +kernel
theorem dX12_compared_30 : decode cX12_compared 30 = .ok (.bipush 62, 2) := by decide +kernel
theorem dX12_compared_32 : decode cX12_compared 32 = .ok (.if_icmp .eq 5, 3) := by decide +kernel
theorem dX12_compared_35 : decode cX12_compared 35 = .ok (.iload_n 1, 1) := by decide +kernel
theorem dX12_compared_36 : decode cX12_compared 36 = .ok (.ireturn, 1) := by decide +kernel
theorem dX12_compared_37 : decode cX12_compared 37 = .ok (.aload_n 0, 1) := by decide +kernel
theorem dX12_compared_38 : decode cX12_compared 38 = .ok (.dup, 1) := by decide +kernel
theorem dX12_compared_39 : decode cX12_compared 39 = .ok (.getfield 159, 3) := by decide +kernel
theorem dX12_compared_42 : decode cX12_compared 42 = .ok (.iconst 1, 1) := by decide +kernel
theorem dX12_compared_43 : decode cX12_compared 43 = .ok (.iadd, 1) := by decide +kernel
theorem dX12_compared_44 : decode cX12_compared 44 = .ok (.putfield 159, 3) := by decide +kernel
theorem dX12_compared_47 : decode cX12_compared 47 = .ok (.aload_n 0, 1) := by decide +kernel
theorem dX12_compared_48 : decode cX12_compared 48 = .ok (.invokevirtual 184, 3) := by decide +kernel
theorem dX12_compared_51 : decode cX12_compared 51 = .ok (.istore_n 3, 1) := by decide +kernel
theorem dX12_compared_52 : decode cX12_compared 52 = .ok (.iload_n 2, 1) := by decide +kernel
theorem dX12_compared_53 : decode cX12_compared 53 = .ok (.bipush 60, 2) := by decide +kernel
theorem dX12_compared_55 : decode cX12_compared 55 = .ok (.if_icmp .ne 11, 3) := by decide +kernel
theorem dX12_compared_58 : decode cX12_compared 58 = .ok (.iload_n 1, 1) := by decide +kernel
theorem dX12_compared_59 : decode cX12_compared 59 = .ok (.iload_n 3, 1) := by decide +kernel
theorem dX12_compared_60 : decode cX12_compared 60 = .ok (.if_icmp .ge 29, 3) := by decide +kernel
theorem dX12_compared_63 : decode cX12_compared 63 = .ok (.goto 22, 3) := by decide +kernel
theorem dX12_compared_66 : decode cX12_compared 66 = .ok (.iload_n 2, 1) := by decide +kernel
theorem dX12_compared_67 : decode cX12_compared 67 = .ok (.bipush 61, 2) := by decide +kernel
theorem dX12_compared_69 : decode cX12_compared 69 = .ok (.if_icmp .ne 11, 3) := by decide +kernel
theorem dX12_compared_72 : decode cX12_compared 72 = .ok (.iload_n 1, 1) := by decide +kernel
theorem dX12_compared_73 : decode cX12_compared 73 = .ok (.iload_n 3, 1) := by decide +kernel
theorem dX12_compared_74 : decode cX12_compared 74 = .ok (.if_icmp .ne 15, 3) := by decide +kernel
theorem dX12_compared_77 : decode cX12_compared 77 = .ok (.goto 8, 3) := by decide +kernel
theorem dX12_compared_80 : decode cX12_compared 80 = .ok (.iload_n 1, 1) := by decide +kernel
theorem dX12_compared_81 : decode cX12_compared 81 = .ok (.iload_n 3, 1) := by decide +kernel
theorem dX12_compared_82 : decode cX12_compared 82 = .ok (.if_icmp .le 7, 3) := by decide +kernel
theorem dX12_compared_85 : decode cX12_compared 85 = .ok (.iconst 1, 1) := by decide +kernel
theorem dX12_compared_86 : decode cX12_compared 86 = .ok (.goto 4, 3) := by decide +kernel
theorem dX12_compared_89 : decode cX12_compared 89 = .ok (.iconst 0, 1) := by decide +kernel
theorem dX12_compared_90 : decode cX12_compared 90 = .ok (.ireturn, 1) := by decide +kernel
theorem dX12_sums_0 : decode cX12_sums 0 = .ok (.aload_n 0, 1) := by decide +kernel
theorem dX12_sums_1 : decode cX12_sums 1 = .ok (.invokevirtual 187, 3) := by decide +kernel
theorem dX12_sums_4 : decode cX12_sums 4 = .ok (.istore_n 1, 1) := by decide +kernel
theorem dX12_sums_5 : decode cX12_sums 5 = .ok (.aload_n 0, 1) := by decide +kernel
theorem dX12_sums_6 : decode cX12_sums 6 = .ok (.getfield 168, 3) := by decide +kernel
theorem dX12_sums_9 : decode cX12_sums 9 = .ok (.ifCond .ge 68, 3) := by decide +kernel
theorem dX12_sums_12 : decode cX12_sums 12 = .ok (.aload_n 0, 1) := by decide +kernel
theorem dX12_sums_13 : decode cX12_sums 13 = .ok (.invokevirtual 171, 3) := by decide +kernel
theorem dX12_sums_16 : decode cX12_sums 16 = .ok (.bipush 43, 2) := by decide +kernel
theorem dX12_sums_18 : decode cX12_sums 18 = .ok (.if_icmp .eq 12, 3) := by decide +kernel
theorem dX12_sums_21 : decode cX12_sums 21 = .ok (.aload_n 0, 1) := by decide +kernel
theorem dX12_sums_22 : decode cX12_sums 22 = .ok (.invokevirtual 171, 3) := by decide +kernel
theorem dX12_sums_25 : decode cX12_sums 25 = .ok (.bipush 45, 2) := by decide +kernel
theorem dX12_sums_27 : decode cX12_sums 27 = .ok (.if_icmp .ne 50, 3) := by decide +kernel
theorem dX12_sums_30 : decode cX12_sums 30 = .ok (.aload_n 0, 1) := by decide +kernel
theorem dX12_sums_31 : decode cX12_sums 31 = .ok (.invokevirtual 171, 3) := by decide +kernel
theorem dX12_sums_34 : decode cX12_sums 34 = .ok (.bipush 43, 2) := by decide +kernel
theorem dX12_sums_36 : decode cX12_sums 36 = .ok (.if_icmp .ne 7, 3) := by decide +kernel
theorem dX12_sums_39 : decode cX12_sums 39 = .ok (.iconst 1, 1) := by decide +kernel
theorem dX12_sums_40 : decode cX12_sums 40 = .ok (.goto 4, 3) := by decide +kernel
theorem dX12_sums_43 : decode cX12_sums 43 = .ok (.iconst 0, 1) := by decide +kernel
theorem dX12_sums_44 : decode cX12_sums 44 = .ok (.istore_n 2, 1) := by decide +kernel
theorem dX12_sums_45 : decode cX12_sums 45 = .ok (.aload_n 0, 1) := by decide +kernel
theorem dX12_sums_46 : decode cX12_sums 46 = .ok (.dup, 1) := by decide +kernel
theorem dX12_sums_47 : decode cX12_sums 47 = .ok (.getfield 159, 3) := by decide +kernel
theorem dX12_sums_50 : decode cX12_sums 50 = .ok (.iconst 1, 1) := by decide +kernel
theorem dX12_sums_51 : decode cX12_sums 51 = .ok (.iadd, 1) := by decide +kernel
theorem dX12_sums_52 : decode cX12_sums 52 = .ok (.putfield 159, 3) := by decide +kernel
theorem dX12_sums_55 : decode cX12_sums 55 = .ok (.aload_n 0, 1) := by decide +kernel
theorem dX12_sums_56 : decode cX12_sums 56 = .ok (.invokevirtual 187, 3) := by decide +kernel
theorem dX12_sums_59 : decode cX12_sums 59 = .ok (.istore_n 3, 1) := by decide +kernel
theorem dX12_sums_60 : decode cX12_sums 60 = .ok (.iload_n 2, 1) := by decide +kernel
theorem dX12_sums_61 : decode cX12_sums 61 = .ok (.ifCond .eq 9, 3) := by decide +kernel
theorem dX12_sums_64 : decode cX12_sums 64 = .ok (.iload_n 1, 1) := by decide +kernel
theorem dX12_sums_65 : decode cX12_sums 65 = .ok (.iload_n 3, 1) := by decide +kernel
theorem dX12_sums_66 : decode cX12_sums 66 = .ok (.iadd, 1) := by decide +kernel
theorem dX12_sums_67 : decode cX12_sums 67 = .ok (.goto 6, 3) := by decide +kernel
theorem dX12_sums_70 : decode cX12_sums 70 = .ok (.iload_n 1, 1) := by decide +kernel
theorem dX12_sums_71 : decode cX12_sums 71 = .ok (.iload_n 3, 1) := by decide +kernel
theorem dX12_sums_72 : decode cX12_sums 72 = .ok (.isub, 1) := by decide +kernel
theorem dX12_sums_73 : decode cX12_sums 73 = .ok (.istore_n 1, 1) := by decide +kernel
theorem dX12_sums_74 : decode cX12_sums 74 = .ok (.goto (-69), 3) := by decide +kernel
theorem dX12_sums_77 : decode cX12_sums 77 = .ok (.iload_n 1, 1) := by decide +kernel
theorem dX12_sums_78 : decode cX12_sums 78 = .ok (.ireturn, 1) := by decide +kernel
theorem dX12_product_0 : decode cX12_product 0 = .ok (.aload_n 0, 1) := by decide +kernel
theorem dX12_product_1 : decode cX12_product 1 = .ok (.invokevirtual 190, 3) := by decide +kernel
theorem dX12_product_4 : decode cX12_product 4 = .ok (.istore_n 1, 1) := by decide +kernel
theorem dX12_product_5 : decode cX12_product 5 = .ok (.aload_n 0, 1) := by decide +kernel
theorem dX12_product_6 : decode cX12_product 6 = .ok (.invokevirtual 171, 3) := by decide +kernel
theorem dX12_product_9 : decode cX12_product 9 = .ok (.istore_n 2, 1) := by decide +kernel
theorem dX12_product_10 : decode cX12_product 10 = .ok (.aload_n 0, 1) := by decide +kernel
theorem dX12_product_11 : decode cX12_product 11 = .ok (.getfield 168, 3) := by decide +kernel
theorem dX12_product_14 : decode cX12_product 14 = .ok (.ifCond .ge 80, 3) := by decide +kernel
theorem dX12_product_17 : decode cX12_product 17 = .ok (.iload_n 2, 1) := by decide +kernel
theorem dX12_product_18 : decode cX12_product 18 = .ok (.bipush 42, 2) := by decide +kernel
theorem dX12_product_20 : decode cX12_product 20 = .ok (.if_icmp .eq 15, 3) := by decide +kernel
theorem dX12_product_23 : decode cX12_product 23 = .ok (.iload_n 2, 1) := by decide +kernel
theorem dX12_product_24 : decode cX12_product 24 = .ok (.bipush 47, 2) := by decide +kernel
theorem dX12_product_26 : decode cX12_product 26 = .ok (.if_icmp .eq 9, 3) := by decide +kernel
theorem dX12_product_29 : decode cX12_product 29 = .ok (.iload_n 2, 1) := by decide +kernel
theorem dX12_product_30 : decode cX12_product 30 = .ok (.bipush 37, 2) := by decide +kernel
theorem dX12_product_32 : decode cX12_product 32 = .ok (.if_icmp .ne 62, 3) := by decide +kernel
theorem dX12_product_35 : decode cX12_product 35 = .ok (.aload_n 0, 1) := by decide +kernel
theorem dX12_product_36 : decode cX12_product 36 = .ok (.dup, 1) := by decide +kernel
theorem dX12_product_37 : decode cX12_product 37 = .ok (.getfield 159, 3) := by decide +kernel
theorem dX12_product_40 : decode cX12_product 40 = .ok (.iconst 1, 1) := by decide +kernel
theorem dX12_product_41 : decode cX12_product 41 = .ok (.iadd, 1) := by decide +kernel
theorem dX12_product_42 : decode cX12_product 42 = .ok (.putfield 159, 3) := by decide +kernel
theorem dX12_product_45 : decode cX12_product 45 = .ok (.aload_n 0, 1) := by decide +kernel
theorem dX12_product_46 : decode cX12_product 46 = .ok (.invokevirtual 190, 3) := by decide +kernel
theorem dX12_product_49 : decode cX12_product 49 = .ok (.istore_n 3, 1) := by decide +kernel
theorem dX12_product_50 : decode cX12_product 50 = .ok (.iload_n 2, 1) := by decide +kernel
theorem dX12_product_51 : decode cX12_product 51 = .ok (.bipush 42, 2) := by decide +kernel
theorem dX12_product_53 : decode cX12_product 53 = .ok (.if_icmp .ne 9, 3) := by decide +kernel
theorem dX12_product_56 : decode cX12_product 56 = .ok (.iload_n 1, 1) := by decide +kernel
theorem dX12_product_57 : decode cX12_product 57 = .ok (.iload_n 3, 1) := by decide +kernel
theorem dX12_product_58 : decode cX12_product 58 = .ok (.imul, 1) := by decide +kernel
theorem dX12_product_59 : decode cX12_product 59 = .ok (.goto 26, 3) := by decide +kernel
theorem dX12_product_62 : decode cX12_product 62 = .ok (.iload_n 3, 1) := by decide +kernel
theorem dX12_product_63 : decode cX12_product 63 = .ok (.ifCond .ne 7, 3) := by decide +kernel
theorem dX12_product_66 : decode cX12_product 66 = .ok (.iconst 0, 1) := by decide +kernel
theorem dX12_product_67 : decode cX12_product 67 = .ok (.goto 18, 3) := by decide +kernel
theorem dX12_product_70 : decode cX12_product 70 = .ok (.iload_n 2, 1) := by decide +kernel
theorem dX12_product_71 : decode cX12_product 71 = .ok (.bipush 47, 2) := by decide +kernel
theorem dX12_product_73 : decode cX12_product 73 = .ok (.if_icmp .ne 9, 3) := by decide +kernel
theorem dX12_product_76 : decode cX12_product 76 = .ok (.iload_n 1, 1) := by decide +kernel
theorem dX12_product_77 : decode cX12_product 77 = .ok (.iload_n 3, 1) := by decide +kernel
theorem dX12_product_78 : decode cX12_product 78 = .ok (.idiv, 1) := by decide +kernel
theorem dX12_product_79 : decode cX12_product 79 = .ok (.goto 6, 3) := by decide +kernel
theorem dX12_product_82 : decode cX12_product 82 = .ok (.iload_n 1, 1) := by decide +kernel
theorem dX12_product_83 : decode cX12_product 83 = .ok (.iload_n 3, 1) := by decide +kernel
theorem dX12_product_84 : decode cX12_product 84 = .ok (.irem, 1) := by decide +kernel
theorem dX12_product_85 : decode cX12_product 85 = .ok (.istore_n 1, 1) := by decide +kernel
theorem dX12_product_86 : decode cX12_product 86 = .ok (.aload_n 0, 1) := by decide +kernel
theorem dX12_product_87 : decode cX12_product 87 = .ok (.invokevirtual 171, 3) := by decide +kernel
theorem dX12_product_90 : decode cX12_product 90 = .ok (.istore_n 2, 1) := by decide +kernel
theorem dX12_product_91 : decode cX12_product 91 = .ok (.goto (-81), 3) := by decide +kernel
theorem dX12_product_94 : decode cX12_product 94 = .ok (.iload_n 1, 1) := by decide +kernel
theorem dX12_product_95 : decode cX12_product 95 = .ok (.ireturn, 1) := by decide +kernel
theorem dX12_nameOf_0 : decode cX12_nameOf 0 = .ok (.iload_n 0, 1) := by decide +kernel
theorem dX12_nameOf_1 : decode cX12_nameOf 1 = .ok (.tableswitch 107 100 119 #[95, 107, 107, 107, 103, 107, 107, 105, 107, 107, 107, 107, 107, 107, 107, 99, 107, 97, 107, 101], 95) := by decide +kernel
theorem dX12_nameOf_96 : decode cX12_nameOf 96 = .ok (.iconst 0, 1) := by decide +kernel
theorem dX12_nameOf_97 : decode cX12_nameOf 97 = .ok (.ireturn, 1) := by decide +kernel
theorem dX12_nameOf_98 : decode cX12_nameOf 98 = .ok (.iconst 1, 1) := by decide +kernel
theorem dX12_nameOf_99 : decode cX12_nameOf 99 = .ok (.ireturn, 1) := by decide +kernel
theorem dX12_nameOf_100 : decode cX12_nameOf 100 = .ok (.iconst 2, 1) := by decide +kernel
theorem dX12_nameOf_101 : decode cX12_nameOf 101 = .ok (.ireturn, 1) := by decide +kernel
theorem dX12_nameOf_102 : decode cX12_nameOf 102 = .ok (.iconst 3, 1) := by decide +kernel
theorem dX12_nameOf_103 : decode cX12_nameOf 103 = .ok (.ireturn, 1) := by decide +kernel
theorem dX12_nameOf_104 : decode cX12_nameOf 104 = .ok (.iconst 4, 1) := by decide +kernel
theorem dX12_nameOf_105 : decode cX12_nameOf 105 = .ok (.ireturn, 1) := by decide +kernel
theorem dX12_nameOf_106 : decode cX12_nameOf 106 = .ok (.iconst 5, 1) := by decide +kernel
theorem dX12_nameOf_107 : decode cX12_nameOf 107 = .ok (.ireturn, 1) := by decide +kernel
theorem dX12_nameOf_108 : decode cX12_nameOf 108 = .ok (.iconst (-1), 1) := by decide +kernel
theorem dX12_nameOf_109 : decode cX12_nameOf 109 = .ok (.ireturn, 1) := by decide +kernel
theorem dX12_one_0 : decode cX12_one 0 = .ok (.aload_n 0, 1) := by decide +kernel
theorem dX12_one_1 : decode cX12_one 1 = .ok (.getfield 168, 3) := by decide +kernel
theorem dX12_one_4 : decode cX12_one 4 = .ok (.ifCond .lt 5, 3) := by decide +kernel
theorem dX12_one_7 : decode cX12_one 7 = .ok (.iconst 0, 1) := by decide +kernel
theorem dX12_one_8 : decode cX12_one 8 = .ok (.ireturn, 1) := by decide +kernel
theorem dX12_one_9 : decode cX12_one 9 = .ok (.aload_n 0, 1) := by decide +kernel
theorem dX12_one_10 : decode cX12_one 10 = .ok (.invokevirtual 171, 3) := by decide +kernel
theorem dX12_one_13 : decode cX12_one 13 = .ok (.istore_n 1, 1) := by decide +kernel
theorem dX12_one_14 : decode cX12_one 14 = .ok (.iload_n 1, 1) := by decide +kernel
theorem dX12_one_15 : decode cX12_one 15 = .ok (.bipush 33, 2) := by decide +kernel
theorem dX12_one_17 : decode cX12_one 17 = .ok (.if_icmp .eq 15, 3) := by decide +kernel
theorem dX12_one_20 : decode cX12_one 20 = .ok (.iload_n 1, 1) := by decide +kernel
theorem dX12_one_21 : decode cX12_one 21 = .ok (.bipush 45, 2) := by decide +kernel
theorem dX12_one_23 : decode cX12_one 23 = .ok (.if_icmp .eq 9, 3) := by decide +kernel
theorem dX12_one_26 : decode cX12_one 26 = .ok (.iload_n 1, 1) := by decide +kernel
theorem dX12_one_27 : decode cX12_one 27 = .ok (.bipush 40, 2) := by decide +kernel
theorem dX12_one_29 : decode cX12_one 29 = .ok (.if_icmp .ne 116, 3) := by decide +kernel
theorem dX12_one_32 : decode cX12_one 32 = .ok (.aload_n 0, 1) := by decide +kernel
theorem dX12_one_33 : decode cX12_one 33 = .ok (.getfield 193, 3) := by decide +kernel
theorem dX12_one_36 : decode cX12_one 36 = .ok (.bipush 6, 2) := by decide +kernel
theorem dX12_one_38 : decode cX12_one 38 = .ok (.if_icmp .ne 8, 3) := by decide +kernel
theorem dX12_one_41 : decode cX12_one 41 = .ok (.aload_n 0, 1) := by decide +kernel
theorem dX12_one_42 : decode cX12_one 42 = .ok (.invokevirtual 196, 3) := by decide +kernel
theorem dX12_one_45 : decode cX12_one 45 = .ok (.ireturn, 1) := by decide +kernel
theorem dX12_one_46 : decode cX12_one 46 = .ok (.aload_n 0, 1) := by decide +kernel
theorem dX12_one_47 : decode cX12_one 47 = .ok (.dup, 1) := by decide +kernel
theorem dX12_one_48 : decode cX12_one 48 = .ok (.getfield 193, 3) := by decide +kernel
theorem dX12_one_51 : decode cX12_one 51 = .ok (.iconst 1, 1) := by decide +kernel
theorem dX12_one_52 : decode cX12_one 52 = .ok (.iadd, 1) := by decide +kernel
theorem dX12_one_53 : decode cX12_one 53 = .ok (.putfield 193, 3) := by decide +kernel
theorem dX12_one_56 : decode cX12_one 56 = .ok (.aload_n 0, 1) := by decide +kernel
theorem dX12_one_57 : decode cX12_one 57 = .ok (.dup, 1) := by decide +kernel
theorem dX12_one_58 : decode cX12_one 58 = .ok (.getfield 159, 3) := by decide +kernel
theorem dX12_one_61 : decode cX12_one 61 = .ok (.iconst 1, 1) := by decide +kernel
theorem dX12_one_62 : decode cX12_one 62 = .ok (.iadd, 1) := by decide +kernel
theorem dX12_one_63 : decode cX12_one 63 = .ok (.putfield 159, 3) := by decide +kernel
theorem dX12_one_66 : decode cX12_one 66 = .ok (.iload_n 1, 1) := by decide +kernel
theorem dX12_one_67 : decode cX12_one 67 = .ok (.bipush 40, 2) := by decide +kernel
theorem dX12_one_69 : decode cX12_one 69 = .ok (.if_icmp .ne 10, 3) := by decide +kernel
theorem dX12_one_72 : decode cX12_one 72 = .ok (.aload_n 0, 1) := by decide +kernel
theorem dX12_one_73 : decode cX12_one 73 = .ok (.invokevirtual 199, 3) := by decide +kernel
theorem dX12_one_76 : decode cX12_one 76 = .ok (.goto 7, 3) := by decide +kernel
theorem dX12_one_79 : decode cX12_one 79 = .ok (.aload_n 0, 1) := by decide +kernel
theorem dX12_one_80 : decode cX12_one 80 = .ok (.invokevirtual 190, 3) := by decide +kernel
theorem dX12_one_83 : decode cX12_one 83 = .ok (.istore_n 2, 1) := by decide +kernel
theorem dX12_one_84 : decode cX12_one 84 = .ok (.iload_n 1, 1) := by decide +kernel
theorem dX12_one_85 : decode cX12_one 85 = .ok (.bipush 40, 2) := by decide +kernel
theorem dX12_one_87 : decode cX12_one 87 = .ok (.if_icmp .ne 17, 3) := by decide +kernel
theorem dX12_one_90 : decode cX12_one 90 = .ok (.aload_n 0, 1) := by decide +kernel
theorem dX12_one_91 : decode cX12_one 91 = .ok (.bipush 41, 2) := by decide +kernel
theorem dX12_one_93 : decode cX12_one 93 = .ok (.invokevirtual 178, 3) := by decide +kernel
theorem dX12_one_96 : decode cX12_one 96 = .ok (.ifCond .ne 8, 3) := by decide +kernel
theorem dX12_one_99 : decode cX12_one 99 = .ok (.aload_n 0, 1) := by decide +kernel
theorem dX12_one_100 : decode cX12_one 100 = .ok (.invokevirtual 196, 3) := by decide +kernel
theorem dX12_one_103 : decode cX12_one 103 = .ok (.ireturn, 1) := by decide +kernel
theorem dX12_one_104 : decode cX12_one 104 = .ok (.aload_n 0, 1) := by decide +kernel
theorem dX12_one_105 : decode cX12_one 105 = .ok (.dup, 1) := by decide +kernel
theorem dX12_one_106 : decode cX12_one 106 = .ok (.getfield 193, 3) := by decide +kernel
theorem dX12_one_109 : decode cX12_one 109 = .ok (.iconst 1, 1) := by decide +kernel
theorem dX12_one_110 : decode cX12_one 110 = .ok (.isub, 1) := by decide +kernel
theorem dX12_one_111 : decode cX12_one 111 = .ok (.putfield 193, 3) := by decide +kernel
theorem dX12_one_114 : decode cX12_one 114 = .ok (.iload_n 1, 1) := by decide +kernel
theorem dX12_one_115 : decode cX12_one 115 = .ok (.bipush 40, 2) := by decide +kernel
theorem dX12_one_117 : decode cX12_one 117 = .ok (.if_icmp .ne 7, 3) := by decide +kernel
theorem dX12_one_120 : decode cX12_one 120 = .ok (.iload_n 2, 1) := by decide +kernel
theorem dX12_one_121 : decode cX12_one 121 = .ok (.goto 23, 3) := by decide +kernel
theorem dX12_one_124 : decode cX12_one 124 = .ok (.iload_n 1, 1) := by decide +kernel
theorem dX12_one_125 : decode cX12_one 125 = .ok (.bipush 45, 2) := by decide +kernel
theorem dX12_one_127 : decode cX12_one 127 = .ok (.if_icmp .ne 8, 3) := by decide +kernel
theorem dX12_one_130 : decode cX12_one 130 = .ok (.iload_n 2, 1) := by decide +kernel
theorem dX12_one_131 : decode cX12_one 131 = .ok (.ineg, 1) := by decide +kernel
theorem dX12_one_132 : decode cX12_one 132 = .ok (.goto 12, 3) := by decide +kernel
theorem dX12_one_135 : decode cX12_one 135 = .ok (.iload_n 2, 1) := by decide +kernel
theorem dX12_one_136 : decode cX12_one 136 = .ok (.ifCond .ne 7, 3) := by decide +kernel
theorem dX12_one_139 : decode cX12_one 139 = .ok (.iconst 1, 1) := by decide +kernel
theorem dX12_one_140 : decode cX12_one 140 = .ok (.goto 4, 3) := by decide +kernel
theorem dX12_one_143 : decode cX12_one 143 = .ok (.iconst 0, 1) := by decide +kernel
theorem dX12_one_144 : decode cX12_one 144 = .ok (.ireturn, 1) := by decide +kernel
theorem dX12_one_145 : decode cX12_one 145 = .ok (.iload_n 1, 1) := by decide +kernel
theorem dX12_one_146 : decode cX12_one 146 = .ok (.invokestatic 202, 3) := by decide +kernel
theorem dX12_one_149 : decode cX12_one 149 = .ok (.istore_n 2, 1) := by decide +kernel
theorem dX12_one_150 : decode cX12_one 150 = .ok (.iload_n 2, 1) := by decide +kernel
theorem dX12_one_151 : decode cX12_one 151 = .ok (.ifCond .lt 20, 3) := by decide +kernel
theorem dX12_one_154 : decode cX12_one 154 = .ok (.aload_n 0, 1) := by decide +kernel
theorem dX12_one_155 : decode cX12_one 155 = .ok (.dup, 1) := by decide +kernel
theorem dX12_one_156 : decode cX12_one 156 = .ok (.getfield 159, 3) := by decide +kernel
theorem dX12_one_159 : decode cX12_one 159 = .ok (.iconst 1, 1) := by decide +kernel
theorem dX12_one_160 : decode cX12_one 160 = .ok (.iadd, 1) := by decide +kernel
theorem dX12_one_161 : decode cX12_one 161 = .ok (.putfield 159, 3) := by decide +kernel
theorem dX12_one_164 : decode cX12_one 164 = .ok (.aload_n 0, 1) := by decide +kernel
theorem dX12_one_165 : decode cX12_one 165 = .ok (.getfield 31, 3) := by decide +kernel
theorem dX12_one_168 : decode cX12_one 168 = .ok (.iload_n 2, 1) := by decide +kernel
theorem dX12_one_169 : decode cX12_one 169 = .ok (.iaload, 1) := by decide +kernel
theorem dX12_one_170 : decode cX12_one 170 = .ok (.ireturn, 1) := by decide +kernel
theorem dX12_one_171 : decode cX12_one 171 = .ok (.iconst 0, 1) := by decide +kernel
theorem dX12_one_172 : decode cX12_one 172 = .ok (.istore_n 3, 1) := by decide +kernel
theorem dX12_one_173 : decode cX12_one 173 = .ok (.iconst 0, 1) := by decide +kernel
theorem dX12_one_174 : decode cX12_one 174 = .ok (.istore 4, 2) := by decide +kernel
theorem dX12_one_176 : decode cX12_one 176 = .ok (.iload 4, 2) := by decide +kernel
theorem dX12_one_178 : decode cX12_one 178 = .ok (.iconst 4, 1) := by decide +kernel
theorem dX12_one_179 : decode cX12_one 179 = .ok (.if_icmp .ge 50, 3) := by decide +kernel
theorem dX12_one_182 : decode cX12_one 182 = .ok (.aload_n 0, 1) := by decide +kernel
theorem dX12_one_183 : decode cX12_one 183 = .ok (.invokevirtual 171, 3) := by decide +kernel
theorem dX12_one_186 : decode cX12_one 186 = .ok (.bipush 48, 2) := by decide +kernel
theorem dX12_one_188 : decode cX12_one 188 = .ok (.if_icmp .lt 41, 3) := by decide +kernel
theorem dX12_one_191 : decode cX12_one 191 = .ok (.aload_n 0, 1) := by decide +kernel
theorem dX12_one_192 : decode cX12_one 192 = .ok (.invokevirtual 171, 3) := by decide +kernel
theorem dX12_one_195 : decode cX12_one 195 = .ok (.bipush 57, 2) := by decide +kernel
theorem dX12_one_197 : decode cX12_one 197 = .ok (.if_icmp .gt 32, 3) := by decide +kernel
theorem dX12_one_200 : decode cX12_one 200 = .ok (.bipush 10, 2) := by decide +kernel
theorem dX12_one_202 : decode cX12_one 202 = .ok (.iload_n 3, 1) := by decide +kernel
theorem dX12_one_203 : decode cX12_one 203 = .ok (.imul, 1) := by decide +kernel
theorem dX12_one_204 : decode cX12_one 204 = .ok (.aload_n 0, 1) := by decide +kernel
theorem dX12_one_205 : decode cX12_one 205 = .ok (.invokevirtual 171, 3) := by decide +kernel
theorem dX12_one_208 : decode cX12_one 208 = .ok (.iadd, 1) := by decide +kernel
theorem dX12_one_209 : decode cX12_one 209 = .ok (.bipush 48, 2) := by decide +kernel
theorem dX12_one_211 : decode cX12_one 211 = .ok (.isub, 1) := by decide +kernel
theorem dX12_one_212 : decode cX12_one 212 = .ok (.istore_n 3, 1) := by decide +kernel
theorem dX12_one_213 : decode cX12_one 213 = .ok (.iinc 4 1, 3) := by decide +kernel
theorem dX12_one_216 : decode cX12_one 216 = .ok (.aload_n 0, 1) := by decide +kernel
theorem dX12_one_217 : decode cX12_one 217 = .ok (.dup, 1) := by decide +kernel
theorem dX12_one_218 : decode cX12_one 218 = .ok (.getfield 159, 3) := by decide +kernel
theorem dX12_one_221 : decode cX12_one 221 = .ok (.iconst 1, 1) := by decide +kernel
theorem dX12_one_222 : decode cX12_one 222 = .ok (.iadd, 1) := by decide +kernel
theorem dX12_one_223 : decode cX12_one 223 = .ok (.putfield 159, 3) := by decide +kernel
theorem dX12_one_226 : decode cX12_one 226 = .ok (.goto (-50), 3) := by decide +kernel
theorem dX12_one_229 : decode cX12_one 229 = .ok (.iload 4, 2) := by decide +kernel
theorem dX12_one_231 : decode cX12_one 231 = .ok (.ifCond .ne 10, 3) := by decide +kernel
theorem dX12_one_234 : decode cX12_one 234 = .ok (.aload_n 0, 1) := by decide +kernel
theorem dX12_one_235 : decode cX12_one 235 = .ok (.invokevirtual 196, 3) := by decide +kernel
theorem dX12_one_238 : decode cX12_one 238 = .ok (.goto 4, 3) := by decide +kernel
theorem dX12_one_241 : decode cX12_one 241 = .ok (.iload_n 3, 1) := by decide +kernel
theorem dX12_one_242 : decode cX12_one 242 = .ok (.ireturn, 1) := by decide +kernel
theorem dX12_workOut_0 : decode cX12_workOut 0 = .ok (.aload_n 0, 1) := by decide +kernel
theorem dX12_workOut_1 : decode cX12_workOut 1 = .ok (.iload_n 1, 1) := by decide +kernel
theorem dX12_workOut_2 : decode cX12_workOut 2 = .ok (.putfield 165, 3) := by decide +kernel
theorem dX12_workOut_5 : decode cX12_workOut 5 = .ok (.aload_n 0, 1) := by decide +kernel
theorem dX12_workOut_6 : decode cX12_workOut 6 = .ok (.iconst 0, 1) := by decide +kernel
theorem dX12_workOut_7 : decode cX12_workOut 7 = .ok (.putfield 159, 3) := by decide +kernel
theorem dX12_workOut_10 : decode cX12_workOut 10 = .ok (.aload_n 0, 1) := by decide +kernel
theorem dX12_workOut_11 : decode cX12_workOut 11 = .ok (.iload_n 2, 1) := by decide +kernel
theorem dX12_workOut_12 : decode cX12_workOut 12 = .ok (.putfield 162, 3) := by decide +kernel
theorem dX12_workOut_15 : decode cX12_workOut 15 = .ok (.aload_n 0, 1) := by decide +kernel
theorem dX12_workOut_16 : decode cX12_workOut 16 = .ok (.iconst (-1), 1) := by decide +kernel
theorem dX12_workOut_17 : decode cX12_workOut 17 = .ok (.putfield 168, 3) := by decide +kernel
theorem dX12_workOut_20 : decode cX12_workOut 20 = .ok (.aload_n 0, 1) := by decide +kernel
theorem dX12_workOut_21 : decode cX12_workOut 21 = .ok (.iconst 0, 1) := by decide +kernel
theorem dX12_workOut_22 : decode cX12_workOut 22 = .ok (.putfield 193, 3) := by decide +kernel
theorem dX12_workOut_25 : decode cX12_workOut 25 = .ok (.iconst 0, 1) := by decide +kernel
theorem dX12_workOut_26 : decode cX12_workOut 26 = .ok (.istore_n 3, 1) := by decide +kernel
theorem dX12_workOut_27 : decode cX12_workOut 27 = .ok (.iconst 0, 1) := by decide +kernel
theorem dX12_workOut_28 : decode cX12_workOut 28 = .ok (.istore 4, 2) := by decide +kernel
theorem dX12_workOut_30 : decode cX12_workOut 30 = .ok (.iconst 1, 1) := by decide +kernel
theorem dX12_workOut_31 : decode cX12_workOut 31 = .ok (.istore 5, 2) := by decide +kernel
theorem dX12_workOut_33 : decode cX12_workOut 33 = .ok (.iload 5, 2) := by decide +kernel
theorem dX12_workOut_35 : decode cX12_workOut 35 = .ok (.ifCond .eq 72, 3) := by decide +kernel
theorem dX12_workOut_38 : decode cX12_workOut 38 = .ok (.aload_n 0, 1) := by decide +kernel
theorem dX12_workOut_39 : decode cX12_workOut 39 = .ok (.invokevirtual 199, 3) := by decide +kernel
theorem dX12_workOut_42 : decode cX12_workOut 42 = .ok (.istore 6, 2) := by decide +kernel
theorem dX12_workOut_44 : decode cX12_workOut 44 = .ok (.iconst 1, 1) := by decide +kernel
theorem dX12_workOut_45 : decode cX12_workOut 45 = .ok (.istore 7, 2) := by decide +kernel
theorem dX12_workOut_47 : decode cX12_workOut 47 = .ok (.aload_n 0, 1) := by decide +kernel
theorem dX12_workOut_48 : decode cX12_workOut 48 = .ok (.bipush 63, 2) := by decide +kernel
theorem dX12_workOut_50 : decode cX12_workOut 50 = .ok (.invokevirtual 178, 3) := by decide +kernel
theorem dX12_workOut_53 : decode cX12_workOut 53 = .ok (.ifCond .eq 21, 3) := by decide +kernel
theorem dX12_workOut_56 : decode cX12_workOut 56 = .ok (.iload 6, 2) := by decide +kernel
theorem dX12_workOut_58 : decode cX12_workOut 58 = .ok (.ifCond .eq 7, 3) := by decide +kernel
theorem dX12_workOut_61 : decode cX12_workOut 61 = .ok (.iconst 1, 1) := by decide +kernel
theorem dX12_workOut_62 : decode cX12_workOut 62 = .ok (.goto 4, 3) := by decide +kernel
theorem dX12_workOut_65 : decode cX12_workOut 65 = .ok (.iconst 0, 1) := by decide +kernel
theorem dX12_workOut_66 : decode cX12_workOut 66 = .ok (.istore 7, 2) := by decide +kernel
theorem dX12_workOut_68 : decode cX12_workOut 68 = .ok (.aload_n 0, 1) := by decide +kernel
theorem dX12_workOut_69 : decode cX12_workOut 69 = .ok (.invokevirtual 199, 3) := by decide +kernel
theorem dX12_workOut_72 : decode cX12_workOut 72 = .ok (.istore 6, 2) := by decide +kernel
theorem dX12_workOut_74 : decode cX12_workOut 74 = .ok (.aload_n 0, 1) := by decide +kernel
theorem dX12_workOut_75 : decode cX12_workOut 75 = .ok (.getfield 168, 3) := by decide +kernel
theorem dX12_workOut_78 : decode cX12_workOut 78 = .ok (.ifCond .ge 18, 3) := by decide +kernel
theorem dX12_workOut_81 : decode cX12_workOut 81 = .ok (.iload 7, 2) := by decide +kernel
theorem dX12_workOut_83 : decode cX12_workOut 83 = .ok (.ifCond .eq 13, 3) := by decide +kernel
theorem dX12_workOut_86 : decode cX12_workOut 86 = .ok (.iload_n 3, 1) := by decide +kernel
theorem dX12_workOut_87 : decode cX12_workOut 87 = .ok (.ifCond .ne 9, 3) := by decide +kernel
theorem dX12_workOut_90 : decode cX12_workOut 90 = .ok (.iconst 1, 1) := by decide +kernel
theorem dX12_workOut_91 : decode cX12_workOut 91 = .ok (.istore_n 3, 1) := by decide +kernel
theorem dX12_workOut_92 : decode cX12_workOut 92 = .ok (.iload 6, 2) := by decide +kernel
theorem dX12_workOut_94 : decode cX12_workOut 94 = .ok (.istore 4, 2) := by decide +kernel
theorem dX12_workOut_96 : decode cX12_workOut 96 = .ok (.aload_n 0, 1) := by decide +kernel
theorem dX12_workOut_97 : decode cX12_workOut 97 = .ok (.bipush 59, 2) := by decide +kernel
theorem dX12_workOut_99 : decode cX12_workOut 99 = .ok (.invokevirtual 178, 3) := by decide +kernel
theorem dX12_workOut_102 : decode cX12_workOut 102 = .ok (.istore 5, 2) := by decide +kernel
theorem dX12_workOut_104 : decode cX12_workOut 104 = .ok (.goto (-71), 3) := by decide +kernel
theorem dX12_workOut_107 : decode cX12_workOut 107 = .ok (.aload_n 0, 1) := by decide +kernel
theorem dX12_workOut_108 : decode cX12_workOut 108 = .ok (.getfield 168, 3) := by decide +kernel
theorem dX12_workOut_111 : decode cX12_workOut 111 = .ok (.ifCond .ge 19, 3) := by decide +kernel
theorem dX12_workOut_114 : decode cX12_workOut 114 = .ok (.aload_n 0, 1) := by decide +kernel
theorem dX12_workOut_115 : decode cX12_workOut 115 = .ok (.getfield 159, 3) := by decide +kernel
theorem dX12_workOut_118 : decode cX12_workOut 118 = .ok (.aload_n 0, 1) := by decide +kernel
theorem dX12_workOut_119 : decode cX12_workOut 119 = .ok (.getfield 162, 3) := by decide +kernel
theorem dX12_workOut_122 : decode cX12_workOut 122 = .ok (.if_icmp .ge 8, 3) := by decide +kernel
theorem dX12_workOut_125 : decode cX12_workOut 125 = .ok (.aload_n 0, 1) := by decide +kernel
theorem dX12_workOut_126 : decode cX12_workOut 126 = .ok (.invokevirtual 196, 3) := by decide +kernel
theorem dX12_workOut_129 : decode cX12_workOut 129 = .ok (.ireturn, 1) := by decide +kernel
theorem dX12_workOut_130 : decode cX12_workOut 130 = .ok (.iload 4, 2) := by decide +kernel
theorem dX12_workOut_132 : decode cX12_workOut 132 = .ok (.ireturn, 1) := by decide +kernel
theorem dX12_law_0 : decode cX12_law 0 = .ok (.aload_n 0, 1) := by decide +kernel
theorem dX12_law_1 : decode cX12_law 1 = .ok (.iconst (-1), 1) := by decide +kernel
theorem dX12_law_2 : decode cX12_law 2 = .ok (.aload_n 0, 1) := by decide +kernel
theorem dX12_law_3 : decode cX12_law 3 = .ok (.getfield 156, 3) := by decide +kernel
theorem dX12_law_6 : decode cX12_law 6 = .ok (.invokevirtual 205, 3) := by decide +kernel
theorem dX12_law_9 : decode cX12_law 9 = .ok (.istore_n 1, 1) := by decide +kernel
theorem dX12_law_10 : decode cX12_law 10 = .ok (.aload_n 0, 1) := by decide +kernel
theorem dX12_law_11 : decode cX12_law 11 = .ok (.getfield 156, 3) := by decide +kernel
theorem dX12_law_14 : decode cX12_law 14 = .ok (.istore_n 2, 1) := by decide +kernel
theorem dX12_law_15 : decode cX12_law 15 = .ok (.aload_n 0, 1) := by decide +kernel
theorem dX12_law_16 : decode cX12_law 16 = .ok (.iconst 0, 1) := by decide +kernel
theorem dX12_law_17 : decode cX12_law 17 = .ok (.putfield 156, 3) := by decide +kernel
theorem dX12_law_20 : decode cX12_law 20 = .ok (.aload_n 0, 1) := by decide +kernel
theorem dX12_law_21 : decode cX12_law 21 = .ok (.getfield 168, 3) := by decide +kernel
theorem dX12_law_24 : decode cX12_law 24 = .ok (.ifCond .lt 11, 3) := by decide +kernel
theorem dX12_law_27 : decode cX12_law 27 = .ok (.bipush (-100), 2) := by decide +kernel
theorem dX12_law_29 : decode cX12_law 29 = .ok (.aload_n 0, 1) := by decide +kernel
theorem dX12_law_30 : decode cX12_law 30 = .ok (.getfield 168, 3) := by decide +kernel
theorem dX12_law_33 : decode cX12_law 33 = .ok (.isub, 1) := by decide +kernel
theorem dX12_law_34 : decode cX12_law 34 = .ok (.ireturn, 1) := by decide +kernel
theorem dX12_law_35 : decode cX12_law 35 = .ok (.iconst 0, 1) := by decide +kernel
theorem dX12_law_36 : decode cX12_law 36 = .ok (.istore_n 3, 1) := by decide +kernel
theorem dX12_law_37 : decode cX12_law 37 = .ok (.iload_n 3, 1) := by decide +kernel
theorem dX12_law_38 : decode cX12_law 38 = .ok (.iload_n 2, 1) := by decide +kernel
theorem dX12_law_39 : decode cX12_law 39 = .ok (.if_icmp .ge 21, 3) := by decide +kernel
theorem dX12_law_42 : decode cX12_law 42 = .ok (.aload_n 0, 1) := by decide +kernel
theorem dX12_law_43 : decode cX12_law 43 = .ok (.getfield 28, 3) := by decide +kernel
theorem dX12_law_46 : decode cX12_law 46 = .ok (.iload_n 3, 1) := by decide +kernel
theorem dX12_law_47 : decode cX12_law 47 = .ok (.aload_n 0, 1) := by decide +kernel
theorem dX12_law_48 : decode cX12_law 48 = .ok (.getfield 25, 3) := by decide +kernel
theorem dX12_law_51 : decode cX12_law 51 = .ok (.iload_n 3, 1) := by decide +kernel
theorem dX12_law_52 : decode cX12_law 52 = .ok (.iaload, 1) := by decide +kernel
theorem dX12_law_53 : decode cX12_law 53 = .ok (.iastore, 1) := by decide +kernel
theorem dX12_law_54 : decode cX12_law 54 = .ok (.iinc 3 1, 3) := by decide +kernel
theorem dX12_law_57 : decode cX12_law 57 = .ok (.goto (-20), 3) := by decide +kernel
theorem dX12_law_60 : decode cX12_law 60 = .ok (.aload_n 0, 1) := by decide +kernel
theorem dX12_law_61 : decode cX12_law 61 = .ok (.iload_n 2, 1) := by decide +kernel
theorem dX12_law_62 : decode cX12_law 62 = .ok (.putfield 87, 3) := by decide +kernel
theorem dX12_law_65 : decode cX12_law 65 = .ok (.iconst 1, 1) := by decide +kernel
theorem dX12_law_66 : decode cX12_law 66 = .ok (.ireturn, 1) := by decide +kernel
theorem dX12_lossOf_0 : decode cX12_lossOf 0 = .ok (.aload_n 0, 1) := by decide +kernel
theorem dX12_lossOf_1 : decode cX12_lossOf 1 = .ok (.iload_n 1, 1) := by decide +kernel
theorem dX12_lossOf_2 : decode cX12_lossOf 2 = .ok (.iload_n 2, 1) := by decide +kernel
theorem dX12_lossOf_3 : decode cX12_lossOf 3 = .ok (.invokevirtual 208, 3) := by decide +kernel
theorem dX12_lossOf_6 : decode cX12_lossOf 6 = .ok (.istore 4, 2) := by decide +kernel
theorem dX12_lossOf_8 : decode cX12_lossOf 8 = .ok (.iload_n 3, 1) := by decide +kernel
theorem dX12_lossOf_9 : decode cX12_lossOf 9 = .ok (.iload 4, 2) := by decide +kernel
theorem dX12_lossOf_11 : decode cX12_lossOf 11 = .ok (.isub, 1) := by decide +kernel
theorem dX12_lossOf_12 : decode cX12_lossOf 12 = .ok (.invokestatic 211, 3) := by decide +kernel
theorem dX12_lossOf_15 : decode cX12_lossOf 15 = .ok (.istore 5, 2) := by decide +kernel
theorem dX12_lossOf_17 : decode cX12_lossOf 17 = .ok (.aload_n 0, 1) := by decide +kernel
theorem dX12_lossOf_18 : decode cX12_lossOf 18 = .ok (.getfield 87, 3) := by decide +kernel
theorem dX12_lossOf_21 : decode cX12_lossOf 21 = .ok (.ifCond .ge 30, 3) := by decide +kernel
theorem dX12_lossOf_24 : decode cX12_lossOf 24 = .ok (.iload 5, 2) := by decide +kernel
theorem dX12_lossOf_26 : decode cX12_lossOf 26 = .ok (.aload_n 0, 1) := by decide +kernel
theorem dX12_lossOf_27 : decode cX12_lossOf 27 = .ok (.iload_n 1, 1) := by decide +kernel
theorem dX12_lossOf_28 : decode cX12_lossOf 28 = .ok (.iload_n 3, 1) := by decide +kernel
theorem dX12_lossOf_29 : decode cX12_lossOf 29 = .ok (.iload 4, 2) := by decide +kernel
theorem dX12_lossOf_31 : decode cX12_lossOf 31 = .ok (.if_icmp .le 7, 3) := by decide +kernel
theorem dX12_lossOf_34 : decode cX12_lossOf 34 = .ok (.iconst 3, 1) := by decide +kernel
theorem dX12_lossOf_35 : decode cX12_lossOf 35 = .ok (.goto 4, 3) := by decide +kernel
theorem dX12_lossOf_38 : decode cX12_lossOf 38 = .ok (.iconst 4, 1) := by decide +kernel
theorem dX12_lossOf_39 : decode cX12_lossOf 39 = .ok (.invokevirtual 208, 3) := by decide +kernel
theorem dX12_lossOf_42 : decode cX12_lossOf 42 = .ok (.imul, 1) := by decide +kernel
theorem dX12_lossOf_43 : decode cX12_lossOf 43 = .ok (.aload_n 0, 1) := by decide +kernel
theorem dX12_lossOf_44 : decode cX12_lossOf 44 = .ok (.iload_n 1, 1) := by decide +kernel
theorem dX12_lossOf_45 : decode cX12_lossOf 45 = .ok (.iconst 5, 1) := by decide +kernel
theorem dX12_lossOf_46 : decode cX12_lossOf 46 = .ok (.invokevirtual 208, 3) := by decide +kernel
theorem dX12_lossOf_49 : decode cX12_lossOf 49 = .ok (.imul, 1) := by decide +kernel
theorem dX12_lossOf_50 : decode cX12_lossOf 50 = .ok (.ireturn, 1) := by decide +kernel
theorem dX12_lossOf_51 : decode cX12_lossOf 51 = .ok (.aload_n 0, 1) := by decide +kernel
theorem dX12_lossOf_52 : decode cX12_lossOf 52 = .ok (.getfield 31, 3) := by decide +kernel
theorem dX12_lossOf_55 : decode cX12_lossOf 55 = .ok (.iconst 0, 1) := by decide +kernel
theorem dX12_lossOf_56 : decode cX12_lossOf 56 = .ok (.iload 5, 2) := by decide +kernel
theorem dX12_lossOf_58 : decode cX12_lossOf 58 = .ok (.iastore, 1) := by decide +kernel
theorem dX12_lossOf_59 : decode cX12_lossOf 59 = .ok (.aload_n 0, 1) := by decide +kernel
theorem dX12_lossOf_60 : decode cX12_lossOf 60 = .ok (.getfield 31, 3) := by decide +kernel
theorem dX12_lossOf_63 : decode cX12_lossOf 63 = .ok (.iconst 1, 1) := by decide +kernel
theorem dX12_lossOf_64 : decode cX12_lossOf 64 = .ok (.iload_n 3, 1) := by decide +kernel
theorem dX12_lossOf_65 : decode cX12_lossOf 65 = .ok (.iload 4, 2) := by decide +kernel
theorem dX12_lossOf_67 : decode cX12_lossOf 67 = .ok (.if_icmp .le 7, 3) := by decide +kernel
theorem dX12_lossOf_70 : decode cX12_lossOf 70 = .ok (.iconst 1, 1) := by decide +kernel
theorem dX12_lossOf_71 : decode cX12_lossOf 71 = .ok (.goto 4, 3) := by decide +kernel
theorem dX12_lossOf_74 : decode cX12_lossOf 74 = .ok (.iconst 0, 1) := by decide +kernel
theorem dX12_lossOf_75 : decode cX12_lossOf 75 = .ok (.iastore, 1) := by decide +kernel
theorem dX12_lossOf_76 : decode cX12_lossOf 76 = .ok (.aload_n 0, 1) := by decide +kernel
theorem dX12_lossOf_77 : decode cX12_lossOf 77 = .ok (.getfield 31, 3) := by decide +kernel
theorem dX12_lossOf_80 : decode cX12_lossOf 80 = .ok (.iconst 2, 1) := by decide +kernel
theorem dX12_lossOf_81 : decode cX12_lossOf 81 = .ok (.iload_n 3, 1) := by decide +kernel
theorem dX12_lossOf_82 : decode cX12_lossOf 82 = .ok (.iastore, 1) := by decide +kernel
theorem dX12_lossOf_83 : decode cX12_lossOf 83 = .ok (.aload_n 0, 1) := by decide +kernel
theorem dX12_lossOf_84 : decode cX12_lossOf 84 = .ok (.getfield 31, 3) := by decide +kernel
theorem dX12_lossOf_87 : decode cX12_lossOf 87 = .ok (.iconst 3, 1) := by decide +kernel
theorem dX12_lossOf_88 : decode cX12_lossOf 88 = .ok (.iload 4, 2) := by decide +kernel
theorem dX12_lossOf_90 : decode cX12_lossOf 90 = .ok (.iastore, 1) := by decide +kernel
theorem dX12_lossOf_91 : decode cX12_lossOf 91 = .ok (.aload_n 0, 1) := by decide +kernel
theorem dX12_lossOf_92 : decode cX12_lossOf 92 = .ok (.getfield 31, 3) := by decide +kernel
theorem dX12_lossOf_95 : decode cX12_lossOf 95 = .ok (.iconst 4, 1) := by decide +kernel
theorem dX12_lossOf_96 : decode cX12_lossOf 96 = .ok (.aload_n 0, 1) := by decide +kernel
theorem dX12_lossOf_97 : decode cX12_lossOf 97 = .ok (.iload_n 1, 1) := by decide +kernel
theorem dX12_lossOf_98 : decode cX12_lossOf 98 = .ok (.iconst 5, 1) := by decide +kernel
theorem dX12_lossOf_99 : decode cX12_lossOf 99 = .ok (.invokevirtual 208, 3) := by decide +kernel
theorem dX12_lossOf_102 : decode cX12_lossOf 102 = .ok (.iastore, 1) := by decide +kernel
theorem dX12_lossOf_103 : decode cX12_lossOf 103 = .ok (.aload_n 0, 1) := by decide +kernel
theorem dX12_lossOf_104 : decode cX12_lossOf 104 = .ok (.getfield 31, 3) := by decide +kernel
theorem dX12_lossOf_107 : decode cX12_lossOf 107 = .ok (.iconst 5, 1) := by decide +kernel
theorem dX12_lossOf_108 : decode cX12_lossOf 108 = .ok (.iload_n 2, 1) := by decide +kernel
theorem dX12_lossOf_109 : decode cX12_lossOf 109 = .ok (.iastore, 1) := by decide +kernel
theorem dX12_lossOf_110 : decode cX12_lossOf 110 = .ok (.aload_n 0, 1) := by decide +kernel
theorem dX12_lossOf_111 : decode cX12_lossOf 111 = .ok (.iconst 0, 1) := by decide +kernel
theorem dX12_lossOf_112 : decode cX12_lossOf 112 = .ok (.aload_n 0, 1) := by decide +kernel
theorem dX12_lossOf_113 : decode cX12_lossOf 113 = .ok (.getfield 87, 3) := by decide +kernel
theorem dX12_lossOf_116 : decode cX12_lossOf 116 = .ok (.invokevirtual 205, 3) := by decide +kernel
theorem dX12_lossOf_119 : decode cX12_lossOf 119 = .ok (.istore 6, 2) := by decide +kernel
theorem dX12_lossOf_121 : decode cX12_lossOf 121 = .ok (.iload 6, 2) := by decide +kernel
theorem dX12_lossOf_123 : decode cX12_lossOf 123 = .ok (.ifCond .ge 7, 3) := by decide +kernel
theorem dX12_lossOf_126 : decode cX12_lossOf 126 = .ok (.iconst 0, 1) := by decide +kernel
theorem dX12_lossOf_127 : decode cX12_lossOf 127 = .ok (.goto 19, 3) := by decide +kernel
theorem dX12_lossOf_130 : decode cX12_lossOf 130 = .ok (.iload 6, 2) := by decide +kernel
theorem dX12_lossOf_132 : decode cX12_lossOf 132 = .ok (.sipush 9999, 3) := by decide +kernel
theorem dX12_lossOf_135 : decode cX12_lossOf 135 = .ok (.if_icmp .le 9, 3) := by decide +kernel
theorem dX12_lossOf_138 : decode cX12_lossOf 138 = .ok (.sipush 9999, 3) := by decide +kernel
theorem dX12_lossOf_141 : decode cX12_lossOf 141 = .ok (.goto 5, 3) := by decide +kernel
theorem dX12_lossOf_144 : decode cX12_lossOf 144 = .ok (.iload 6, 2) := by decide +kernel
theorem dX12_lossOf_146 : decode cX12_lossOf 146 = .ok (.ireturn, 1) := by decide +kernel
theorem dX12_loss_0 : decode cX12_loss 0 = .ok (.aload_n 0, 1) := by decide +kernel
theorem dX12_loss_1 : decode cX12_loss 1 = .ok (.iload_n 1, 1) := by decide +kernel
theorem dX12_loss_2 : decode cX12_loss 2 = .ok (.i2l, 1) := by decide +kernel
theorem dX12_loss_3 : decode cX12_loss 3 = .ok (.invokevirtual 135, 3) := by decide +kernel
theorem dX12_loss_6 : decode cX12_loss 6 = .ok (.ifCond .eq 28, 3) := by decide +kernel
theorem dX12_loss_9 : decode cX12_loss 9 = .ok (.iload_n 2, 1) := by decide +kernel
theorem dX12_loss_10 : decode cX12_loss 10 = .ok (.invokestatic 140, 3) := by decide +kernel
theorem dX12_loss_13 : decode cX12_loss 13 = .ok (.ifCond .eq 21, 3) := by decide +kernel
theorem dX12_loss_16 : decode cX12_loss 16 = .ok (.iload_n 3, 1) := by decide +kernel
theorem dX12_loss_17 : decode cX12_loss 17 = .ok (.i2l, 1) := by decide +kernel
theorem dX12_loss_18 : decode cX12_loss 18 = .ok (.invokestatic 117, 3) := by decide +kernel
theorem dX12_loss_21 : decode cX12_loss 21 = .ok (.ifCond .eq 13, 3) := by decide +kernel
theorem dX12_loss_24 : decode cX12_loss 24 = .ok (.aload_n 0, 1) := by decide +kernel
theorem dX12_loss_25 : decode cX12_loss 25 = .ok (.iload_n 1, 1) := by decide +kernel
theorem dX12_loss_26 : decode cX12_loss 26 = .ok (.iload_n 2, 1) := by decide +kernel
theorem dX12_loss_27 : decode cX12_loss 27 = .ok (.iload_n 3, 1) := by decide +kernel
theorem dX12_loss_28 : decode cX12_loss 28 = .ok (.invokevirtual 214, 3) := by decide +kernel
theorem dX12_loss_31 : decode cX12_loss 31 = .ok (.goto 4, 3) := by decide +kernel
theorem dX12_loss_34 : decode cX12_loss 34 = .ok (.iconst (-1), 1) := by decide +kernel
theorem dX12_loss_35 : decode cX12_loss 35 = .ok (.ireturn, 1) := by decide +kernel
theorem dX12_bytesIs_0 : decode cX12_bytesIs 0 = .ok (.iload_n 1, 1) := by decide +kernel
theorem dX12_bytesIs_1 : decode cX12_bytesIs 1 = .ok (.invokestatic 127, 3) := by decide +kernel
theorem dX12_bytesIs_4 : decode cX12_bytesIs 4 = .ok (.ifCond .ne 7, 3) := by decide +kernel
theorem dX12_bytesIs_7 : decode cX12_bytesIs 7 = .ok (.iconst (-1), 1) := by decide +kernel
theorem dX12_bytesIs_8 : decode cX12_bytesIs 8 = .ok (.goto 34, 3) := by decide +kernel
theorem dX12_bytesIs_11 : decode cX12_bytesIs 11 = .ok (.aload_n 0, 1) := by decide +kernel
theorem dX12_bytesIs_12 : decode cX12_bytesIs 12 = .ok (.getfield 74, 3) := by decide +kernel
theorem dX12_bytesIs_15 : decode cX12_bytesIs 15 = .ok (.iload_n 1, 1) := by decide +kernel
theorem dX12_bytesIs_16 : decode cX12_bytesIs 16 = .ok (.iaload, 1) := by decide +kernel
theorem dX12_bytesIs_17 : decode cX12_bytesIs 17 = .ok (.ifCond .ge 8, 3) := by decide +kernel
theorem dX12_bytesIs_20 : decode cX12_bytesIs 20 = .ok (.bipush (-11), 2) := by decide +kernel
theorem dX12_bytesIs_22 : decode cX12_bytesIs 22 = .ok (.goto 20, 3) := by decide +kernel
theorem dX12_bytesIs_25 : decode cX12_bytesIs 25 = .ok (.aload_n 0, 1) := by decide +kernel
theorem dX12_bytesIs_26 : decode cX12_bytesIs 26 = .ok (.getfield 74, 3) := by decide +kernel
theorem dX12_bytesIs_29 : decode cX12_bytesIs 29 = .ok (.iload_n 1, 1) := by decide +kernel
theorem dX12_bytesIs_30 : decode cX12_bytesIs 30 = .ok (.iaload, 1) := by decide +kernel
theorem dX12_bytesIs_31 : decode cX12_bytesIs 31 = .ok (.bipush 50, 2) := by decide +kernel
theorem dX12_bytesIs_33 : decode cX12_bytesIs 33 = .ok (.if_icmp .ne 7, 3) := by decide +kernel
theorem dX12_bytesIs_36 : decode cX12_bytesIs 36 = .ok (.iconst 1, 1) := by decide +kernel
theorem dX12_bytesIs_37 : decode cX12_bytesIs 37 = .ok (.goto 5, 3) := by decide +kernel
theorem dX12_bytesIs_40 : decode cX12_bytesIs 40 = .ok (.bipush (-12), 2) := by decide +kernel
theorem dX12_bytesIs_42 : decode cX12_bytesIs 42 = .ok (.ireturn, 1) := by decide +kernel
theorem dX12_shiftsOf_0 : decode cX12_shiftsOf 0 = .ok (.aload_n 0, 1) := by decide +kernel
theorem dX12_shiftsOf_1 : decode cX12_shiftsOf 1 = .ok (.getfield 77, 3) := by decide +kernel
theorem dX12_shiftsOf_4 : decode cX12_shiftsOf 4 = .ok (.iload_n 1, 1) := by decide +kernel
theorem dX12_shiftsOf_5 : decode cX12_shiftsOf 5 = .ok (.iaload, 1) := by decide +kernel
theorem dX12_shiftsOf_6 : decode cX12_shiftsOf 6 = .ok (.bipush 21, 2) := by decide +kernel
theorem dX12_shiftsOf_8 : decode cX12_shiftsOf 8 = .ok (.if_icmp .ge 12, 3) := by decide +kernel
theorem dX12_shiftsOf_11 : decode cX12_shiftsOf 11 = .ok (.aload_n 0, 1) := by decide +kernel
theorem dX12_shiftsOf_12 : decode cX12_shiftsOf 12 = .ok (.getfield 77, 3) := by decide +kernel
theorem dX12_shiftsOf_15 : decode cX12_shiftsOf 15 = .ok (.iload_n 1, 1) := by decide +kernel
theorem dX12_shiftsOf_16 : decode cX12_shiftsOf 16 = .ok (.iaload, 1) := by decide +kernel
theorem dX12_shiftsOf_17 : decode cX12_shiftsOf 17 = .ok (.goto 5, 3) := by decide +kernel
theorem dX12_shiftsOf_20 : decode cX12_shiftsOf 20 = .ok (.bipush 21, 2) := by decide +kernel
theorem dX12_shiftsOf_22 : decode cX12_shiftsOf 22 = .ok (.ireturn, 1) := by decide +kernel
theorem dX12_whoSits_0 : decode cX12_whoSits 0 = .ok (.aload_n 0, 1) := by decide +kernel
theorem dX12_whoSits_1 : decode cX12_whoSits 1 = .ok (.getfield 80, 3) := by decide +kernel
theorem dX12_whoSits_4 : decode cX12_whoSits 4 = .ok (.bipush 60, 2) := by decide +kernel
theorem dX12_whoSits_6 : decode cX12_whoSits 6 = .ok (.iload_n 1, 1) := by decide +kernel
theorem dX12_whoSits_7 : decode cX12_whoSits 7 = .ok (.imul, 1) := by decide +kernel
theorem dX12_whoSits_8 : decode cX12_whoSits 8 = .ok (.iload_n 2, 1) := by decide +kernel
theorem dX12_whoSits_9 : decode cX12_whoSits 9 = .ok (.iadd, 1) := by decide +kernel
theorem dX12_whoSits_10 : decode cX12_whoSits 10 = .ok (.laload, 1) := by decide +kernel
theorem dX12_whoSits_11 : decode cX12_whoSits 11 = .ok (.lstore_n 3, 1) := by decide +kernel
theorem dX12_whoSits_12 : decode cX12_whoSits 12 = .ok (.aload_n 0, 1) := by decide +kernel
theorem dX12_whoSits_13 : decode cX12_whoSits 13 = .ok (.lload_n 3, 1) := by decide +kernel
theorem dX12_whoSits_14 : decode cX12_whoSits 14 = .ok (.invokevirtual 135, 3) := by decide +kernel
theorem dX12_whoSits_17 : decode cX12_whoSits 17 = .ok (.ifCond .eq 8, 3) := by decide +kernel
theorem dX12_whoSits_20 : decode cX12_whoSits 20 = .ok (.lload_n 3, 1) := by decide +kernel
theorem dX12_whoSits_21 : decode cX12_whoSits 21 = .ok (.l2i, 1) := by decide +kernel
theorem dX12_whoSits_22 : decode cX12_whoSits 22 = .ok (.goto 4, 3) := by decide +kernel
theorem dX12_whoSits_25 : decode cX12_whoSits 25 = .ok (.iconst (-1), 1) := by decide +kernel
theorem dX12_whoSits_26 : decode cX12_whoSits 26 = .ok (.ireturn, 1) := by decide +kernel
theorem dX12_anySits_0 : decode cX12_anySits 0 = .ok (.iconst 0, 1) := by decide +kernel
theorem dX12_anySits_1 : decode cX12_anySits 1 = .ok (.istore_n 2, 1) := by decide +kernel
theorem dX12_anySits_2 : decode cX12_anySits 2 = .ok (.iload_n 2, 1) := by decide +kernel
theorem dX12_anySits_3 : decode cX12_anySits 3 = .ok (.aload_n 0, 1) := by decide +kernel
theorem dX12_anySits_4 : decode cX12_anySits 4 = .ok (.iload_n 1, 1) := by decide +kernel
theorem dX12_anySits_5 : decode cX12_anySits 5 = .ok (.invokevirtual 218, 3) := by decide +kernel
theorem dX12_anySits_8 : decode cX12_anySits 8 = .ok (.if_icmp .ge 20, 3) := by decide +kernel
theorem dX12_anySits_11 : decode cX12_anySits 11 = .ok (.aload_n 0, 1) := by decide +kernel
theorem dX12_anySits_12 : decode cX12_anySits 12 = .ok (.iload_n 1, 1) := by decide +kernel
theorem dX12_anySits_13 : decode cX12_anySits 13 = .ok (.iload_n 2, 1) := by decide +kernel
theorem dX12_anySits_14 : decode cX12_anySits 14 = .ok (.invokevirtual 221, 3) := by decide +kernel
theorem dX12_anySits_17 : decode cX12_anySits 17 = .ok (.ifCond .lt 5, 3) := by decide +kernel
theorem dX12_anySits_20 : decode cX12_anySits 20 = .ok (.iconst 1, 1) := by decide +kernel
theorem dX12_anySits_21 : decode cX12_anySits 21 = .ok (.ireturn, 1) := by decide +kernel
theorem dX12_anySits_22 : decode cX12_anySits 22 = .ok (.iinc 2 1, 3) := by decide +kernel
theorem dX12_anySits_25 : decode cX12_anySits 25 = .ok (.goto (-23), 3) := by decide +kernel
theorem dX12_anySits_28 : decode cX12_anySits 28 = .ok (.iconst 0, 1) := by decide +kernel
theorem dX12_anySits_29 : decode cX12_anySits 29 = .ok (.ireturn, 1) := by decide +kernel
theorem dX12_neverOf_0 : decode cX12_neverOf 0 = .ok (.iconst 0, 1) := by decide +kernel
theorem dX12_neverOf_1 : decode cX12_neverOf 1 = .ok (.istore 4, 2) := by decide +kernel
theorem dX12_neverOf_3 : decode cX12_neverOf 3 = .ok (.iconst 0, 1) := by decide +kernel
theorem dX12_neverOf_4 : decode cX12_neverOf 4 = .ok (.istore 5, 2) := by decide +kernel
theorem dX12_neverOf_6 : decode cX12_neverOf 6 = .ok (.iload 5, 2) := by decide +kernel
theorem dX12_neverOf_8 : decode cX12_neverOf 8 = .ok (.aload_n 0, 1) := by decide +kernel
theorem dX12_neverOf_9 : decode cX12_neverOf 9 = .ok (.iload_n 1, 1) := by decide +kernel
theorem dX12_neverOf_10 : decode cX12_neverOf 10 = .ok (.invokevirtual 218, 3) := by decide +kernel
theorem dX12_neverOf_13 : decode cX12_neverOf 13 = .ok (.if_icmp .ge 41, 3) := by decide +kernel
theorem dX12_neverOf_16 : decode cX12_neverOf 16 = .ok (.iload 4, 2) := by decide +kernel
theorem dX12_neverOf_18 : decode cX12_neverOf 18 = .ok (.aload_n 0, 1) := by decide +kernel
theorem dX12_neverOf_19 : decode cX12_neverOf 19 = .ok (.iload_n 1, 1) := by decide +kernel
theorem dX12_neverOf_20 : decode cX12_neverOf 20 = .ok (.iload 5, 2) := by decide +kernel
theorem dX12_neverOf_22 : decode cX12_neverOf 22 = .ok (.invokevirtual 221, 3) := by decide +kernel
theorem dX12_neverOf_25 : decode cX12_neverOf 25 = .ok (.ifCond .lt 19, 3) := by decide +kernel
theorem dX12_neverOf_28 : decode cX12_neverOf 28 = .ok (.aload_n 0, 1) := by decide +kernel
theorem dX12_neverOf_29 : decode cX12_neverOf 29 = .ok (.aload_n 0, 1) := by decide +kernel
theorem dX12_neverOf_30 : decode cX12_neverOf 30 = .ok (.iload_n 1, 1) := by decide +kernel
theorem dX12_neverOf_31 : decode cX12_neverOf 31 = .ok (.iload 5, 2) := by decide +kernel
theorem dX12_neverOf_33 : decode cX12_neverOf 33 = .ok (.invokevirtual 221, 3) := by decide +kernel
theorem dX12_neverOf_36 : decode cX12_neverOf 36 = .ok (.iload_n 2, 1) := by decide +kernel
theorem dX12_neverOf_37 : decode cX12_neverOf 37 = .ok (.iload_n 3, 1) := by decide +kernel
theorem dX12_neverOf_38 : decode cX12_neverOf 38 = .ok (.invokevirtual 214, 3) := by decide +kernel
theorem dX12_neverOf_41 : decode cX12_neverOf 41 = .ok (.goto 4, 3) := by decide +kernel
theorem dX12_neverOf_44 : decode cX12_neverOf 44 = .ok (.iconst 0, 1) := by decide +kernel
theorem dX12_neverOf_45 : decode cX12_neverOf 45 = .ok (.iadd, 1) := by decide +kernel
theorem dX12_neverOf_46 : decode cX12_neverOf 46 = .ok (.istore 4, 2) := by decide +kernel
theorem dX12_neverOf_48 : decode cX12_neverOf 48 = .ok (.iinc 5 1, 3) := by decide +kernel
theorem dX12_neverOf_51 : decode cX12_neverOf 51 = .ok (.goto (-45), 3) := by decide +kernel
theorem dX12_neverOf_54 : decode cX12_neverOf 54 = .ok (.iload 4, 2) := by decide +kernel
theorem dX12_neverOf_56 : decode cX12_neverOf 56 = .ok (.ireturn, 1) := by decide +kernel
theorem dX12_worstOf_0 : decode cX12_worstOf 0 = .ok (.iconst 0, 1) := by decide +kernel
theorem dX12_worstOf_1 : decode cX12_worstOf 1 = .ok (.istore 4, 2) := by decide +kernel
theorem dX12_worstOf_3 : decode cX12_worstOf 3 = .ok (.iconst 0, 1) := by decide +kernel
theorem dX12_worstOf_4 : decode cX12_worstOf 4 = .ok (.istore 5, 2) := by decide +kernel
theorem dX12_worstOf_6 : decode cX12_worstOf 6 = .ok (.iload 5, 2) := by decide +kernel
theorem dX12_worstOf_8 : decode cX12_worstOf 8 = .ok (.aload_n 0, 1) := by decide +kernel
theorem dX12_worstOf_9 : decode cX12_worstOf 9 = .ok (.iload_n 1, 1) := by decide +kernel
theorem dX12_worstOf_10 : decode cX12_worstOf 10 = .ok (.invokevirtual 218, 3) := by decide +kernel
theorem dX12_worstOf_13 : decode cX12_worstOf 13 = .ok (.if_icmp .ge 54, 3) := by decide +kernel
theorem dX12_worstOf_16 : decode cX12_worstOf 16 = .ok (.aload_n 0, 1) := by decide +kernel
theorem dX12_worstOf_17 : decode cX12_worstOf 17 = .ok (.iload_n 1, 1) := by decide +kernel
theorem dX12_worstOf_18 : decode cX12_worstOf 18 = .ok (.iload 5, 2) := by decide +kernel
theorem dX12_worstOf_20 : decode cX12_worstOf 20 = .ok (.invokevirtual 221, 3) := by decide +kernel
theorem dX12_worstOf_23 : decode cX12_worstOf 23 = .ok (.ifCond .lt 19, 3) := by decide +kernel
theorem dX12_worstOf_26 : decode cX12_worstOf 26 = .ok (.aload_n 0, 1) := by decide +kernel
theorem dX12_worstOf_27 : decode cX12_worstOf 27 = .ok (.aload_n 0, 1) := by decide +kernel
theorem dX12_worstOf_28 : decode cX12_worstOf 28 = .ok (.iload_n 1, 1) := by decide +kernel
theorem dX12_worstOf_29 : decode cX12_worstOf 29 = .ok (.iload 5, 2) := by decide +kernel
theorem dX12_worstOf_31 : decode cX12_worstOf 31 = .ok (.invokevirtual 221, 3) := by decide +kernel
theorem dX12_worstOf_34 : decode cX12_worstOf 34 = .ok (.iload_n 2, 1) := by decide +kernel
theorem dX12_worstOf_35 : decode cX12_worstOf 35 = .ok (.iload_n 3, 1) := by decide +kernel
theorem dX12_worstOf_36 : decode cX12_worstOf 36 = .ok (.invokevirtual 214, 3) := by decide +kernel
theorem dX12_worstOf_39 : decode cX12_worstOf 39 = .ok (.goto 4, 3) := by decide +kernel
theorem dX12_worstOf_42 : decode cX12_worstOf 42 = .ok (.iconst 0, 1) := by decide +kernel
theorem dX12_worstOf_43 : decode cX12_worstOf 43 = .ok (.istore 6, 2) := by decide +kernel
theorem dX12_worstOf_45 : decode cX12_worstOf 45 = .ok (.iload 6, 2) := by decide +kernel
theorem dX12_worstOf_47 : decode cX12_worstOf 47 = .ok (.iload 4, 2) := by decide +kernel
theorem dX12_worstOf_49 : decode cX12_worstOf 49 = .ok (.if_icmp .le 8, 3) := by decide +kernel
theorem dX12_worstOf_52 : decode cX12_worstOf 52 = .ok (.iload 6, 2) := by decide +kernel
theorem dX12_worstOf_54 : decode cX12_worstOf 54 = .ok (.goto 5, 3) := by decide +kernel
theorem dX12_worstOf_57 : decode cX12_worstOf 57 = .ok (.iload 4, 2) := by decide +kernel
theorem dX12_worstOf_59 : decode cX12_worstOf 59 = .ok (.istore 4, 2) := by decide +kernel
theorem dX12_worstOf_61 : decode cX12_worstOf 61 = .ok (.iinc 5 1, 3) := by decide +kernel
theorem dX12_worstOf_64 : decode cX12_worstOf 64 = .ok (.goto (-58), 3) := by decide +kernel
theorem dX12_worstOf_67 : decode cX12_worstOf 67 = .ok (.iload 4, 2) := by decide +kernel
theorem dX12_worstOf_69 : decode cX12_worstOf 69 = .ok (.ireturn, 1) := by decide +kernel
theorem dX12_never_0 : decode cX12_never 0 = .ok (.aload_n 0, 1) := by decide +kernel
theorem dX12_never_1 : decode cX12_never 1 = .ok (.iload_n 1, 1) := by decide +kernel
theorem dX12_never_2 : decode cX12_never 2 = .ok (.invokevirtual 224, 3) := by decide +kernel
theorem dX12_never_5 : decode cX12_never 5 = .ok (.iconst (-1), 1) := by decide +kernel
theorem dX12_never_6 : decode cX12_never 6 = .ok (.if_icmp .eq 18, 3) := by decide +kernel
theorem dX12_never_9 : decode cX12_never 9 = .ok (.iload_n 2, 1) := by decide +kernel
theorem dX12_never_10 : decode cX12_never 10 = .ok (.invokestatic 140, 3) := by decide +kernel
theorem dX12_never_13 : decode cX12_never 13 = .ok (.ifCond .eq 11, 3) := by decide +kernel
theorem dX12_never_16 : decode cX12_never 16 = .ok (.iload_n 3, 1) := by decide +kernel
theorem dX12_never_17 : decode cX12_never 17 = .ok (.i2l, 1) := by decide +kernel
theorem dX12_never_18 : decode cX12_never 18 = .ok (.invokestatic 117, 3) := by decide +kernel
theorem dX12_never_21 : decode cX12_never 21 = .ok (.ifCond .ne 5, 3) := by decide +kernel
theorem dX12_never_24 : decode cX12_never 24 = .ok (.iconst (-1), 1) := by decide +kernel
theorem dX12_never_25 : decode cX12_never 25 = .ok (.ireturn, 1) := by decide +kernel
theorem dX12_never_26 : decode cX12_never 26 = .ok (.aload_n 0, 1) := by decide +kernel
theorem dX12_never_27 : decode cX12_never 27 = .ok (.iload_n 1, 1) := by decide +kernel
theorem dX12_never_28 : decode cX12_never 28 = .ok (.invokevirtual 224, 3) := by decide +kernel
theorem dX12_never_31 : decode cX12_never 31 = .ok (.ifCond .ge 11, 3) := by decide +kernel
theorem dX12_never_34 : decode cX12_never 34 = .ok (.aload_n 0, 1) := by decide +kernel
theorem dX12_never_35 : decode cX12_never 35 = .ok (.iload_n 1, 1) := by decide +kernel
theorem dX12_never_36 : decode cX12_never 36 = .ok (.invokevirtual 224, 3) := by decide +kernel
theorem dX12_never_39 : decode cX12_never 39 = .ok (.goto 10, 3) := by decide +kernel
theorem dX12_never_42 : decode cX12_never 42 = .ok (.aload_n 0, 1) := by decide +kernel
theorem dX12_never_43 : decode cX12_never 43 = .ok (.iload_n 1, 1) := by decide +kernel
theorem dX12_never_44 : decode cX12_never 44 = .ok (.iload_n 2, 1) := by decide +kernel
theorem dX12_never_45 : decode cX12_never 45 = .ok (.iload_n 3, 1) := by decide +kernel
theorem dX12_never_46 : decode cX12_never 46 = .ok (.invokevirtual 227, 3) := by decide +kernel
theorem dX12_never_49 : decode cX12_never 49 = .ok (.ireturn, 1) := by decide +kernel
theorem dX12_best_0 : decode cX12_best 0 = .ok (.aload_n 0, 1) := by decide +kernel
theorem dX12_best_1 : decode cX12_best 1 = .ok (.iload_n 1, 1) := by decide +kernel
theorem dX12_best_2 : decode cX12_best 2 = .ok (.invokevirtual 224, 3) := by decide +kernel
theorem dX12_best_5 : decode cX12_best 5 = .ok (.iconst (-1), 1) := by decide +kernel
theorem dX12_best_6 : decode cX12_best 6 = .ok (.if_icmp .eq 22, 3) := by decide +kernel
theorem dX12_best_9 : decode cX12_best 9 = .ok (.iload_n 2, 1) := by decide +kernel
theorem dX12_best_10 : decode cX12_best 10 = .ok (.invokestatic 140, 3) := by decide +kernel
theorem dX12_best_13 : decode cX12_best 13 = .ok (.ifCond .eq 15, 3) := by decide +kernel
theorem dX12_best_16 : decode cX12_best 16 = .ok (.iload_n 3, 1) := by decide +kernel
theorem dX12_best_17 : decode cX12_best 17 = .ok (.i2l, 1) := by decide +kernel
theorem dX12_best_18 : decode cX12_best 18 = .ok (.lconst 0, 1) := by decide +kernel
theorem dX12_best_19 : decode cX12_best 19 = .ok (.ldc2_w 230, 3) := by decide +kernel
theorem dX12_best_22 : decode cX12_best 22 = .ok (.invokestatic 109, 3) := by decide +kernel
theorem dX12_best_25 : decode cX12_best 25 = .ok (.ifCond .ne 5, 3) := by decide +kernel
theorem dX12_best_28 : decode cX12_best 28 = .ok (.iconst (-1), 1) := by decide +kernel
theorem dX12_best_29 : decode cX12_best 29 = .ok (.ireturn, 1) := by decide +kernel
theorem dX12_best_30 : decode cX12_best 30 = .ok (.aload_n 0, 1) := by decide +kernel
theorem dX12_best_31 : decode cX12_best 31 = .ok (.iload_n 1, 1) := by decide +kernel
theorem dX12_best_32 : decode cX12_best 32 = .ok (.invokevirtual 224, 3) := by decide +kernel
theorem dX12_best_35 : decode cX12_best 35 = .ok (.ifCond .ge 9, 3) := by decide +kernel
theorem dX12_best_38 : decode cX12_best 38 = .ok (.aload_n 0, 1) := by decide +kernel
theorem dX12_best_39 : decode cX12_best 39 = .ok (.iload_n 1, 1) := by decide +kernel
theorem dX12_best_40 : decode cX12_best 40 = .ok (.invokevirtual 224, 3) := by decide +kernel
theorem dX12_best_43 : decode cX12_best 43 = .ok (.ireturn, 1) := by decide +kernel
theorem dX12_best_44 : decode cX12_best 44 = .ok (.aload_n 0, 1) := by decide +kernel
theorem dX12_best_45 : decode cX12_best 45 = .ok (.iload_n 1, 1) := by decide +kernel
theorem dX12_best_46 : decode cX12_best 46 = .ok (.invokevirtual 232, 3) := by decide +kernel
theorem dX12_best_49 : decode cX12_best 49 = .ok (.ifCond .ne 6, 3) := by decide +kernel
theorem dX12_best_52 : decode cX12_best 52 = .ok (.bipush (-2), 2) := by decide +kernel
theorem dX12_best_54 : decode cX12_best 54 = .ok (.ireturn, 1) := by decide +kernel
theorem dX12_best_55 : decode cX12_best 55 = .ok (.iconst (-1), 1) := by decide +kernel
theorem dX12_best_56 : decode cX12_best 56 = .ok (.istore 4, 2) := by decide +kernel
theorem dX12_best_58 : decode cX12_best 58 = .ok (.iconst 0, 1) := by decide +kernel
theorem dX12_best_59 : decode cX12_best 59 = .ok (.istore 5, 2) := by decide +kernel
theorem dX12_best_61 : decode cX12_best 61 = .ok (.iconst 0, 1) := by decide +kernel
theorem dX12_best_62 : decode cX12_best 62 = .ok (.istore 6, 2) := by decide +kernel
theorem dX12_best_64 : decode cX12_best 64 = .ok (.iload 6, 2) := by decide +kernel
theorem dX12_best_66 : decode cX12_best 66 = .ok (.bipush 61, 2) := by decide +kernel
theorem dX12_best_68 : decode cX12_best 68 = .ok (.if_icmp .ge 55, 3) := by decide +kernel
theorem dX12_best_71 : decode cX12_best 71 = .ok (.iload_n 3, 1) := by decide +kernel
theorem dX12_best_72 : decode cX12_best 72 = .ok (.iconst 2, 1) := by decide +kernel
theorem dX12_best_73 : decode cX12_best 73 = .ok (.if_icmp .ge 14, 3) := by decide +kernel
theorem dX12_best_76 : decode cX12_best 76 = .ok (.aload_n 0, 1) := by decide +kernel
theorem dX12_best_77 : decode cX12_best 77 = .ok (.iload_n 1, 1) := by decide +kernel
theorem dX12_best_78 : decode cX12_best 78 = .ok (.iload_n 2, 1) := by decide +kernel
theorem dX12_best_79 : decode cX12_best 79 = .ok (.iload 6, 2) := by decide +kernel
theorem dX12_best_81 : decode cX12_best 81 = .ok (.invokevirtual 227, 3) := by decide +kernel
theorem dX12_best_84 : decode cX12_best 84 = .ok (.goto 11, 3) := by decide +kernel
theorem dX12_best_87 : decode cX12_best 87 = .ok (.aload_n 0, 1) := by decide +kernel
theorem dX12_best_88 : decode cX12_best 88 = .ok (.iload_n 1, 1) := by decide +kernel
theorem dX12_best_89 : decode cX12_best 89 = .ok (.iload_n 2, 1) := by decide +kernel
theorem dX12_best_90 : decode cX12_best 90 = .ok (.iload 6, 2) := by decide +kernel
theorem dX12_best_92 : decode cX12_best 92 = .ok (.invokevirtual 235, 3) := by decide +kernel
theorem dX12_best_95 : decode cX12_best 95 = .ok (.istore 7, 2) := by decide +kernel
theorem dX12_best_97 : decode cX12_best 97 = .ok (.iload 4, 2) := by decide +kernel
theorem dX12_best_99 : decode cX12_best 99 = .ok (.ifCond .lt 10, 3) := by decide +kernel
theorem dX12_best_102 : decode cX12_best 102 = .ok (.iload 7, 2) := by decide +kernel
theorem dX12_best_104 : decode cX12_best 104 = .ok (.iload 5, 2) := by decide +kernel
theorem dX12_best_106 : decode cX12_best 106 = .ok (.if_icmp .ge 11, 3) := by decide +kernel
theorem dX12_best_109 : decode cX12_best 109 = .ok (.iload 6, 2) := by decide +kernel
theorem dX12_best_111 : decode cX12_best 111 = .ok (.istore 4, 2) := by decide +kernel
theorem dX12_best_113 : decode cX12_best 113 = .ok (.iload 7, 2) := by decide +kernel
theorem dX12_best_115 : decode cX12_best 115 = .ok (.istore 5, 2) := by decide +kernel
theorem dX12_best_117 : decode cX12_best 117 = .ok (.iinc 6 1, 3) := by decide +kernel
theorem dX12_best_120 : decode cX12_best 120 = .ok (.goto (-56), 3) := by decide +kernel
theorem dX12_best_123 : decode cX12_best 123 = .ok (.iload_n 3, 1) := by decide +kernel
theorem dX12_best_124 : decode cX12_best 124 = .ok (.iconst 2, 1) := by decide +kernel
theorem dX12_best_125 : decode cX12_best 125 = .ok (.irem, 1) := by decide +kernel
theorem dX12_best_126 : decode cX12_best 126 = .ok (.ifCond .ne 8, 3) := by decide +kernel
theorem dX12_best_129 : decode cX12_best 129 = .ok (.iload 4, 2) := by decide +kernel
theorem dX12_best_131 : decode cX12_best 131 = .ok (.goto 5, 3) := by decide +kernel
theorem dX12_best_134 : decode cX12_best 134 = .ok (.iload 5, 2) := by decide +kernel
theorem dX12_best_136 : decode cX12_best 136 = .ok (.ireturn, 1) := by decide +kernel
theorem dX12_weightOf_0 : decode cX12_weightOf 0 = .ok (.aload_n 0, 1) := by decide +kernel
theorem dX12_weightOf_1 : decode cX12_weightOf 1 = .ok (.iload_n 1, 1) := by decide +kernel
theorem dX12_weightOf_2 : decode cX12_weightOf 2 = .ok (.iconst 5, 1) := by decide +kernel
theorem dX12_weightOf_3 : decode cX12_weightOf 3 = .ok (.invokevirtual 208, 3) := by decide +kernel
theorem dX12_weightOf_6 : decode cX12_weightOf 6 = .ok (.aload_n 0, 1) := by decide +kernel
theorem dX12_weightOf_7 : decode cX12_weightOf 7 = .ok (.iload_n 1, 1) := by decide +kernel
theorem dX12_weightOf_8 : decode cX12_weightOf 8 = .ok (.iconst 3, 1) := by decide +kernel
theorem dX12_weightOf_9 : decode cX12_weightOf 9 = .ok (.invokevirtual 208, 3) := by decide +kernel
theorem dX12_weightOf_12 : decode cX12_weightOf 12 = .ok (.aload_n 0, 1) := by decide +kernel
theorem dX12_weightOf_13 : decode cX12_weightOf 13 = .ok (.iload_n 1, 1) := by decide +kernel
theorem dX12_weightOf_14 : decode cX12_weightOf 14 = .ok (.iconst 4, 1) := by decide +kernel
theorem dX12_weightOf_15 : decode cX12_weightOf 15 = .ok (.invokevirtual 208, 3) := by decide +kernel
theorem dX12_weightOf_18 : decode cX12_weightOf 18 = .ok (.iadd, 1) := by decide +kernel
theorem dX12_weightOf_19 : decode cX12_weightOf 19 = .ok (.imul, 1) := by decide +kernel
theorem dX12_weightOf_20 : decode cX12_weightOf 20 = .ok (.ireturn, 1) := by decide +kernel
theorem dX12_weightTo_0 : decode cX12_weightTo 0 = .ok (.iconst 0, 1) := by decide +kernel
theorem dX12_weightTo_1 : decode cX12_weightTo 1 = .ok (.istore 4, 2) := by decide +kernel
theorem dX12_weightTo_3 : decode cX12_weightTo 3 = .ok (.iconst 0, 1) := by decide +kernel
theorem dX12_weightTo_4 : decode cX12_weightTo 4 = .ok (.istore 5, 2) := by decide +kernel
theorem dX12_weightTo_6 : decode cX12_weightTo 6 = .ok (.iload 5, 2) := by decide +kernel
theorem dX12_weightTo_8 : decode cX12_weightTo 8 = .ok (.aload_n 0, 1) := by decide +kernel
theorem dX12_weightTo_9 : decode cX12_weightTo 9 = .ok (.iload_n 1, 1) := by decide +kernel
theorem dX12_weightTo_10 : decode cX12_weightTo 10 = .ok (.invokevirtual 218, 3) := by decide +kernel
theorem dX12_weightTo_13 : decode cX12_weightTo 13 = .ok (.if_icmp .ge 49, 3) := by decide +kernel
theorem dX12_weightTo_16 : decode cX12_weightTo 16 = .ok (.aload_n 0, 1) := by decide +kernel
theorem dX12_weightTo_17 : decode cX12_weightTo 17 = .ok (.iload_n 1, 1) := by decide +kernel
theorem dX12_weightTo_18 : decode cX12_weightTo 18 = .ok (.iload 5, 2) := by decide +kernel
theorem dX12_weightTo_20 : decode cX12_weightTo 20 = .ok (.invokevirtual 221, 3) := by decide +kernel
theorem dX12_weightTo_23 : decode cX12_weightTo 23 = .ok (.istore 6, 2) := by decide +kernel
theorem dX12_weightTo_25 : decode cX12_weightTo 25 = .ok (.iload 4, 2) := by decide +kernel
theorem dX12_weightTo_27 : decode cX12_weightTo 27 = .ok (.iload 6, 2) := by decide +kernel
theorem dX12_weightTo_29 : decode cX12_weightTo 29 = .ok (.ifCond .lt 23, 3) := by decide +kernel
theorem dX12_weightTo_32 : decode cX12_weightTo 32 = .ok (.aload_n 0, 1) := by decide +kernel
theorem dX12_weightTo_33 : decode cX12_weightTo 33 = .ok (.iload 6, 2) := by decide +kernel
theorem dX12_weightTo_35 : decode cX12_weightTo 35 = .ok (.iload_n 2, 1) := by decide +kernel
theorem dX12_weightTo_36 : decode cX12_weightTo 36 = .ok (.invokevirtual 208, 3) := by decide +kernel
theorem dX12_weightTo_39 : decode cX12_weightTo 39 = .ok (.iload_n 3, 1) := by decide +kernel
theorem dX12_weightTo_40 : decode cX12_weightTo 40 = .ok (.if_icmp .gt 12, 3) := by decide +kernel
theorem dX12_weightTo_43 : decode cX12_weightTo 43 = .ok (.aload_n 0, 1) := by decide +kernel
theorem dX12_weightTo_44 : decode cX12_weightTo 44 = .ok (.iload 6, 2) := by decide +kernel
theorem dX12_weightTo_46 : decode cX12_weightTo 46 = .ok (.invokevirtual 238, 3) := by decide +kernel
theorem dX12_weightTo_49 : decode cX12_weightTo 49 = .ok (.goto 4, 3) := by decide +kernel
theorem dX12_weightTo_52 : decode cX12_weightTo 52 = .ok (.iconst 0, 1) := by decide +kernel
theorem dX12_weightTo_53 : decode cX12_weightTo 53 = .ok (.iadd, 1) := by decide +kernel
theorem dX12_weightTo_54 : decode cX12_weightTo 54 = .ok (.istore 4, 2) := by decide +kernel
theorem dX12_weightTo_56 : decode cX12_weightTo 56 = .ok (.iinc 5 1, 3) := by decide +kernel
theorem dX12_weightTo_59 : decode cX12_weightTo 59 = .ok (.goto (-53), 3) := by decide +kernel
theorem dX12_weightTo_62 : decode cX12_weightTo 62 = .ok (.iload 4, 2) := by decide +kernel
theorem dX12_weightTo_64 : decode cX12_weightTo 64 = .ok (.ireturn, 1) := by decide +kernel
theorem dX12_isWanted_0 : decode cX12_isWanted 0 = .ok (.iconst 0, 1) := by decide +kernel
theorem dX12_isWanted_1 : decode cX12_isWanted 1 = .ok (.istore 4, 2) := by decide +kernel
theorem dX12_isWanted_3 : decode cX12_isWanted 3 = .ok (.iload 4, 2) := by decide +kernel
theorem dX12_isWanted_5 : decode cX12_isWanted 5 = .ok (.aload_n 0, 1) := by decide +kernel
theorem dX12_isWanted_6 : decode cX12_isWanted 6 = .ok (.iload_n 1, 1) := by decide +kernel
theorem dX12_isWanted_7 : decode cX12_isWanted 7 = .ok (.invokevirtual 218, 3) := by decide +kernel
theorem dX12_isWanted_10 : decode cX12_isWanted 10 = .ok (.if_icmp .ge 37, 3) := by decide +kernel
theorem dX12_isWanted_13 : decode cX12_isWanted 13 = .ok (.aload_n 0, 1) := by decide +kernel
theorem dX12_isWanted_14 : decode cX12_isWanted 14 = .ok (.iload_n 1, 1) := by decide +kernel
theorem dX12_isWanted_15 : decode cX12_isWanted 15 = .ok (.iload 4, 2) := by decide +kernel
theorem dX12_isWanted_17 : decode cX12_isWanted 17 = .ok (.invokevirtual 221, 3) := by decide +kernel
theorem dX12_isWanted_20 : decode cX12_isWanted 20 = .ok (.ifCond .lt 21, 3) := by decide +kernel
theorem dX12_isWanted_23 : decode cX12_isWanted 23 = .ok (.aload_n 0, 1) := by decide +kernel
theorem dX12_isWanted_24 : decode cX12_isWanted 24 = .ok (.aload_n 0, 1) := by decide +kernel
theorem dX12_isWanted_25 : decode cX12_isWanted 25 = .ok (.iload_n 1, 1) := by decide +kernel
theorem dX12_isWanted_26 : decode cX12_isWanted 26 = .ok (.iload 4, 2) := by decide +kernel
theorem dX12_isWanted_28 : decode cX12_isWanted 28 = .ok (.invokevirtual 221, 3) := by decide +kernel
theorem dX12_isWanted_31 : decode cX12_isWanted 31 = .ok (.iload_n 2, 1) := by decide +kernel
theorem dX12_isWanted_32 : decode cX12_isWanted 32 = .ok (.invokevirtual 208, 3) := by decide +kernel
theorem dX12_isWanted_35 : decode cX12_isWanted 35 = .ok (.iload_n 3, 1) := by decide +kernel
theorem dX12_isWanted_36 : decode cX12_isWanted 36 = .ok (.if_icmp .ne 5, 3) := by decide +kernel
theorem dX12_isWanted_39 : decode cX12_isWanted 39 = .ok (.iconst 1, 1) := by decide +kernel
theorem dX12_isWanted_40 : decode cX12_isWanted 40 = .ok (.ireturn, 1) := by decide +kernel
theorem dX12_isWanted_41 : decode cX12_isWanted 41 = .ok (.iinc 4 1, 3) := by decide +kernel
theorem dX12_isWanted_44 : decode cX12_isWanted 44 = .ok (.goto (-41), 3) := by decide +kernel
theorem dX12_isWanted_47 : decode cX12_isWanted 47 = .ok (.iconst 0, 1) := by decide +kernel
theorem dX12_isWanted_48 : decode cX12_isWanted 48 = .ok (.ireturn, 1) := by decide +kernel
theorem dX12_middle_0 : decode cX12_middle 0 = .ok (.aload_n 0, 1) := by decide +kernel
theorem dX12_middle_1 : decode cX12_middle 1 = .ok (.iload_n 1, 1) := by decide +kernel
theorem dX12_middle_2 : decode cX12_middle 2 = .ok (.invokevirtual 224, 3) := by decide +kernel
theorem dX12_middle_5 : decode cX12_middle 5 = .ok (.iconst (-1), 1) := by decide +kernel
theorem dX12_middle_6 : decode cX12_middle 6 = .ok (.if_icmp .eq 10, 3) := by decide +kernel
theorem dX12_middle_9 : decode cX12_middle 9 = .ok (.iload_n 2, 1) := by decide +kernel
theorem dX12_middle_10 : decode cX12_middle 10 = .ok (.invokestatic 140, 3) := by decide +kernel
theorem dX12_middle_13 : decode cX12_middle 13 = .ok (.ifCond .ne 5, 3) := by decide +kernel
theorem dX12_middle_16 : decode cX12_middle 16 = .ok (.iconst (-1), 1) := by decide +kernel
theorem dX12_middle_17 : decode cX12_middle 17 = .ok (.ireturn, 1) := by decide +kernel
theorem dX12_middle_18 : decode cX12_middle 18 = .ok (.aload_n 0, 1) := by decide +kernel
theorem dX12_middle_19 : decode cX12_middle 19 = .ok (.iload_n 1, 1) := by decide +kernel
theorem dX12_middle_20 : decode cX12_middle 20 = .ok (.invokevirtual 224, 3) := by decide +kernel
theorem dX12_middle_23 : decode cX12_middle 23 = .ok (.ifCond .ge 9, 3) := by decide +kernel
theorem dX12_middle_26 : decode cX12_middle 26 = .ok (.aload_n 0, 1) := by decide +kernel
theorem dX12_middle_27 : decode cX12_middle 27 = .ok (.iload_n 1, 1) := by decide +kernel
theorem dX12_middle_28 : decode cX12_middle 28 = .ok (.invokevirtual 224, 3) := by decide +kernel
theorem dX12_middle_31 : decode cX12_middle 31 = .ok (.ireturn, 1) := by decide +kernel
theorem dX12_middle_32 : decode cX12_middle 32 = .ok (.aload_n 0, 1) := by decide +kernel
theorem dX12_middle_33 : decode cX12_middle 33 = .ok (.iload_n 1, 1) := by decide +kernel
theorem dX12_middle_34 : decode cX12_middle 34 = .ok (.iload_n 2, 1) := by decide +kernel
theorem dX12_middle_35 : decode cX12_middle 35 = .ok (.bipush 60, 2) := by decide +kernel
theorem dX12_middle_37 : decode cX12_middle 37 = .ok (.invokevirtual 241, 3) := by decide +kernel
theorem dX12_middle_40 : decode cX12_middle 40 = .ok (.istore_n 3, 1) := by decide +kernel
theorem dX12_middle_41 : decode cX12_middle 41 = .ok (.iconst 0, 1) := by decide +kernel
theorem dX12_middle_42 : decode cX12_middle 42 = .ok (.istore 4, 2) := by decide +kernel
theorem dX12_middle_44 : decode cX12_middle 44 = .ok (.iload 4, 2) := by decide +kernel
theorem dX12_middle_46 : decode cX12_middle 46 = .ok (.bipush 61, 2) := by decide +kernel
theorem dX12_middle_48 : decode cX12_middle 48 = .ok (.if_icmp .ge 37, 3) := by decide +kernel
theorem dX12_middle_51 : decode cX12_middle 51 = .ok (.aload_n 0, 1) := by decide +kernel
theorem dX12_middle_52 : decode cX12_middle 52 = .ok (.iload_n 1, 1) := by decide +kernel
theorem dX12_middle_53 : decode cX12_middle 53 = .ok (.iload_n 2, 1) := by decide +kernel
theorem dX12_middle_54 : decode cX12_middle 54 = .ok (.iload 4, 2) := by decide +kernel
theorem dX12_middle_56 : decode cX12_middle 56 = .ok (.invokevirtual 244, 3) := by decide +kernel
theorem dX12_middle_59 : decode cX12_middle 59 = .ok (.ifCond .eq 20, 3) := by decide +kernel
theorem dX12_middle_62 : decode cX12_middle 62 = .ok (.iconst 2, 1) := by decide +kernel
theorem dX12_middle_63 : decode cX12_middle 63 = .ok (.aload_n 0, 1) := by decide +kernel
theorem dX12_middle_64 : decode cX12_middle 64 = .ok (.iload_n 1, 1) := by decide +kernel
theorem dX12_middle_65 : decode cX12_middle 65 = .ok (.iload_n 2, 1) := by decide +kernel
theorem dX12_middle_66 : decode cX12_middle 66 = .ok (.iload 4, 2) := by decide +kernel
theorem dX12_middle_68 : decode cX12_middle 68 = .ok (.invokevirtual 241, 3) := by decide +kernel
theorem dX12_middle_71 : decode cX12_middle 71 = .ok (.imul, 1) := by decide +kernel
theorem dX12_middle_72 : decode cX12_middle 72 = .ok (.iload_n 3, 1) := by decide +kernel
theorem dX12_middle_73 : decode cX12_middle 73 = .ok (.if_icmp .lt 6, 3) := by decide +kernel
theorem dX12_middle_76 : decode cX12_middle 76 = .ok (.iload 4, 2) := by decide +kernel
theorem dX12_middle_78 : decode cX12_middle 78 = .ok (.ireturn, 1) := by decide +kernel
theorem dX12_middle_79 : decode cX12_middle 79 = .ok (.iinc 4 1, 3) := by decide +kernel
theorem dX12_middle_82 : decode cX12_middle 82 = .ok (.goto (-38), 3) := by decide +kernel
theorem dX12_middle_85 : decode cX12_middle 85 = .ok (.bipush (-2), 2) := by decide +kernel
theorem dX12_middle_87 : decode cX12_middle 87 = .ok (.ireturn, 1) := by decide +kernel
theorem dX12_asksLosses_0 : decode cX12_asksLosses 0 = .ok (.iconst 0, 1) := by decide +kernel
theorem dX12_asksLosses_1 : decode cX12_asksLosses 1 = .ok (.istore_n 3, 1) := by decide +kernel
theorem dX12_asksLosses_2 : decode cX12_asksLosses 2 = .ok (.iload_n 3, 1) := by decide +kernel
theorem dX12_asksLosses_3 : decode cX12_asksLosses 3 = .ok (.aload_n 0, 1) := by decide +kernel
theorem dX12_asksLosses_4 : decode cX12_asksLosses 4 = .ok (.iload_n 1, 1) := by decide +kernel
theorem dX12_asksLosses_5 : decode cX12_asksLosses 5 = .ok (.invokevirtual 218, 3) := by decide +kernel
theorem dX12_asksLosses_8 : decode cX12_asksLosses 8 = .ok (.if_icmp .ge 63, 3) := by decide +kernel
theorem dX12_asksLosses_11 : decode cX12_asksLosses 11 = .ok (.iconst 0, 1) := by decide +kernel
theorem dX12_asksLosses_12 : decode cX12_asksLosses 12 = .ok (.istore 4, 2) := by decide +kernel
theorem dX12_asksLosses_14 : decode cX12_asksLosses 14 = .ok (.iload 4, 2) := by decide +kernel
theorem dX12_asksLosses_16 : decode cX12_asksLosses 16 = .ok (.bipush 61, 2) := by decide +kernel
theorem dX12_asksLosses_18 : decode cX12_asksLosses 18 = .ok (.if_icmp .ge 47, 3) := by decide +kernel
theorem dX12_asksLosses_21 : decode cX12_asksLosses 21 = .ok (.aload_n 0, 1) := by decide +kernel
theorem dX12_asksLosses_22 : decode cX12_asksLosses 22 = .ok (.getfield 34, 3) := by decide +kernel
theorem dX12_asksLosses_25 : decode cX12_asksLosses 25 = .ok (.bipush 61, 2) := by decide +kernel
theorem dX12_asksLosses_27 : decode cX12_asksLosses 27 = .ok (.iload_n 3, 1) := by decide +kernel
theorem dX12_asksLosses_28 : decode cX12_asksLosses 28 = .ok (.imul, 1) := by decide +kernel
theorem dX12_asksLosses_29 : decode cX12_asksLosses 29 = .ok (.iload 4, 2) := by decide +kernel
theorem dX12_asksLosses_31 : decode cX12_asksLosses 31 = .ok (.iadd, 1) := by decide +kernel
theorem dX12_asksLosses_32 : decode cX12_asksLosses 32 = .ok (.aload_n 0, 1) := by decide +kernel
theorem dX12_asksLosses_33 : decode cX12_asksLosses 33 = .ok (.iload_n 1, 1) := by decide +kernel
theorem dX12_asksLosses_34 : decode cX12_asksLosses 34 = .ok (.iload_n 3, 1) := by decide +kernel
theorem dX12_asksLosses_35 : decode cX12_asksLosses 35 = .ok (.invokevirtual 221, 3) := by decide +kernel
theorem dX12_asksLosses_38 : decode cX12_asksLosses 38 = .ok (.ifCond .lt 19, 3) := by decide +kernel
theorem dX12_asksLosses_41 : decode cX12_asksLosses 41 = .ok (.aload_n 0, 1) := by decide +kernel
theorem dX12_asksLosses_42 : decode cX12_asksLosses 42 = .ok (.aload_n 0, 1) := by decide +kernel
theorem dX12_asksLosses_43 : decode cX12_asksLosses 43 = .ok (.iload_n 1, 1) := by decide +kernel
theorem dX12_asksLosses_44 : decode cX12_asksLosses 44 = .ok (.iload_n 3, 1) := by decide +kernel
theorem dX12_asksLosses_45 : decode cX12_asksLosses 45 = .ok (.invokevirtual 221, 3) := by decide +kernel
theorem dX12_asksLosses_48 : decode cX12_asksLosses 48 = .ok (.iload_n 2, 1) := by decide +kernel
theorem dX12_asksLosses_49 : decode cX12_asksLosses 49 = .ok (.iload 4, 2) := by decide +kernel
theorem dX12_asksLosses_51 : decode cX12_asksLosses 51 = .ok (.invokevirtual 214, 3) := by decide +kernel
theorem dX12_asksLosses_54 : decode cX12_asksLosses 54 = .ok (.goto 4, 3) := by decide +kernel
theorem dX12_asksLosses_57 : decode cX12_asksLosses 57 = .ok (.iconst 0, 1) := by decide +kernel
theorem dX12_asksLosses_58 : decode cX12_asksLosses 58 = .ok (.iastore, 1) := by decide +kernel
theorem dX12_asksLosses_59 : decode cX12_asksLosses 59 = .ok (.iinc 4 1, 3) := by decide +kernel
theorem dX12_asksLosses_62 : decode cX12_asksLosses 62 = .ok (.goto (-48), 3) := by decide +kernel
theorem dX12_asksLosses_65 : decode cX12_asksLosses 65 = .ok (.iinc 3 1, 3) := by decide +kernel
theorem dX12_asksLosses_68 : decode cX12_asksLosses 68 = .ok (.goto (-66), 3) := by decide +kernel
theorem dX12_asksLosses_71 : decode cX12_asksLosses 71 = .ok (.return_, 1) := by decide +kernel
theorem dX12_slipped_0 : decode cX12_slipped 0 = .ok (.iload_n 2, 1) := by decide +kernel
theorem dX12_slipped_1 : decode cX12_slipped 1 = .ok (.aload_n 0, 1) := by decide +kernel
theorem dX12_slipped_2 : decode cX12_slipped 2 = .ok (.getfield 9, 3) := by decide +kernel
theorem dX12_slipped_5 : decode cX12_slipped 5 = .ok (.bipush 64, 2) := by decide +kernel
theorem dX12_slipped_7 : decode cX12_slipped 7 = .ok (.iload_n 1, 1) := by decide +kernel
theorem dX12_slipped_8 : decode cX12_slipped 8 = .ok (.iadd, 1) := by decide +kernel
theorem dX12_slipped_9 : decode cX12_slipped 9 = .ok (.iaload, 1) := by decide +kernel
theorem dX12_slipped_10 : decode cX12_slipped 10 = .ok (.isub, 1) := by decide +kernel
theorem dX12_slipped_11 : decode cX12_slipped 11 = .ok (.istore_n 3, 1) := by decide +kernel
theorem dX12_slipped_12 : decode cX12_slipped 12 = .ok (.iload_n 3, 1) := by decide +kernel
theorem dX12_slipped_13 : decode cX12_slipped 13 = .ok (.ifCond .ge 7, 3) := by decide +kernel
theorem dX12_slipped_16 : decode cX12_slipped 16 = .ok (.iconst 0, 1) := by decide +kernel
theorem dX12_slipped_17 : decode cX12_slipped 17 = .ok (.goto 4, 3) := by decide +kernel
theorem dX12_slipped_20 : decode cX12_slipped 20 = .ok (.iload_n 3, 1) := by decide +kernel
theorem dX12_slipped_21 : decode cX12_slipped 21 = .ok (.ireturn, 1) := by decide +kernel
theorem dX12_costBy_0 : decode cX12_costBy 0 = .ok (.iload 4, 2) := by decide +kernel
theorem dX12_costBy_2 : decode cX12_costBy 2 = .ok (.iload_n 3, 1) := by decide +kernel
theorem dX12_costBy_3 : decode cX12_costBy 3 = .ok (.isub, 1) := by decide +kernel
theorem dX12_costBy_4 : decode cX12_costBy 4 = .ok (.invokestatic 211, 3) := by decide +kernel
theorem dX12_costBy_7 : decode cX12_costBy 7 = .ok (.aload_n 0, 1) := by decide +kernel
theorem dX12_costBy_8 : decode cX12_costBy 8 = .ok (.getfield 9, 3) := by decide +kernel
theorem dX12_costBy_11 : decode cX12_costBy 11 = .ok (.bipush 67, 2) := by decide +kernel
theorem dX12_costBy_13 : decode cX12_costBy 13 = .ok (.iload_n 1, 1) := by decide +kernel
theorem dX12_costBy_14 : decode cX12_costBy 14 = .ok (.iadd, 1) := by decide +kernel
theorem dX12_costBy_15 : decode cX12_costBy 15 = .ok (.iaload, 1) := by decide +kernel
theorem dX12_costBy_16 : decode cX12_costBy 16 = .ok (.imul, 1) := by decide +kernel
theorem dX12_costBy_17 : decode cX12_costBy 17 = .ok (.aload_n 0, 1) := by decide +kernel
theorem dX12_costBy_18 : decode cX12_costBy 18 = .ok (.getfield 34, 3) := by decide +kernel
theorem dX12_costBy_21 : decode cX12_costBy 21 = .ok (.bipush 61, 2) := by decide +kernel
theorem dX12_costBy_23 : decode cX12_costBy 23 = .ok (.iload_n 2, 1) := by decide +kernel
theorem dX12_costBy_24 : decode cX12_costBy 24 = .ok (.imul, 1) := by decide +kernel
theorem dX12_costBy_25 : decode cX12_costBy 25 = .ok (.iload 4, 2) := by decide +kernel
theorem dX12_costBy_27 : decode cX12_costBy 27 = .ok (.iadd, 1) := by decide +kernel
theorem dX12_costBy_28 : decode cX12_costBy 28 = .ok (.iaload, 1) := by decide +kernel
theorem dX12_costBy_29 : decode cX12_costBy 29 = .ok (.iadd, 1) := by decide +kernel
theorem dX12_costBy_30 : decode cX12_costBy 30 = .ok (.aload_n 0, 1) := by decide +kernel
theorem dX12_costBy_31 : decode cX12_costBy 31 = .ok (.getfield 37, 3) := by decide +kernel
theorem dX12_costBy_34 : decode cX12_costBy 34 = .ok (.bipush 61, 2) := by decide +kernel
theorem dX12_costBy_36 : decode cX12_costBy 36 = .ok (.iload_n 2, 1) := by decide +kernel
theorem dX12_costBy_37 : decode cX12_costBy 37 = .ok (.iconst 1, 1) := by decide +kernel
theorem dX12_costBy_38 : decode cX12_costBy 38 = .ok (.iadd, 1) := by decide +kernel
theorem dX12_costBy_39 : decode cX12_costBy 39 = .ok (.imul, 1) := by decide +kernel
theorem dX12_costBy_40 : decode cX12_costBy 40 = .ok (.aload_n 0, 1) := by decide +kernel
theorem dX12_costBy_41 : decode cX12_costBy 41 = .ok (.iload_n 1, 1) := by decide +kernel
theorem dX12_costBy_42 : decode cX12_costBy 42 = .ok (.iload 4, 2) := by decide +kernel
theorem dX12_costBy_44 : decode cX12_costBy 44 = .ok (.invokevirtual 248, 3) := by decide +kernel
theorem dX12_costBy_47 : decode cX12_costBy 47 = .ok (.iadd, 1) := by decide +kernel
theorem dX12_costBy_48 : decode cX12_costBy 48 = .ok (.iaload, 1) := by decide +kernel
theorem dX12_costBy_49 : decode cX12_costBy 49 = .ok (.iadd, 1) := by decide +kernel
theorem dX12_costBy_50 : decode cX12_costBy 50 = .ok (.ireturn, 1) := by decide +kernel
theorem dX12_shifts_0 : decode cX12_shifts 0 = .ok (.aload_n 0, 1) := by decide +kernel
theorem dX12_shifts_1 : decode cX12_shifts 1 = .ok (.iload_n 1, 1) := by decide +kernel
theorem dX12_shifts_2 : decode cX12_shifts 2 = .ok (.invokevirtual 224, 3) := by decide +kernel
theorem dX12_shifts_5 : decode cX12_shifts 5 = .ok (.iconst (-1), 1) := by decide +kernel
theorem dX12_shifts_6 : decode cX12_shifts 6 = .ok (.if_icmp .eq 15, 3) := by decide +kernel
theorem dX12_shifts_9 : decode cX12_shifts 9 = .ok (.iload_n 2, 1) := by decide +kernel
theorem dX12_shifts_10 : decode cX12_shifts 10 = .ok (.invokestatic 140, 3) := by decide +kernel
theorem dX12_shifts_13 : decode cX12_shifts 13 = .ok (.ifCond .eq 8, 3) := by decide +kernel
theorem dX12_shifts_16 : decode cX12_shifts 16 = .ok (.iload_n 3, 1) := by decide +kernel
theorem dX12_shifts_17 : decode cX12_shifts 17 = .ok (.iconst (-1), 1) := by decide +kernel
theorem dX12_shifts_18 : decode cX12_shifts 18 = .ok (.if_icmp .ge 5, 3) := by decide +kernel
theorem dX12_shifts_21 : decode cX12_shifts 21 = .ok (.iconst (-1), 1) := by decide +kernel
theorem dX12_shifts_22 : decode cX12_shifts 22 = .ok (.ireturn, 1) := by decide +kernel
theorem dX12_shifts_23 : decode cX12_shifts 23 = .ok (.aload_n 0, 1) := by decide +kernel
theorem dX12_shifts_24 : decode cX12_shifts 24 = .ok (.iload_n 1, 1) := by decide +kernel
theorem dX12_shifts_25 : decode cX12_shifts 25 = .ok (.invokevirtual 224, 3) := by decide +kernel
theorem dX12_shifts_28 : decode cX12_shifts 28 = .ok (.ifCond .ge 9, 3) := by decide +kernel
theorem dX12_shifts_31 : decode cX12_shifts 31 = .ok (.aload_n 0, 1) := by decide +kernel
theorem dX12_shifts_32 : decode cX12_shifts 32 = .ok (.iload_n 1, 1) := by decide +kernel
theorem dX12_shifts_33 : decode cX12_shifts 33 = .ok (.invokevirtual 224, 3) := by decide +kernel
theorem dX12_shifts_36 : decode cX12_shifts 36 = .ok (.ireturn, 1) := by decide +kernel
theorem dX12_shifts_37 : decode cX12_shifts 37 = .ok (.aload_n 0, 1) := by decide +kernel
theorem dX12_shifts_38 : decode cX12_shifts 38 = .ok (.iload_n 1, 1) := by decide +kernel
theorem dX12_shifts_39 : decode cX12_shifts 39 = .ok (.invokevirtual 218, 3) := by decide +kernel
theorem dX12_shifts_42 : decode cX12_shifts 42 = .ok (.istore 4, 2) := by decide +kernel
theorem dX12_shifts_44 : decode cX12_shifts 44 = .ok (.aload_n 0, 1) := by decide +kernel
theorem dX12_shifts_45 : decode cX12_shifts 45 = .ok (.iload_n 1, 1) := by decide +kernel
theorem dX12_shifts_46 : decode cX12_shifts 46 = .ok (.iload_n 2, 1) := by decide +kernel
theorem dX12_shifts_47 : decode cX12_shifts 47 = .ok (.invokevirtual 251, 3) := by decide +kernel
theorem dX12_shifts_50 : decode cX12_shifts 50 = .ok (.iconst 0, 1) := by decide +kernel
theorem dX12_shifts_51 : decode cX12_shifts 51 = .ok (.istore 5, 2) := by decide +kernel
theorem dX12_shifts_53 : decode cX12_shifts 53 = .ok (.iload 5, 2) := by decide +kernel
theorem dX12_shifts_55 : decode cX12_shifts 55 = .ok (.bipush 61, 2) := by decide +kernel
theorem dX12_shifts_57 : decode cX12_shifts 57 = .ok (.if_icmp .ge 23, 3) := by decide +kernel
theorem dX12_shifts_60 : decode cX12_shifts 60 = .ok (.aload_n 0, 1) := by decide +kernel
theorem dX12_shifts_61 : decode cX12_shifts 61 = .ok (.getfield 37, 3) := by decide +kernel
theorem dX12_shifts_64 : decode cX12_shifts 64 = .ok (.bipush 61, 2) := by decide +kernel
theorem dX12_shifts_66 : decode cX12_shifts 66 = .ok (.iload 4, 2) := by decide +kernel
theorem dX12_shifts_68 : decode cX12_shifts 68 = .ok (.imul, 1) := by decide +kernel
theorem dX12_shifts_69 : decode cX12_shifts 69 = .ok (.iload 5, 2) := by decide +kernel
theorem dX12_shifts_71 : decode cX12_shifts 71 = .ok (.iadd, 1) := by decide +kernel
theorem dX12_shifts_72 : decode cX12_shifts 72 = .ok (.iconst 0, 1) := by decide +kernel
theorem dX12_shifts_73 : decode cX12_shifts 73 = .ok (.iastore, 1) := by decide +kernel
theorem dX12_shifts_74 : decode cX12_shifts 74 = .ok (.iinc 5 1, 3) := by decide +kernel
theorem dX12_shifts_77 : decode cX12_shifts 77 = .ok (.goto (-24), 3) := by decide +kernel
theorem dX12_shifts_80 : decode cX12_shifts 80 = .ok (.iload 4, 2) := by decide +kernel
theorem dX12_shifts_82 : decode cX12_shifts 82 = .ok (.iconst 1, 1) := by decide +kernel
theorem dX12_shifts_83 : decode cX12_shifts 83 = .ok (.isub, 1) := by decide +kernel
theorem dX12_shifts_84 : decode cX12_shifts 84 = .ok (.istore 5, 2) := by decide +kernel
theorem dX12_shifts_86 : decode cX12_shifts 86 = .ok (.iload 5, 2) := by decide +kernel
theorem dX12_shifts_88 : decode cX12_shifts 88 = .ok (.ifCond .lt 97, 3) := by decide +kernel
theorem dX12_shifts_91 : decode cX12_shifts 91 = .ok (.iconst 0, 1) := by decide +kernel
theorem dX12_shifts_92 : decode cX12_shifts 92 = .ok (.istore 6, 2) := by decide +kernel
theorem dX12_shifts_94 : decode cX12_shifts 94 = .ok (.iload 6, 2) := by decide +kernel
theorem dX12_shifts_96 : decode cX12_shifts 96 = .ok (.bipush 61, 2) := by decide +kernel
theorem dX12_shifts_98 : decode cX12_shifts 98 = .ok (.if_icmp .ge 81, 3) := by decide +kernel
theorem dX12_shifts_101 : decode cX12_shifts 101 = .ok (.aload_n 0, 1) := by decide +kernel
theorem dX12_shifts_102 : decode cX12_shifts 102 = .ok (.iload_n 2, 1) := by decide +kernel
theorem dX12_shifts_103 : decode cX12_shifts 103 = .ok (.iload 5, 2) := by decide +kernel
theorem dX12_shifts_105 : decode cX12_shifts 105 = .ok (.iload 6, 2) := by decide +kernel
theorem dX12_shifts_107 : decode cX12_shifts 107 = .ok (.iconst 0, 1) := by decide +kernel
theorem dX12_shifts_108 : decode cX12_shifts 108 = .ok (.invokevirtual 255, 3) := by decide +kernel
theorem dX12_shifts_111 : decode cX12_shifts 111 = .ok (.istore 7, 2) := by decide +kernel
theorem dX12_shifts_113 : decode cX12_shifts 113 = .ok (.iconst 1, 1) := by decide +kernel
theorem dX12_shifts_114 : decode cX12_shifts 114 = .ok (.istore 8, 2) := by decide +kernel
theorem dX12_shifts_116 : decode cX12_shifts 116 = .ok (.iload 8, 2) := by decide +kernel
theorem dX12_shifts_118 : decode cX12_shifts 118 = .ok (.bipush 61, 2) := by decide +kernel
theorem dX12_shifts_120 : decode cX12_shifts 120 = .ok (.if_icmp .ge 38, 3) := by decide +kernel
theorem dX12_shifts_123 : decode cX12_shifts 123 = .ok (.aload_n 0, 1) := by decide +kernel
theorem dX12_shifts_124 : decode cX12_shifts 124 = .ok (.iload_n 2, 1) := by decide +kernel
theorem dX12_shifts_125 : decode cX12_shifts 125 = .ok (.iload 5, 2) := by decide +kernel
theorem dX12_shifts_127 : decode cX12_shifts 127 = .ok (.iload 6, 2) := by decide +kernel
theorem dX12_shifts_129 : decode cX12_shifts 129 = .ok (.iload 8, 2) := by decide +kernel
theorem dX12_shifts_131 : decode cX12_shifts 131 = .ok (.invokevirtual 255, 3) := by decide +kernel
theorem dX12_shifts_134 : decode cX12_shifts 134 = .ok (.istore 9, 2) := by decide +kernel
theorem dX12_shifts_136 : decode cX12_shifts 136 = .ok (.iload 9, 2) := by decide +kernel
theorem dX12_shifts_138 : decode cX12_shifts 138 = .ok (.iload 7, 2) := by decide +kernel
theorem dX12_shifts_140 : decode cX12_shifts 140 = .ok (.if_icmp .ge 8, 3) := by decide +kernel
theorem dX12_shifts_143 : decode cX12_shifts 143 = .ok (.iload 9, 2) := by decide +kernel
theorem dX12_shifts_145 : decode cX12_shifts 145 = .ok (.goto 5, 3) := by decide +kernel
theorem dX12_shifts_148 : decode cX12_shifts 148 = .ok (.iload 7, 2) := by decide +kernel
theorem dX12_shifts_150 : decode cX12_shifts 150 = .ok (.istore 7, 2) := by decide +kernel
theorem dX12_shifts_152 : decode cX12_shifts 152 = .ok (.iinc 8 1, 3) := by decide +kernel
theorem dX12_shifts_155 : decode cX12_shifts 155 = .ok (.goto (-39), 3) := by decide +kernel
theorem dX12_shifts_158 : decode cX12_shifts 158 = .ok (.aload_n 0, 1) := by decide +kernel
theorem dX12_shifts_159 : decode cX12_shifts 159 = .ok (.getfield 37, 3) := by decide +kernel
theorem dX12_shifts_162 : decode cX12_shifts 162 = .ok (.bipush 61, 2) := by decide +kernel
theorem dX12_shifts_164 : decode cX12_shifts 164 = .ok (.iload 5, 2) := by decide +kernel
theorem dX12_shifts_166 : decode cX12_shifts 166 = .ok (.imul, 1) := by decide +kernel
theorem dX12_shifts_167 : decode cX12_shifts 167 = .ok (.iload 6, 2) := by decide +kernel
theorem dX12_shifts_169 : decode cX12_shifts 169 = .ok (.iadd, 1) := by decide +kernel
theorem dX12_shifts_170 : decode cX12_shifts 170 = .ok (.iload 7, 2) := by decide +kernel
theorem dX12_shifts_172 : decode cX12_shifts 172 = .ok (.iastore, 1) := by decide +kernel
theorem dX12_shifts_173 : decode cX12_shifts 173 = .ok (.iinc 6 1, 3) := by decide +kernel
theorem dX12_shifts_176 : decode cX12_shifts 176 = .ok (.goto (-82), 3) := by decide +kernel
theorem dX12_shifts_179 : decode cX12_shifts 179 = .ok (.iinc 5 (-1), 3) := by decide +kernel
theorem dX12_shifts_182 : decode cX12_shifts 182 = .ok (.goto (-96), 3) := by decide +kernel
theorem dX12_shifts_185 : decode cX12_shifts 185 = .ok (.iload_n 3, 1) := by decide +kernel
theorem dX12_shifts_186 : decode cX12_shifts 186 = .ok (.ifCond .ge 15, 3) := by decide +kernel
theorem dX12_shifts_189 : decode cX12_shifts 189 = .ok (.aload_n 0, 1) := by decide +kernel
theorem dX12_shifts_190 : decode cX12_shifts 190 = .ok (.getfield 37, 3) := by decide +kernel
theorem dX12_shifts_193 : decode cX12_shifts 193 = .ok (.aload_n 0, 1) := by decide +kernel
theorem dX12_shifts_194 : decode cX12_shifts 194 = .ok (.getfield 22, 3) := by decide +kernel
theorem dX12_shifts_197 : decode cX12_shifts 197 = .ok (.iload_n 2, 1) := by decide +kernel
theorem dX12_shifts_198 : decode cX12_shifts 198 = .ok (.iaload, 1) := by decide +kernel
theorem dX12_shifts_199 : decode cX12_shifts 199 = .ok (.iaload, 1) := by decide +kernel
theorem dX12_shifts_200 : decode cX12_shifts 200 = .ok (.ireturn, 1) := by decide +kernel
theorem dX12_shifts_201 : decode cX12_shifts 201 = .ok (.aload_n 0, 1) := by decide +kernel
theorem dX12_shifts_202 : decode cX12_shifts 202 = .ok (.getfield 22, 3) := by decide +kernel
theorem dX12_shifts_205 : decode cX12_shifts 205 = .ok (.iload_n 2, 1) := by decide +kernel
theorem dX12_shifts_206 : decode cX12_shifts 206 = .ok (.iaload, 1) := by decide +kernel
theorem dX12_shifts_207 : decode cX12_shifts 207 = .ok (.istore 5, 2) := by decide +kernel
theorem dX12_shifts_209 : decode cX12_shifts 209 = .ok (.bipush (-2), 2) := by decide +kernel
theorem dX12_shifts_211 : decode cX12_shifts 211 = .ok (.istore 6, 2) := by decide +kernel
theorem dX12_shifts_213 : decode cX12_shifts 213 = .ok (.iconst 0, 1) := by decide +kernel
theorem dX12_shifts_214 : decode cX12_shifts 214 = .ok (.istore 7, 2) := by decide +kernel
theorem dX12_shifts_216 : decode cX12_shifts 216 = .ok (.iload 7, 2) := by decide +kernel
theorem dX12_shifts_218 : decode cX12_shifts 218 = .ok (.iload 4, 2) := by decide +kernel
theorem dX12_shifts_220 : decode cX12_shifts 220 = .ok (.if_icmp .ge 83, 3) := by decide +kernel
theorem dX12_shifts_223 : decode cX12_shifts 223 = .ok (.iload 7, 2) := by decide +kernel
theorem dX12_shifts_225 : decode cX12_shifts 225 = .ok (.iload_n 3, 1) := by decide +kernel
theorem dX12_shifts_226 : decode cX12_shifts 226 = .ok (.if_icmp .gt 77, 3) := by decide +kernel
theorem dX12_shifts_229 : decode cX12_shifts 229 = .ok (.iconst (-1), 1) := by decide +kernel
theorem dX12_shifts_230 : decode cX12_shifts 230 = .ok (.istore 6, 2) := by decide +kernel
theorem dX12_shifts_232 : decode cX12_shifts 232 = .ok (.iconst 0, 1) := by decide +kernel
theorem dX12_shifts_233 : decode cX12_shifts 233 = .ok (.istore 8, 2) := by decide +kernel
theorem dX12_shifts_235 : decode cX12_shifts 235 = .ok (.iload 8, 2) := by decide +kernel
theorem dX12_shifts_237 : decode cX12_shifts 237 = .ok (.bipush 61, 2) := by decide +kernel
theorem dX12_shifts_239 : decode cX12_shifts 239 = .ok (.if_icmp .ge 49, 3) := by decide +kernel
theorem dX12_shifts_242 : decode cX12_shifts 242 = .ok (.iload 6, 2) := by decide +kernel
theorem dX12_shifts_244 : decode cX12_shifts 244 = .ok (.ifCond .ge 44, 3) := by decide +kernel
theorem dX12_shifts_247 : decode cX12_shifts 247 = .ok (.aload_n 0, 1) := by decide +kernel
theorem dX12_shifts_248 : decode cX12_shifts 248 = .ok (.iload_n 2, 1) := by decide +kernel
theorem dX12_shifts_249 : decode cX12_shifts 249 = .ok (.iload 7, 2) := by decide +kernel
theorem dX12_shifts_251 : decode cX12_shifts 251 = .ok (.iload 5, 2) := by decide +kernel
theorem dX12_shifts_253 : decode cX12_shifts 253 = .ok (.iload 8, 2) := by decide +kernel
theorem dX12_shifts_255 : decode cX12_shifts 255 = .ok (.invokevirtual 255, 3) := by decide +kernel
theorem dX12_shifts_258 : decode cX12_shifts 258 = .ok (.aload_n 0, 1) := by decide +kernel
theorem dX12_shifts_259 : decode cX12_shifts 259 = .ok (.getfield 37, 3) := by decide +kernel
theorem dX12_shifts_262 : decode cX12_shifts 262 = .ok (.bipush 61, 2) := by decide +kernel
theorem dX12_shifts_264 : decode cX12_shifts 264 = .ok (.iload 7, 2) := by decide +kernel
theorem dX12_shifts_266 : decode cX12_shifts 266 = .ok (.imul, 1) := by decide +kernel
theorem dX12_shifts_267 : decode cX12_shifts 267 = .ok (.iload 5, 2) := by decide +kernel
theorem dX12_shifts_269 : decode cX12_shifts 269 = .ok (.iadd, 1) := by decide +kernel
theorem dX12_shifts_270 : decode cX12_shifts 270 = .ok (.iaload, 1) := by decide +kernel
theorem dX12_shifts_271 : decode cX12_shifts 271 = .ok (.if_icmp .ne 8, 3) := by decide +kernel
theorem dX12_shifts_274 : decode cX12_shifts 274 = .ok (.iload 8, 2) := by decide +kernel
theorem dX12_shifts_276 : decode cX12_shifts 276 = .ok (.goto 4, 3) := by decide +kernel
theorem dX12_shifts_279 : decode cX12_shifts 279 = .ok (.iconst (-1), 1) := by decide +kernel
theorem dX12_shifts_280 : decode cX12_shifts 280 = .ok (.istore 6, 2) := by decide +kernel
theorem dX12_shifts_282 : decode cX12_shifts 282 = .ok (.iinc 8 1, 3) := by decide +kernel
theorem dX12_shifts_285 : decode cX12_shifts 285 = .ok (.goto (-50), 3) := by decide +kernel
theorem dX12_shifts_288 : decode cX12_shifts 288 = .ok (.aload_n 0, 1) := by decide +kernel
theorem dX12_shifts_289 : decode cX12_shifts 289 = .ok (.iload_n 2, 1) := by decide +kernel
theorem dX12_shifts_290 : decode cX12_shifts 290 = .ok (.iload 6, 2) := by decide +kernel
theorem dX12_shifts_292 : decode cX12_shifts 292 = .ok (.invokevirtual 248, 3) := by decide +kernel
theorem dX12_shifts_295 : decode cX12_shifts 295 = .ok (.istore 5, 2) := by decide +kernel
theorem dX12_shifts_297 : decode cX12_shifts 297 = .ok (.iinc 7 1, 3) := by decide +kernel
theorem dX12_shifts_300 : decode cX12_shifts 300 = .ok (.goto (-84), 3) := by decide +kernel
theorem dX12_shifts_303 : decode cX12_shifts 303 = .ok (.iload_n 3, 1) := by decide +kernel
theorem dX12_shifts_304 : decode cX12_shifts 304 = .ok (.iload 4, 2) := by decide +kernel
theorem dX12_shifts_306 : decode cX12_shifts 306 = .ok (.if_icmp .ge 8, 3) := by decide +kernel
theorem dX12_shifts_309 : decode cX12_shifts 309 = .ok (.iload 6, 2) := by decide +kernel
theorem dX12_shifts_311 : decode cX12_shifts 311 = .ok (.goto 5, 3) := by decide +kernel
theorem dX12_shifts_314 : decode cX12_shifts 314 = .ok (.bipush (-2), 2) := by decide +kernel
theorem dX12_shifts_316 : decode cX12_shifts 316 = .ok (.ireturn, 1) := by decide +kernel
theorem dX12_once_0 : decode cX12_once 0 = .ok (.aload_n 0, 1) := by decide +kernel
theorem dX12_once_1 : decode cX12_once 1 = .ok (.iload_n 1, 1) := by decide +kernel
theorem dX12_once_2 : decode cX12_once 2 = .ok (.invokevirtual 224, 3) := by decide +kernel
theorem dX12_once_5 : decode cX12_once 5 = .ok (.iconst (-1), 1) := by decide +kernel
theorem dX12_once_6 : decode cX12_once 6 = .ok (.if_icmp .eq 22, 3) := by decide +kernel
theorem dX12_once_9 : decode cX12_once 9 = .ok (.iload_n 2, 1) := by decide +kernel
theorem dX12_once_10 : decode cX12_once 10 = .ok (.invokestatic 140, 3) := by decide +kernel
theorem dX12_once_13 : decode cX12_once 13 = .ok (.ifCond .eq 15, 3) := by decide +kernel
theorem dX12_once_16 : decode cX12_once 16 = .ok (.iload_n 3, 1) := by decide +kernel
theorem dX12_once_17 : decode cX12_once 17 = .ok (.i2l, 1) := by decide +kernel
theorem dX12_once_18 : decode cX12_once 18 = .ok (.lconst 0, 1) := by decide +kernel
theorem dX12_once_19 : decode cX12_once 19 = .ok (.ldc2_w 113, 3) := by decide +kernel
theorem dX12_once_22 : decode cX12_once 22 = .ok (.invokestatic 109, 3) := by decide +kernel
theorem dX12_once_25 : decode cX12_once 25 = .ok (.ifCond .ne 5, 3) := by decide +kernel
theorem dX12_once_28 : decode cX12_once 28 = .ok (.iconst (-1), 1) := by decide +kernel
theorem dX12_once_29 : decode cX12_once 29 = .ok (.ireturn, 1) := by decide +kernel
theorem dX12_once_30 : decode cX12_once 30 = .ok (.aload_n 0, 1) := by decide +kernel
theorem dX12_once_31 : decode cX12_once 31 = .ok (.iload_n 1, 1) := by decide +kernel
theorem dX12_once_32 : decode cX12_once 32 = .ok (.invokevirtual 224, 3) := by decide +kernel
theorem dX12_once_35 : decode cX12_once 35 = .ok (.ifCond .ge 9, 3) := by decide +kernel
theorem dX12_once_38 : decode cX12_once 38 = .ok (.aload_n 0, 1) := by decide +kernel
theorem dX12_once_39 : decode cX12_once 39 = .ok (.iload_n 1, 1) := by decide +kernel
theorem dX12_once_40 : decode cX12_once 40 = .ok (.invokevirtual 224, 3) := by decide +kernel
theorem dX12_once_43 : decode cX12_once 43 = .ok (.ireturn, 1) := by decide +kernel
theorem dX12_once_44 : decode cX12_once 44 = .ok (.aload_n 0, 1) := by decide +kernel
theorem dX12_once_45 : decode cX12_once 45 = .ok (.iload_n 1, 1) := by decide +kernel
theorem dX12_once_46 : decode cX12_once 46 = .ok (.invokevirtual 218, 3) := by decide +kernel
theorem dX12_once_49 : decode cX12_once 49 = .ok (.istore 4, 2) := by decide +kernel
theorem dX12_once_51 : decode cX12_once 51 = .ok (.aload_n 0, 1) := by decide +kernel
theorem dX12_once_52 : decode cX12_once 52 = .ok (.iload_n 1, 1) := by decide +kernel
theorem dX12_once_53 : decode cX12_once 53 = .ok (.iload_n 2, 1) := by decide +kernel
theorem dX12_once_54 : decode cX12_once 54 = .ok (.invokevirtual 251, 3) := by decide +kernel
theorem dX12_once_57 : decode cX12_once 57 = .ok (.iconst 0, 1) := by decide +kernel
theorem dX12_once_58 : decode cX12_once 58 = .ok (.istore 5, 2) := by decide +kernel
theorem dX12_once_60 : decode cX12_once 60 = .ok (.bipush (-2), 2) := by decide +kernel
theorem dX12_once_62 : decode cX12_once 62 = .ok (.istore 6, 2) := by decide +kernel
theorem dX12_once_64 : decode cX12_once 64 = .ok (.bipush (-2), 2) := by decide +kernel
theorem dX12_once_66 : decode cX12_once 66 = .ok (.istore 7, 2) := by decide +kernel
theorem dX12_once_68 : decode cX12_once 68 = .ok (.iconst (-1), 1) := by decide +kernel
theorem dX12_once_69 : decode cX12_once 69 = .ok (.istore 8, 2) := by decide +kernel
theorem dX12_once_71 : decode cX12_once 71 = .ok (.iload 8, 2) := by decide +kernel
theorem dX12_once_73 : decode cX12_once 73 = .ok (.iload 4, 2) := by decide +kernel
theorem dX12_once_75 : decode cX12_once 75 = .ok (.if_icmp .ge 182, 3) := by decide +kernel
theorem dX12_once_78 : decode cX12_once 78 = .ok (.iconst 0, 1) := by decide +kernel
theorem dX12_once_79 : decode cX12_once 79 = .ok (.istore 9, 2) := by decide +kernel
theorem dX12_once_81 : decode cX12_once 81 = .ok (.iload 9, 2) := by decide +kernel
theorem dX12_once_83 : decode cX12_once 83 = .ok (.iload 8, 2) := by decide +kernel
theorem dX12_once_85 : decode cX12_once 85 = .ok (.ifCond .ge 7, 3) := by decide +kernel
theorem dX12_once_88 : decode cX12_once 88 = .ok (.iconst 1, 1) := by decide +kernel
theorem dX12_once_89 : decode cX12_once 89 = .ok (.goto 5, 3) := by decide +kernel
theorem dX12_once_92 : decode cX12_once 92 = .ok (.bipush 61, 2) := by decide +kernel
theorem dX12_once_94 : decode cX12_once 94 = .ok (.if_icmp .ge 157, 3) := by decide +kernel
theorem dX12_once_97 : decode cX12_once 97 = .ok (.aload_n 0, 1) := by decide +kernel
theorem dX12_once_98 : decode cX12_once 98 = .ok (.getfield 22, 3) := by decide +kernel
theorem dX12_once_101 : decode cX12_once 101 = .ok (.iload_n 2, 1) := by decide +kernel
theorem dX12_once_102 : decode cX12_once 102 = .ok (.iaload, 1) := by decide +kernel
theorem dX12_once_103 : decode cX12_once 103 = .ok (.istore 10, 2) := by decide +kernel
theorem dX12_once_105 : decode cX12_once 105 = .ok (.iconst 0, 1) := by decide +kernel
theorem dX12_once_106 : decode cX12_once 106 = .ok (.istore 11, 2) := by decide +kernel
theorem dX12_once_108 : decode cX12_once 108 = .ok (.iconst 0, 1) := by decide +kernel
theorem dX12_once_109 : decode cX12_once 109 = .ok (.istore 12, 2) := by decide +kernel
theorem dX12_once_111 : decode cX12_once 111 = .ok (.iload 12, 2) := by decide +kernel
theorem dX12_once_113 : decode cX12_once 113 = .ok (.iload 4, 2) := by decide +kernel
theorem dX12_once_115 : decode cX12_once 115 = .ok (.if_icmp .ge 86, 3) := by decide +kernel
theorem dX12_once_118 : decode cX12_once 118 = .ok (.iload 11, 2) := by decide +kernel
theorem dX12_once_120 : decode cX12_once 120 = .ok (.iload 12, 2) := by decide +kernel
theorem dX12_once_122 : decode cX12_once 122 = .ok (.iload 8, 2) := by decide +kernel
theorem dX12_once_124 : decode cX12_once 124 = .ok (.if_icmp .ne 24, 3) := by decide +kernel
theorem dX12_once_127 : decode cX12_once 127 = .ok (.iload 9, 2) := by decide +kernel
theorem dX12_once_129 : decode cX12_once 129 = .ok (.iload 10, 2) := by decide +kernel
theorem dX12_once_131 : decode cX12_once 131 = .ok (.isub, 1) := by decide +kernel
theorem dX12_once_132 : decode cX12_once 132 = .ok (.invokestatic 211, 3) := by decide +kernel
theorem dX12_once_135 : decode cX12_once 135 = .ok (.aload_n 0, 1) := by decide +kernel
theorem dX12_once_136 : decode cX12_once 136 = .ok (.getfield 9, 3) := by decide +kernel
theorem dX12_once_139 : decode cX12_once 139 = .ok (.bipush 67, 2) := by decide +kernel
theorem dX12_once_141 : decode cX12_once 141 = .ok (.iload_n 2, 1) := by decide +kernel
theorem dX12_once_142 : decode cX12_once 142 = .ok (.iadd, 1) := by decide +kernel
theorem dX12_once_143 : decode cX12_once 143 = .ok (.iaload, 1) := by decide +kernel
theorem dX12_once_144 : decode cX12_once 144 = .ok (.imul, 1) := by decide +kernel
theorem dX12_once_145 : decode cX12_once 145 = .ok (.goto 4, 3) := by decide +kernel
theorem dX12_once_148 : decode cX12_once 148 = .ok (.iconst 0, 1) := by decide +kernel
theorem dX12_once_149 : decode cX12_once 149 = .ok (.iadd, 1) := by decide +kernel
theorem dX12_once_150 : decode cX12_once 150 = .ok (.istore 11, 2) := by decide +kernel
theorem dX12_once_152 : decode cX12_once 152 = .ok (.iload 12, 2) := by decide +kernel
theorem dX12_once_154 : decode cX12_once 154 = .ok (.iload 8, 2) := by decide +kernel
theorem dX12_once_156 : decode cX12_once 156 = .ok (.if_icmp .ne 8, 3) := by decide +kernel
theorem dX12_once_159 : decode cX12_once 159 = .ok (.iload 9, 2) := by decide +kernel
theorem dX12_once_161 : decode cX12_once 161 = .ok (.goto 5, 3) := by decide +kernel
theorem dX12_once_164 : decode cX12_once 164 = .ok (.iload 10, 2) := by decide +kernel
theorem dX12_once_166 : decode cX12_once 166 = .ok (.istore 10, 2) := by decide +kernel
theorem dX12_once_168 : decode cX12_once 168 = .ok (.iload 11, 2) := by decide +kernel
theorem dX12_once_170 : decode cX12_once 170 = .ok (.aload_n 0, 1) := by decide +kernel
theorem dX12_once_171 : decode cX12_once 171 = .ok (.getfield 34, 3) := by decide +kernel
theorem dX12_once_174 : decode cX12_once 174 = .ok (.bipush 61, 2) := by decide +kernel
theorem dX12_once_176 : decode cX12_once 176 = .ok (.iload 12, 2) := by decide +kernel
theorem dX12_once_178 : decode cX12_once 178 = .ok (.imul, 1) := by decide +kernel
theorem dX12_once_179 : decode cX12_once 179 = .ok (.iload 10, 2) := by decide +kernel
theorem dX12_once_181 : decode cX12_once 181 = .ok (.iadd, 1) := by decide +kernel
theorem dX12_once_182 : decode cX12_once 182 = .ok (.iaload, 1) := by decide +kernel
theorem dX12_once_183 : decode cX12_once 183 = .ok (.iadd, 1) := by decide +kernel
theorem dX12_once_184 : decode cX12_once 184 = .ok (.istore 11, 2) := by decide +kernel
theorem dX12_once_186 : decode cX12_once 186 = .ok (.aload_n 0, 1) := by decide +kernel
theorem dX12_once_187 : decode cX12_once 187 = .ok (.iload_n 2, 1) := by decide +kernel
theorem dX12_once_188 : decode cX12_once 188 = .ok (.iload 10, 2) := by decide +kernel
theorem dX12_once_190 : decode cX12_once 190 = .ok (.invokevirtual 248, 3) := by decide +kernel
theorem dX12_once_193 : decode cX12_once 193 = .ok (.istore 10, 2) := by decide +kernel
theorem dX12_once_195 : decode cX12_once 195 = .ok (.iinc 12 1, 3) := by decide +kernel
theorem dX12_once_198 : decode cX12_once 198 = .ok (.goto (-87), 3) := by decide +kernel
theorem dX12_once_201 : decode cX12_once 201 = .ok (.iload 8, 2) := by decide +kernel
theorem dX12_once_203 : decode cX12_once 203 = .ok (.ifCond .lt 10, 3) := by decide +kernel
theorem dX12_once_206 : decode cX12_once 206 = .ok (.iload 11, 2) := by decide +kernel
theorem dX12_once_208 : decode cX12_once 208 = .ok (.iload 5, 2) := by decide +kernel
theorem dX12_once_210 : decode cX12_once 210 = .ok (.if_icmp .ge 35, 3) := by decide +kernel
theorem dX12_once_213 : decode cX12_once 213 = .ok (.iload 11, 2) := by decide +kernel
theorem dX12_once_215 : decode cX12_once 215 = .ok (.istore 5, 2) := by decide +kernel
theorem dX12_once_217 : decode cX12_once 217 = .ok (.iload 8, 2) := by decide +kernel
theorem dX12_once_219 : decode cX12_once 219 = .ok (.ifCond .ge 8, 3) := by decide +kernel
theorem dX12_once_222 : decode cX12_once 222 = .ok (.bipush (-2), 2) := by decide +kernel
theorem dX12_once_224 : decode cX12_once 224 = .ok (.goto 5, 3) := by decide +kernel
theorem dX12_once_227 : decode cX12_once 227 = .ok (.iload 8, 2) := by decide +kernel
theorem dX12_once_229 : decode cX12_once 229 = .ok (.istore 6, 2) := by decide +kernel
theorem dX12_once_231 : decode cX12_once 231 = .ok (.iload 8, 2) := by decide +kernel
theorem dX12_once_233 : decode cX12_once 233 = .ok (.ifCond .ge 8, 3) := by decide +kernel
theorem dX12_once_236 : decode cX12_once 236 = .ok (.bipush (-2), 2) := by decide +kernel
theorem dX12_once_238 : decode cX12_once 238 = .ok (.goto 5, 3) := by decide +kernel
theorem dX12_once_241 : decode cX12_once 241 = .ok (.iload 9, 2) := by decide +kernel
theorem dX12_once_243 : decode cX12_once 243 = .ok (.istore 7, 2) := by decide +kernel
theorem dX12_once_245 : decode cX12_once 245 = .ok (.iinc 9 1, 3) := by decide +kernel
theorem dX12_once_248 : decode cX12_once 248 = .ok (.goto (-167), 3) := by decide +kernel
theorem dX12_once_251 : decode cX12_once 251 = .ok (.iinc 8 1, 3) := by decide +kernel
theorem dX12_once_254 : decode cX12_once 254 = .ok (.goto (-183), 3) := by decide +kernel
theorem dX12_once_257 : decode cX12_once 257 = .ok (.iload_n 3, 1) := by decide +kernel
theorem dX12_once_258 : decode cX12_once 258 = .ok (.ifCond .ne 8, 3) := by decide +kernel
theorem dX12_once_261 : decode cX12_once 261 = .ok (.iload 5, 2) := by decide +kernel
theorem dX12_once_263 : decode cX12_once 263 = .ok (.goto 15, 3) := by decide +kernel
theorem dX12_once_266 : decode cX12_once 266 = .ok (.iload_n 3, 1) := by decide +kernel
theorem dX12_once_267 : decode cX12_once 267 = .ok (.iconst 1, 1) := by decide +kernel
theorem dX12_once_268 : decode cX12_once 268 = .ok (.if_icmp .ne 8, 3) := by decide +kernel
theorem dX12_once_271 : decode cX12_once 271 = .ok (.iload 6, 2) := by decide +kernel
theorem dX12_once_273 : decode cX12_once 273 = .ok (.goto 5, 3) := by decide +kernel
theorem dX12_once_276 : decode cX12_once 276 = .ok (.iload 7, 2) := by decide +kernel
theorem dX12_once_278 : decode cX12_once 278 = .ok (.ireturn, 1) := by decide +kernel
theorem dX12_nearBy_0 : decode cX12_nearBy 0 = .ok (.iload_n 1, 1) := by decide +kernel
theorem dX12_nearBy_1 : decode cX12_nearBy 1 = .ok (.aload_n 0, 1) := by decide +kernel
theorem dX12_nearBy_2 : decode cX12_nearBy 2 = .ok (.getfield 94, 3) := by decide +kernel
theorem dX12_nearBy_5 : decode cX12_nearBy 5 = .ok (.if_icmp .ne 10, 3) := by decide +kernel
theorem dX12_nearBy_8 : decode cX12_nearBy 8 = .ok (.aload_n 0, 1) := by decide +kernel
theorem dX12_nearBy_9 : decode cX12_nearBy 9 = .ok (.getfield 259, 3) := by decide +kernel
theorem dX12_nearBy_12 : decode cX12_nearBy 12 = .ok (.goto 10, 3) := by decide +kernel
theorem dX12_nearBy_15 : decode cX12_nearBy 15 = .ok (.aload_n 0, 1) := by decide +kernel
theorem dX12_nearBy_16 : decode cX12_nearBy 16 = .ok (.iload_n 1, 1) := by decide +kernel
theorem dX12_nearBy_17 : decode cX12_nearBy 17 = .ok (.bipush 6, 2) := by decide +kernel
theorem dX12_nearBy_19 : decode cX12_nearBy 19 = .ok (.invokevirtual 208, 3) := by decide +kernel
theorem dX12_nearBy_22 : decode cX12_nearBy 22 = .ok (.ireturn, 1) := by decide +kernel
theorem dX12_priceOf_0 : decode cX12_priceOf 0 = .ok (.aload_n 0, 1) := by decide +kernel
theorem dX12_priceOf_1 : decode cX12_priceOf 1 = .ok (.getfield 262, 3) := by decide +kernel
theorem dX12_priceOf_4 : decode cX12_priceOf 4 = .ok (.ifCond .eq 17, 3) := by decide +kernel
theorem dX12_priceOf_7 : decode cX12_priceOf 7 = .ok (.aload_n 0, 1) := by decide +kernel
theorem dX12_priceOf_8 : decode cX12_priceOf 8 = .ok (.getfield 9, 3) := by decide +kernel
theorem dX12_priceOf_11 : decode cX12_priceOf 11 = .ok (.bipush 67, 2) := by decide +kernel
theorem dX12_priceOf_13 : decode cX12_priceOf 13 = .ok (.iload_n 1, 1) := by decide +kernel
theorem dX12_priceOf_14 : decode cX12_priceOf 14 = .ok (.iadd, 1) := by decide +kernel
theorem dX12_priceOf_15 : decode cX12_priceOf 15 = .ok (.iaload, 1) := by decide +kernel
theorem dX12_priceOf_16 : decode cX12_priceOf 16 = .ok (.iconst 2, 1) := by decide +kernel
theorem dX12_priceOf_17 : decode cX12_priceOf 17 = .ok (.idiv, 1) := by decide +kernel
theorem dX12_priceOf_18 : decode cX12_priceOf 18 = .ok (.goto 12, 3) := by decide +kernel
theorem dX12_priceOf_21 : decode cX12_priceOf 21 = .ok (.aload_n 0, 1) := by decide +kernel
theorem dX12_priceOf_22 : decode cX12_priceOf 22 = .ok (.getfield 9, 3) := by decide +kernel
theorem dX12_priceOf_25 : decode cX12_priceOf 25 = .ok (.bipush 67, 2) := by decide +kernel
theorem dX12_priceOf_27 : decode cX12_priceOf 27 = .ok (.iload_n 1, 1) := by decide +kernel
theorem dX12_priceOf_28 : decode cX12_priceOf 28 = .ok (.iadd, 1) := by decide +kernel
theorem dX12_priceOf_29 : decode cX12_priceOf 29 = .ok (.iaload, 1) := by decide +kernel
theorem dX12_priceOf_30 : decode cX12_priceOf 30 = .ok (.ireturn, 1) := by decide +kernel
theorem dX12_turnsTo_0 : decode cX12_turnsTo 0 = .ok (.iload_n 2, 1) := by decide +kernel
theorem dX12_turnsTo_1 : decode cX12_turnsTo 1 = .ok (.aload_n 0, 1) := by decide +kernel
theorem dX12_turnsTo_2 : decode cX12_turnsTo 2 = .ok (.getfield 44, 3) := by decide +kernel
theorem dX12_turnsTo_5 : decode cX12_turnsTo 5 = .ok (.iload_n 1, 1) := by decide +kernel
theorem dX12_turnsTo_6 : decode cX12_turnsTo 6 = .ok (.iaload, 1) := by decide +kernel
theorem dX12_turnsTo_7 : decode cX12_turnsTo 7 = .ok (.isub, 1) := by decide +kernel
theorem dX12_turnsTo_8 : decode cX12_turnsTo 8 = .ok (.invokestatic 211, 3) := by decide +kernel
theorem dX12_turnsTo_11 : decode cX12_turnsTo 11 = .ok (.istore 4, 2) := by decide +kernel
theorem dX12_turnsTo_13 : decode cX12_turnsTo 13 = .ok (.iload 4, 2) := by decide +kernel
theorem dX12_turnsTo_15 : decode cX12_turnsTo 15 = .ok (.aload_n 0, 1) := by decide +kernel
theorem dX12_turnsTo_16 : decode cX12_turnsTo 16 = .ok (.iload_n 1, 1) := by decide +kernel
theorem dX12_turnsTo_17 : decode cX12_turnsTo 17 = .ok (.invokevirtual 266, 3) := by decide +kernel
theorem dX12_turnsTo_20 : decode cX12_turnsTo 20 = .ok (.imul, 1) := by decide +kernel
theorem dX12_turnsTo_21 : decode cX12_turnsTo 21 = .ok (.istore 5, 2) := by decide +kernel
theorem dX12_turnsTo_23 : decode cX12_turnsTo 23 = .ok (.aload_n 0, 1) := by decide +kernel
theorem dX12_turnsTo_24 : decode cX12_turnsTo 24 = .ok (.dup, 1) := by decide +kernel
theorem dX12_turnsTo_25 : decode cX12_turnsTo 25 = .ok (.getfield 269, 3) := by decide +kernel
theorem dX12_turnsTo_28 : decode cX12_turnsTo 28 = .ok (.iload 4, 2) := by decide +kernel
theorem dX12_turnsTo_30 : decode cX12_turnsTo 30 = .ok (.iadd, 1) := by decide +kernel
theorem dX12_turnsTo_31 : decode cX12_turnsTo 31 = .ok (.putfield 269, 3) := by decide +kernel
theorem dX12_turnsTo_34 : decode cX12_turnsTo 34 = .ok (.aload_n 0, 1) := by decide +kernel
theorem dX12_turnsTo_35 : decode cX12_turnsTo 35 = .ok (.dup, 1) := by decide +kernel
theorem dX12_turnsTo_36 : decode cX12_turnsTo 36 = .ok (.getfield 272, 3) := by decide +kernel
theorem dX12_turnsTo_39 : decode cX12_turnsTo 39 = .ok (.iload_n 3, 1) := by decide +kernel
theorem dX12_turnsTo_40 : decode cX12_turnsTo 40 = .ok (.ifCond .lt 36, 3) := by decide +kernel
theorem dX12_turnsTo_43 : decode cX12_turnsTo 43 = .ok (.aload_n 0, 1) := by decide +kernel
theorem dX12_turnsTo_44 : decode cX12_turnsTo 44 = .ok (.getfield 275, 3) := by decide +kernel
theorem dX12_turnsTo_47 : decode cX12_turnsTo 47 = .ok (.iload_n 3, 1) := by decide +kernel
theorem dX12_turnsTo_48 : decode cX12_turnsTo 48 = .ok (.invokestatic 278, 3) := by decide +kernel
theorem dX12_turnsTo_51 : decode cX12_turnsTo 51 = .ok (.ifCond .eq 25, 3) := by decide +kernel
theorem dX12_turnsTo_54 : decode cX12_turnsTo 54 = .ok (.iload 5, 2) := by decide +kernel
theorem dX12_turnsTo_56 : decode cX12_turnsTo 56 = .ok (.aload_n 0, 1) := by decide +kernel
theorem dX12_turnsTo_57 : decode cX12_turnsTo 57 = .ok (.getfield 9, 3) := by decide +kernel
theorem dX12_turnsTo_60 : decode cX12_turnsTo 60 = .ok (.bipush 70, 2) := by decide +kernel
theorem dX12_turnsTo_62 : decode cX12_turnsTo 62 = .ok (.iaload, 1) := by decide +kernel
theorem dX12_turnsTo_63 : decode cX12_turnsTo 63 = .ok (.if_icmp .le 13, 3) := by decide +kernel
theorem dX12_turnsTo_66 : decode cX12_turnsTo 66 = .ok (.aload_n 0, 1) := by decide +kernel
theorem dX12_turnsTo_67 : decode cX12_turnsTo 67 = .ok (.getfield 9, 3) := by decide +kernel
theorem dX12_turnsTo_70 : decode cX12_turnsTo 70 = .ok (.bipush 70, 2) := by decide +kernel
theorem dX12_turnsTo_72 : decode cX12_turnsTo 72 = .ok (.iaload, 1) := by decide +kernel
theorem dX12_turnsTo_73 : decode cX12_turnsTo 73 = .ok (.goto 5, 3) := by decide +kernel
theorem dX12_turnsTo_76 : decode cX12_turnsTo 76 = .ok (.iload 5, 2) := by decide +kernel
theorem dX12_turnsTo_78 : decode cX12_turnsTo 78 = .ok (.iadd, 1) := by decide +kernel
theorem dX12_turnsTo_79 : decode cX12_turnsTo 79 = .ok (.putfield 272, 3) := by decide +kernel
theorem dX12_turnsTo_82 : decode cX12_turnsTo 82 = .ok (.aload_n 0, 1) := by decide +kernel
theorem dX12_turnsTo_83 : decode cX12_turnsTo 83 = .ok (.getfield 44, 3) := by decide +kernel
theorem dX12_turnsTo_86 : decode cX12_turnsTo 86 = .ok (.iload_n 1, 1) := by decide +kernel
theorem dX12_turnsTo_87 : decode cX12_turnsTo 87 = .ok (.iload_n 2, 1) := by decide +kernel
theorem dX12_turnsTo_88 : decode cX12_turnsTo 88 = .ok (.iastore, 1) := by decide +kernel
theorem dX12_turnsTo_89 : decode cX12_turnsTo 89 = .ok (.return_, 1) := by decide +kernel
theorem dX12_comes_0 : decode cX12_comes 0 = .ok (.iconst 0, 1) := by decide +kernel
theorem dX12_comes_1 : decode cX12_comes 1 = .ok (.istore_n 2, 1) := by decide +kernel
theorem dX12_comes_2 : decode cX12_comes 2 = .ok (.iload_n 2, 1) := by decide +kernel
theorem dX12_comes_3 : decode cX12_comes 3 = .ok (.iconst 3, 1) := by decide +kernel
theorem dX12_comes_4 : decode cX12_comes 4 = .ok (.if_icmp .ge 42, 3) := by decide +kernel
theorem dX12_comes_7 : decode cX12_comes 7 = .ok (.aload_n 0, 1) := by decide +kernel
theorem dX12_comes_8 : decode cX12_comes 8 = .ok (.iload_n 1, 1) := by decide +kernel
theorem dX12_comes_9 : decode cX12_comes 9 = .ok (.iload_n 2, 1) := by decide +kernel
theorem dX12_comes_10 : decode cX12_comes 10 = .ok (.invokevirtual 208, 3) := by decide +kernel
theorem dX12_comes_13 : decode cX12_comes 13 = .ok (.istore_n 3, 1) := by decide +kernel
theorem dX12_comes_14 : decode cX12_comes 14 = .ok (.iload_n 3, 1) := by decide +kernel
theorem dX12_comes_15 : decode cX12_comes 15 = .ok (.aload_n 0, 1) := by decide +kernel
theorem dX12_comes_16 : decode cX12_comes 16 = .ok (.getfield 44, 3) := by decide +kernel
theorem dX12_comes_19 : decode cX12_comes 19 = .ok (.iload_n 2, 1) := by decide +kernel
theorem dX12_comes_20 : decode cX12_comes 20 = .ok (.iaload, 1) := by decide +kernel
theorem dX12_comes_21 : decode cX12_comes 21 = .ok (.isub, 1) := by decide +kernel
theorem dX12_comes_22 : decode cX12_comes 22 = .ok (.invokestatic 211, 3) := by decide +kernel
theorem dX12_comes_25 : decode cX12_comes 25 = .ok (.aload_n 0, 1) := by decide +kernel
theorem dX12_comes_26 : decode cX12_comes 26 = .ok (.iload_n 1, 1) := by decide +kernel
theorem dX12_comes_27 : decode cX12_comes 27 = .ok (.invokevirtual 282, 3) := by decide +kernel
theorem dX12_comes_30 : decode cX12_comes 30 = .ok (.if_icmp .le 10, 3) := by decide +kernel
theorem dX12_comes_33 : decode cX12_comes 33 = .ok (.aload_n 0, 1) := by decide +kernel
theorem dX12_comes_34 : decode cX12_comes 34 = .ok (.iload_n 2, 1) := by decide +kernel
theorem dX12_comes_35 : decode cX12_comes 35 = .ok (.iload_n 3, 1) := by decide +kernel
theorem dX12_comes_36 : decode cX12_comes 36 = .ok (.iload_n 1, 1) := by decide +kernel
theorem dX12_comes_37 : decode cX12_comes 37 = .ok (.invokevirtual 285, 3) := by decide +kernel
theorem dX12_comes_40 : decode cX12_comes 40 = .ok (.iinc 2 1, 3) := by decide +kernel
theorem dX12_comes_43 : decode cX12_comes 43 = .ok (.goto (-41), 3) := by decide +kernel
theorem dX12_comes_46 : decode cX12_comes 46 = .ok (.iconst 0, 1) := by decide +kernel
theorem dX12_comes_47 : decode cX12_comes 47 = .ok (.istore_n 2, 1) := by decide +kernel
theorem dX12_comes_48 : decode cX12_comes 48 = .ok (.iload_n 2, 1) := by decide +kernel
theorem dX12_comes_49 : decode cX12_comes 49 = .ok (.iconst 3, 1) := by decide +kernel
theorem dX12_comes_50 : decode cX12_comes 50 = .ok (.if_icmp .ge 30, 3) := by decide +kernel
theorem dX12_comes_53 : decode cX12_comes 53 = .ok (.aload_n 0, 1) := by decide +kernel
theorem dX12_comes_54 : decode cX12_comes 54 = .ok (.dup, 1) := by decide +kernel
theorem dX12_comes_55 : decode cX12_comes 55 = .ok (.getfield 289, 3) := by decide +kernel
theorem dX12_comes_58 : decode cX12_comes 58 = .ok (.aload_n 0, 1) := by decide +kernel
theorem dX12_comes_59 : decode cX12_comes 59 = .ok (.iload_n 1, 1) := by decide +kernel
theorem dX12_comes_60 : decode cX12_comes 60 = .ok (.iload_n 2, 1) := by decide +kernel
theorem dX12_comes_61 : decode cX12_comes 61 = .ok (.aload_n 0, 1) := by decide +kernel
theorem dX12_comes_62 : decode cX12_comes 62 = .ok (.getfield 44, 3) := by decide +kernel
theorem dX12_comes_65 : decode cX12_comes 65 = .ok (.iload_n 2, 1) := by decide +kernel
theorem dX12_comes_66 : decode cX12_comes 66 = .ok (.iaload, 1) := by decide +kernel
theorem dX12_comes_67 : decode cX12_comes 67 = .ok (.invokevirtual 214, 3) := by decide +kernel
theorem dX12_comes_70 : decode cX12_comes 70 = .ok (.iadd, 1) := by decide +kernel
theorem dX12_comes_71 : decode cX12_comes 71 = .ok (.putfield 289, 3) := by decide +kernel
theorem dX12_comes_74 : decode cX12_comes 74 = .ok (.iinc 2 1, 3) := by decide +kernel
theorem dX12_comes_77 : decode cX12_comes 77 = .ok (.goto (-29), 3) := by decide +kernel
theorem dX12_comes_80 : decode cX12_comes 80 = .ok (.iconst 0, 1) := by decide +kernel
theorem dX12_comes_81 : decode cX12_comes 81 = .ok (.istore_n 2, 1) := by decide +kernel
theorem dX12_comes_82 : decode cX12_comes 82 = .ok (.iload_n 2, 1) := by decide +kernel
theorem dX12_comes_83 : decode cX12_comes 83 = .ok (.iconst 3, 1) := by decide +kernel
theorem dX12_comes_84 : decode cX12_comes 84 = .ok (.if_icmp .ge 27, 3) := by decide +kernel
theorem dX12_comes_87 : decode cX12_comes 87 = .ok (.iload_n 1, 1) := by decide +kernel
theorem dX12_comes_88 : decode cX12_comes 88 = .ok (.aload_n 0, 1) := by decide +kernel
theorem dX12_comes_89 : decode cX12_comes 89 = .ok (.getfield 97, 3) := by decide +kernel
theorem dX12_comes_92 : decode cX12_comes 92 = .ok (.if_icmp .ne 19, 3) := by decide +kernel
theorem dX12_comes_95 : decode cX12_comes 95 = .ok (.aload_n 0, 1) := by decide +kernel
theorem dX12_comes_96 : decode cX12_comes 96 = .ok (.iload_n 2, 1) := by decide +kernel
theorem dX12_comes_97 : decode cX12_comes 97 = .ok (.aload_n 0, 1) := by decide +kernel
theorem dX12_comes_98 : decode cX12_comes 98 = .ok (.getfield 292, 3) := by decide +kernel
theorem dX12_comes_101 : decode cX12_comes 101 = .ok (.iconst (-1), 1) := by decide +kernel
theorem dX12_comes_102 : decode cX12_comes 102 = .ok (.invokevirtual 285, 3) := by decide +kernel
theorem dX12_comes_105 : decode cX12_comes 105 = .ok (.iinc 2 1, 3) := by decide +kernel
theorem dX12_comes_108 : decode cX12_comes 108 = .ok (.goto (-26), 3) := by decide +kernel
theorem dX12_comes_111 : decode cX12_comes 111 = .ok (.return_, 1) := by decide +kernel
theorem dX12_beginsWeek_0 : decode cX12_beginsWeek 0 = .ok (.iconst 0, 1) := by decide +kernel
theorem dX12_beginsWeek_1 : decode cX12_beginsWeek 1 = .ok (.istore_n 1, 1) := by decide +kernel
theorem dX12_beginsWeek_2 : decode cX12_beginsWeek 2 = .ok (.iload_n 1, 1) := by decide +kernel
theorem dX12_beginsWeek_3 : decode cX12_beginsWeek 3 = .ok (.iconst 3, 1) := by decide +kernel
theorem dX12_beginsWeek_4 : decode cX12_beginsWeek 4 = .ok (.if_icmp .ge 21, 3) := by decide +kernel
theorem dX12_beginsWeek_7 : decode cX12_beginsWeek 7 = .ok (.aload_n 0, 1) := by decide +kernel
theorem dX12_beginsWeek_8 : decode cX12_beginsWeek 8 = .ok (.getfield 44, 3) := by decide +kernel
theorem dX12_beginsWeek_11 : decode cX12_beginsWeek 11 = .ok (.iload_n 1, 1) := by decide +kernel
theorem dX12_beginsWeek_12 : decode cX12_beginsWeek 12 = .ok (.aload_n 0, 1) := by decide +kernel
theorem dX12_beginsWeek_13 : decode cX12_beginsWeek 13 = .ok (.getfield 22, 3) := by decide +kernel
theorem dX12_beginsWeek_16 : decode cX12_beginsWeek 16 = .ok (.iload_n 1, 1) := by decide +kernel
theorem dX12_beginsWeek_17 : decode cX12_beginsWeek 17 = .ok (.iaload, 1) := by decide +kernel
theorem dX12_beginsWeek_18 : decode cX12_beginsWeek 18 = .ok (.iastore, 1) := by decide +kernel
theorem dX12_beginsWeek_19 : decode cX12_beginsWeek 19 = .ok (.iinc 1 1, 3) := by decide +kernel
theorem dX12_beginsWeek_22 : decode cX12_beginsWeek 22 = .ok (.goto (-20), 3) := by decide +kernel
theorem dX12_beginsWeek_25 : decode cX12_beginsWeek 25 = .ok (.aload_n 0, 1) := by decide +kernel
theorem dX12_beginsWeek_26 : decode cX12_beginsWeek 26 = .ok (.iconst 0, 1) := by decide +kernel
theorem dX12_beginsWeek_27 : decode cX12_beginsWeek 27 = .ok (.putfield 269, 3) := by decide +kernel
theorem dX12_beginsWeek_30 : decode cX12_beginsWeek 30 = .ok (.aload_n 0, 1) := by decide +kernel
theorem dX12_beginsWeek_31 : decode cX12_beginsWeek 31 = .ok (.iconst 0, 1) := by decide +kernel
theorem dX12_beginsWeek_32 : decode cX12_beginsWeek 32 = .ok (.putfield 289, 3) := by decide +kernel
theorem dX12_beginsWeek_35 : decode cX12_beginsWeek 35 = .ok (.aload_n 0, 1) := by decide +kernel
theorem dX12_beginsWeek_36 : decode cX12_beginsWeek 36 = .ok (.iconst 0, 1) := by decide +kernel
theorem dX12_beginsWeek_37 : decode cX12_beginsWeek 37 = .ok (.putfield 272, 3) := by decide +kernel
theorem dX12_beginsWeek_40 : decode cX12_beginsWeek 40 = .ok (.return_, 1) := by decide +kernel
theorem dX12_weekOf_0 : decode cX12_weekOf 0 = .ok (.aload_n 0, 1) := by decide +kernel
theorem dX12_weekOf_1 : decode cX12_weekOf 1 = .ok (.invokevirtual 295, 3) := by decide +kernel
theorem dX12_weekOf_4 : decode cX12_weekOf 4 = .ok (.iconst 0, 1) := by decide +kernel
theorem dX12_weekOf_5 : decode cX12_weekOf 5 = .ok (.istore_n 2, 1) := by decide +kernel
theorem dX12_weekOf_6 : decode cX12_weekOf 6 = .ok (.iload_n 2, 1) := by decide +kernel
theorem dX12_weekOf_7 : decode cX12_weekOf 7 = .ok (.aload_n 0, 1) := by decide +kernel
theorem dX12_weekOf_8 : decode cX12_weekOf 8 = .ok (.iload_n 1, 1) := by decide +kernel
theorem dX12_weekOf_9 : decode cX12_weekOf 9 = .ok (.invokevirtual 218, 3) := by decide +kernel
theorem dX12_weekOf_12 : decode cX12_weekOf 12 = .ok (.if_icmp .ge 118, 3) := by decide +kernel
theorem dX12_weekOf_15 : decode cX12_weekOf 15 = .ok (.iconst 0, 1) := by decide +kernel
theorem dX12_weekOf_16 : decode cX12_weekOf 16 = .ok (.istore_n 3, 1) := by decide +kernel
theorem dX12_weekOf_17 : decode cX12_weekOf 17 = .ok (.iload_n 3, 1) := by decide +kernel
theorem dX12_weekOf_18 : decode cX12_weekOf 18 = .ok (.iconst 3, 1) := by decide +kernel
theorem dX12_weekOf_19 : decode cX12_weekOf 19 = .ok (.if_icmp .ge 25, 3) := by decide +kernel
theorem dX12_weekOf_22 : decode cX12_weekOf 22 = .ok (.aload_n 0, 1) := by decide +kernel
theorem dX12_weekOf_23 : decode cX12_weekOf 23 = .ok (.getfield 47, 3) := by decide +kernel
theorem dX12_weekOf_26 : decode cX12_weekOf 26 = .ok (.iconst 3, 1) := by decide +kernel
theorem dX12_weekOf_27 : decode cX12_weekOf 27 = .ok (.iload_n 2, 1) := by decide +kernel
theorem dX12_weekOf_28 : decode cX12_weekOf 28 = .ok (.imul, 1) := by decide +kernel
theorem dX12_weekOf_29 : decode cX12_weekOf 29 = .ok (.iload_n 3, 1) := by decide +kernel
theorem dX12_weekOf_30 : decode cX12_weekOf 30 = .ok (.iadd, 1) := by decide +kernel
theorem dX12_weekOf_31 : decode cX12_weekOf 31 = .ok (.aload_n 0, 1) := by decide +kernel
theorem dX12_weekOf_32 : decode cX12_weekOf 32 = .ok (.getfield 44, 3) := by decide +kernel
theorem dX12_weekOf_35 : decode cX12_weekOf 35 = .ok (.iload_n 3, 1) := by decide +kernel
theorem dX12_weekOf_36 : decode cX12_weekOf 36 = .ok (.iaload, 1) := by decide +kernel
theorem dX12_weekOf_37 : decode cX12_weekOf 37 = .ok (.iastore, 1) := by decide +kernel
theorem dX12_weekOf_38 : decode cX12_weekOf 38 = .ok (.iinc 3 1, 3) := by decide +kernel
theorem dX12_weekOf_41 : decode cX12_weekOf 41 = .ok (.goto (-24), 3) := by decide +kernel
theorem dX12_weekOf_44 : decode cX12_weekOf 44 = .ok (.aload_n 0, 1) := by decide +kernel
theorem dX12_weekOf_45 : decode cX12_weekOf 45 = .ok (.iload_n 1, 1) := by decide +kernel
theorem dX12_weekOf_46 : decode cX12_weekOf 46 = .ok (.iload_n 2, 1) := by decide +kernel
theorem dX12_weekOf_47 : decode cX12_weekOf 47 = .ok (.invokevirtual 221, 3) := by decide +kernel
theorem dX12_weekOf_50 : decode cX12_weekOf 50 = .ok (.istore_n 3, 1) := by decide +kernel
theorem dX12_weekOf_51 : decode cX12_weekOf 51 = .ok (.iload_n 3, 1) := by decide +kernel
theorem dX12_weekOf_52 : decode cX12_weekOf 52 = .ok (.ifCond .lt 17, 3) := by decide +kernel
theorem dX12_weekOf_55 : decode cX12_weekOf 55 = .ok (.aload_n 0, 1) := by decide +kernel
theorem dX12_weekOf_56 : decode cX12_weekOf 56 = .ok (.getfield 40, 3) := by decide +kernel
theorem dX12_weekOf_59 : decode cX12_weekOf 59 = .ok (.iload_n 2, 1) := by decide +kernel
theorem dX12_weekOf_60 : decode cX12_weekOf 60 = .ok (.baload, 1) := by decide +kernel
theorem dX12_weekOf_61 : decode cX12_weekOf 61 = .ok (.ifCond .ne 8, 3) := by decide +kernel
theorem dX12_weekOf_64 : decode cX12_weekOf 64 = .ok (.aload_n 0, 1) := by decide +kernel
theorem dX12_weekOf_65 : decode cX12_weekOf 65 = .ok (.iload_n 3, 1) := by decide +kernel
theorem dX12_weekOf_66 : decode cX12_weekOf 66 = .ok (.invokevirtual 298, 3) := by decide +kernel
theorem dX12_weekOf_69 : decode cX12_weekOf 69 = .ok (.iconst 0, 1) := by decide +kernel
theorem dX12_weekOf_70 : decode cX12_weekOf 70 = .ok (.istore 4, 2) := by decide +kernel
theorem dX12_weekOf_72 : decode cX12_weekOf 72 = .ok (.iload 4, 2) := by decide +kernel
theorem dX12_weekOf_74 : decode cX12_weekOf 74 = .ok (.iconst 3, 1) := by decide +kernel
theorem dX12_weekOf_75 : decode cX12_weekOf 75 = .ok (.if_icmp .ge 49, 3) := by decide +kernel
theorem dX12_weekOf_78 : decode cX12_weekOf 78 = .ok (.aload_n 0, 1) := by decide +kernel
theorem dX12_weekOf_79 : decode cX12_weekOf 79 = .ok (.getfield 44, 3) := by decide +kernel
theorem dX12_weekOf_82 : decode cX12_weekOf 82 = .ok (.iload 4, 2) := by decide +kernel
theorem dX12_weekOf_84 : decode cX12_weekOf 84 = .ok (.aload_n 0, 1) := by decide +kernel
theorem dX12_weekOf_85 : decode cX12_weekOf 85 = .ok (.iload 4, 2) := by decide +kernel
theorem dX12_weekOf_87 : decode cX12_weekOf 87 = .ok (.aload_n 0, 1) := by decide +kernel
theorem dX12_weekOf_88 : decode cX12_weekOf 88 = .ok (.getfield 44, 3) := by decide +kernel
theorem dX12_weekOf_91 : decode cX12_weekOf 91 = .ok (.iload 4, 2) := by decide +kernel
theorem dX12_weekOf_93 : decode cX12_weekOf 93 = .ok (.iaload, 1) := by decide +kernel
theorem dX12_weekOf_94 : decode cX12_weekOf 94 = .ok (.invokevirtual 248, 3) := by decide +kernel
theorem dX12_weekOf_97 : decode cX12_weekOf 97 = .ok (.iastore, 1) := by decide +kernel
theorem dX12_weekOf_98 : decode cX12_weekOf 98 = .ok (.aload_n 0, 1) := by decide +kernel
theorem dX12_weekOf_99 : decode cX12_weekOf 99 = .ok (.getfield 47, 3) := by decide +kernel
theorem dX12_weekOf_102 : decode cX12_weekOf 102 = .ok (.iconst 3, 1) := by decide +kernel
theorem dX12_weekOf_103 : decode cX12_weekOf 103 = .ok (.iload_n 2, 1) := by decide +kernel
theorem dX12_weekOf_104 : decode cX12_weekOf 104 = .ok (.iconst 1, 1) := by decide +kernel
theorem dX12_weekOf_105 : decode cX12_weekOf 105 = .ok (.iadd, 1) := by decide +kernel
theorem dX12_weekOf_106 : decode cX12_weekOf 106 = .ok (.imul, 1) := by decide +kernel
theorem dX12_weekOf_107 : decode cX12_weekOf 107 = .ok (.iload 4, 2) := by decide +kernel
theorem dX12_weekOf_109 : decode cX12_weekOf 109 = .ok (.iadd, 1) := by decide +kernel
theorem dX12_weekOf_110 : decode cX12_weekOf 110 = .ok (.aload_n 0, 1) := by decide +kernel
theorem dX12_weekOf_111 : decode cX12_weekOf 111 = .ok (.getfield 44, 3) := by decide +kernel
theorem dX12_weekOf_114 : decode cX12_weekOf 114 = .ok (.iload 4, 2) := by decide +kernel
theorem dX12_weekOf_116 : decode cX12_weekOf 116 = .ok (.iaload, 1) := by decide +kernel
theorem dX12_weekOf_117 : decode cX12_weekOf 117 = .ok (.iastore, 1) := by decide +kernel
theorem dX12_weekOf_118 : decode cX12_weekOf 118 = .ok (.iinc 4 1, 3) := by decide +kernel
theorem dX12_weekOf_121 : decode cX12_weekOf 121 = .ok (.goto (-49), 3) := by decide +kernel
theorem dX12_weekOf_124 : decode cX12_weekOf 124 = .ok (.iinc 2 1, 3) := by decide +kernel
theorem dX12_weekOf_127 : decode cX12_weekOf 127 = .ok (.goto (-121), 3) := by decide +kernel
theorem dX12_weekOf_130 : decode cX12_weekOf 130 = .ok (.aload_n 0, 1) := by decide +kernel
theorem dX12_weekOf_131 : decode cX12_weekOf 131 = .ok (.getfield 272, 3) := by decide +kernel
theorem dX12_weekOf_134 : decode cX12_weekOf 134 = .ok (.aload_n 0, 1) := by decide +kernel
theorem dX12_weekOf_135 : decode cX12_weekOf 135 = .ok (.getfield 289, 3) := by decide +kernel
theorem dX12_weekOf_138 : decode cX12_weekOf 138 = .ok (.iadd, 1) := by decide +kernel
theorem dX12_weekOf_139 : decode cX12_weekOf 139 = .ok (.ireturn, 1) := by decide +kernel
theorem dX12_week_0 : decode cX12_week 0 = .ok (.aload_n 0, 1) := by decide +kernel
theorem dX12_week_1 : decode cX12_week 1 = .ok (.iload_n 1, 1) := by decide +kernel
theorem dX12_week_2 : decode cX12_week 2 = .ok (.invokevirtual 224, 3) := by decide +kernel
theorem dX12_week_5 : decode cX12_week 5 = .ok (.iconst (-1), 1) := by decide +kernel
theorem dX12_week_6 : decode cX12_week 6 = .ok (.if_icmp .eq 15, 3) := by decide +kernel
theorem dX12_week_9 : decode cX12_week 9 = .ok (.iload_n 2, 1) := by decide +kernel
theorem dX12_week_10 : decode cX12_week 10 = .ok (.i2l, 1) := by decide +kernel
theorem dX12_week_11 : decode cX12_week 11 = .ok (.lconst 0, 1) := by decide +kernel
theorem dX12_week_12 : decode cX12_week 12 = .ok (.ldc2_w 113, 3) := by decide +kernel
theorem dX12_week_15 : decode cX12_week 15 = .ok (.invokestatic 109, 3) := by decide +kernel
theorem dX12_week_18 : decode cX12_week 18 = .ok (.ifCond .ne 5, 3) := by decide +kernel
theorem dX12_week_21 : decode cX12_week 21 = .ok (.iconst (-1), 1) := by decide +kernel
theorem dX12_week_22 : decode cX12_week 22 = .ok (.ireturn, 1) := by decide +kernel
theorem dX12_week_23 : decode cX12_week 23 = .ok (.aload_n 0, 1) := by decide +kernel
theorem dX12_week_24 : decode cX12_week 24 = .ok (.iload_n 1, 1) := by decide +kernel
theorem dX12_week_25 : decode cX12_week 25 = .ok (.invokevirtual 224, 3) := by decide +kernel
theorem dX12_week_28 : decode cX12_week 28 = .ok (.ifCond .ge 9, 3) := by decide +kernel
theorem dX12_week_31 : decode cX12_week 31 = .ok (.aload_n 0, 1) := by decide +kernel
theorem dX12_week_32 : decode cX12_week 32 = .ok (.iload_n 1, 1) := by decide +kernel
theorem dX12_week_33 : decode cX12_week 33 = .ok (.invokevirtual 224, 3) := by decide +kernel
theorem dX12_week_36 : decode cX12_week 36 = .ok (.ireturn, 1) := by decide +kernel
theorem dX12_week_37 : decode cX12_week 37 = .ok (.aload_n 0, 1) := by decide +kernel
theorem dX12_week_38 : decode cX12_week 38 = .ok (.iload_n 1, 1) := by decide +kernel
theorem dX12_week_39 : decode cX12_week 39 = .ok (.invokevirtual 302, 3) := by decide +kernel
theorem dX12_week_42 : decode cX12_week 42 = .ok (.istore_n 3, 1) := by decide +kernel
theorem dX12_week_43 : decode cX12_week 43 = .ok (.iload_n 2, 1) := by decide +kernel
theorem dX12_week_44 : decode cX12_week 44 = .ok (.ifCond .ne 10, 3) := by decide +kernel
theorem dX12_week_47 : decode cX12_week 47 = .ok (.aload_n 0, 1) := by decide +kernel
theorem dX12_week_48 : decode cX12_week 48 = .ok (.getfield 269, 3) := by decide +kernel
theorem dX12_week_51 : decode cX12_week 51 = .ok (.goto 16, 3) := by decide +kernel
theorem dX12_week_54 : decode cX12_week 54 = .ok (.iload_n 2, 1) := by decide +kernel
theorem dX12_week_55 : decode cX12_week 55 = .ok (.iconst 1, 1) := by decide +kernel
theorem dX12_week_56 : decode cX12_week 56 = .ok (.if_icmp .ne 10, 3) := by decide +kernel
theorem dX12_week_59 : decode cX12_week 59 = .ok (.aload_n 0, 1) := by decide +kernel
theorem dX12_week_60 : decode cX12_week 60 = .ok (.getfield 289, 3) := by decide +kernel
theorem dX12_week_63 : decode cX12_week 63 = .ok (.goto 4, 3) := by decide +kernel
theorem dX12_week_66 : decode cX12_week 66 = .ok (.iload_n 3, 1) := by decide +kernel
theorem dX12_week_67 : decode cX12_week 67 = .ok (.ireturn, 1) := by decide +kernel
theorem dX12_stands_0 : decode cX12_stands 0 = .ok (.aload_n 0, 1) := by decide +kernel
theorem dX12_stands_1 : decode cX12_stands 1 = .ok (.iload_n 1, 1) := by decide +kernel
theorem dX12_stands_2 : decode cX12_stands 2 = .ok (.invokevirtual 224, 3) := by decide +kernel
theorem dX12_stands_5 : decode cX12_stands 5 = .ok (.iconst (-1), 1) := by decide +kernel
theorem dX12_stands_6 : decode cX12_stands 6 = .ok (.if_icmp .eq 14, 3) := by decide +kernel
theorem dX12_stands_9 : decode cX12_stands 9 = .ok (.iload_n 2, 1) := by decide +kernel
theorem dX12_stands_10 : decode cX12_stands 10 = .ok (.invokestatic 140, 3) := by decide +kernel
theorem dX12_stands_13 : decode cX12_stands 13 = .ok (.ifCond .eq 7, 3) := by decide +kernel
theorem dX12_stands_16 : decode cX12_stands 16 = .ok (.iload_n 3, 1) := by decide +kernel
theorem dX12_stands_17 : decode cX12_stands 17 = .ok (.ifCond .ge 5, 3) := by decide +kernel
theorem dX12_stands_20 : decode cX12_stands 20 = .ok (.iconst (-1), 1) := by decide +kernel
theorem dX12_stands_21 : decode cX12_stands 21 = .ok (.ireturn, 1) := by decide +kernel
theorem dX12_stands_22 : decode cX12_stands 22 = .ok (.aload_n 0, 1) := by decide +kernel
theorem dX12_stands_23 : decode cX12_stands 23 = .ok (.iload_n 1, 1) := by decide +kernel
theorem dX12_stands_24 : decode cX12_stands 24 = .ok (.invokevirtual 224, 3) := by decide +kernel
theorem dX12_stands_27 : decode cX12_stands 27 = .ok (.ifCond .ge 9, 3) := by decide +kernel
theorem dX12_stands_30 : decode cX12_stands 30 = .ok (.aload_n 0, 1) := by decide +kernel
theorem dX12_stands_31 : decode cX12_stands 31 = .ok (.iload_n 1, 1) := by decide +kernel
theorem dX12_stands_32 : decode cX12_stands 32 = .ok (.invokevirtual 224, 3) := by decide +kernel
theorem dX12_stands_35 : decode cX12_stands 35 = .ok (.ireturn, 1) := by decide +kernel
theorem dX12_stands_36 : decode cX12_stands 36 = .ok (.iload_n 3, 1) := by decide +kernel
theorem dX12_stands_37 : decode cX12_stands 37 = .ok (.aload_n 0, 1) := by decide +kernel
theorem dX12_stands_38 : decode cX12_stands 38 = .ok (.iload_n 1, 1) := by decide +kernel
theorem dX12_stands_39 : decode cX12_stands 39 = .ok (.invokevirtual 218, 3) := by decide +kernel
theorem dX12_stands_42 : decode cX12_stands 42 = .ok (.if_icmp .le 5, 3) := by decide +kernel
theorem dX12_stands_45 : decode cX12_stands 45 = .ok (.iconst (-1), 1) := by decide +kernel
theorem dX12_stands_46 : decode cX12_stands 46 = .ok (.ireturn, 1) := by decide +kernel
theorem dX12_stands_47 : decode cX12_stands 47 = .ok (.aload_n 0, 1) := by decide +kernel
theorem dX12_stands_48 : decode cX12_stands 48 = .ok (.iload_n 1, 1) := by decide +kernel
theorem dX12_stands_49 : decode cX12_stands 49 = .ok (.invokevirtual 302, 3) := by decide +kernel
theorem dX12_stands_52 : decode cX12_stands 52 = .ok (.pop, 1) := by decide +kernel
theorem dX12_stands_53 : decode cX12_stands 53 = .ok (.iload_n 3, 1) := by decide +kernel
theorem dX12_stands_54 : decode cX12_stands 54 = .ok (.ifCond .ne 12, 3) := by decide +kernel
theorem dX12_stands_57 : decode cX12_stands 57 = .ok (.aload_n 0, 1) := by decide +kernel
theorem dX12_stands_58 : decode cX12_stands 58 = .ok (.getfield 22, 3) := by decide +kernel
theorem dX12_stands_61 : decode cX12_stands 61 = .ok (.iload_n 2, 1) := by decide +kernel
theorem dX12_stands_62 : decode cX12_stands 62 = .ok (.iaload, 1) := by decide +kernel
theorem dX12_stands_63 : decode cX12_stands 63 = .ok (.goto 13, 3) := by decide +kernel
theorem dX12_stands_66 : decode cX12_stands 66 = .ok (.aload_n 0, 1) := by decide +kernel
theorem dX12_stands_67 : decode cX12_stands 67 = .ok (.getfield 47, 3) := by decide +kernel
theorem dX12_stands_70 : decode cX12_stands 70 = .ok (.iconst 3, 1) := by decide +kernel
theorem dX12_stands_71 : decode cX12_stands 71 = .ok (.iload_n 3, 1) := by decide +kernel
theorem dX12_stands_72 : decode cX12_stands 72 = .ok (.imul, 1) := by decide +kernel
theorem dX12_stands_73 : decode cX12_stands 73 = .ok (.iload_n 2, 1) := by decide +kernel
theorem dX12_stands_74 : decode cX12_stands 74 = .ok (.iadd, 1) := by decide +kernel
theorem dX12_stands_75 : decode cX12_stands 75 = .ok (.iaload, 1) := by decide +kernel
theorem dX12_stands_76 : decode cX12_stands 76 = .ok (.ireturn, 1) := by decide +kernel
theorem dX12_pays_0 : decode cX12_pays 0 = .ok (.aload_n 0, 1) := by decide +kernel
theorem dX12_pays_1 : decode cX12_pays 1 = .ok (.iload_n 1, 1) := by decide +kernel
theorem dX12_pays_2 : decode cX12_pays 2 = .ok (.invokevirtual 224, 3) := by decide +kernel
theorem dX12_pays_5 : decode cX12_pays 5 = .ok (.iconst (-1), 1) := by decide +kernel
theorem dX12_pays_6 : decode cX12_pays 6 = .ok (.if_icmp .eq 22, 3) := by decide +kernel
theorem dX12_pays_9 : decode cX12_pays 9 = .ok (.aload_n 0, 1) := by decide +kernel
theorem dX12_pays_10 : decode cX12_pays 10 = .ok (.iload_n 2, 1) := by decide +kernel
theorem dX12_pays_11 : decode cX12_pays 11 = .ok (.i2l, 1) := by decide +kernel
theorem dX12_pays_12 : decode cX12_pays 12 = .ok (.invokevirtual 135, 3) := by decide +kernel
theorem dX12_pays_15 : decode cX12_pays 15 = .ok (.ifCond .eq 13, 3) := by decide +kernel
theorem dX12_pays_18 : decode cX12_pays 18 = .ok (.iload_n 3, 1) := by decide +kernel
theorem dX12_pays_19 : decode cX12_pays 19 = .ok (.i2l, 1) := by decide +kernel
theorem dX12_pays_20 : decode cX12_pays 20 = .ok (.lconst 0, 1) := by decide +kernel
theorem dX12_pays_21 : decode cX12_pays 21 = .ok (.lconst 1, 1) := by decide +kernel
theorem dX12_pays_22 : decode cX12_pays 22 = .ok (.invokestatic 109, 3) := by decide +kernel
theorem dX12_pays_25 : decode cX12_pays 25 = .ok (.ifCond .ne 5, 3) := by decide +kernel
theorem dX12_pays_28 : decode cX12_pays 28 = .ok (.iconst (-1), 1) := by decide +kernel
theorem dX12_pays_29 : decode cX12_pays 29 = .ok (.ireturn, 1) := by decide +kernel
theorem dX12_pays_30 : decode cX12_pays 30 = .ok (.aload_n 0, 1) := by decide +kernel
theorem dX12_pays_31 : decode cX12_pays 31 = .ok (.iload_n 1, 1) := by decide +kernel
theorem dX12_pays_32 : decode cX12_pays 32 = .ok (.invokevirtual 224, 3) := by decide +kernel
theorem dX12_pays_35 : decode cX12_pays 35 = .ok (.ifCond .ge 9, 3) := by decide +kernel
theorem dX12_pays_38 : decode cX12_pays 38 = .ok (.aload_n 0, 1) := by decide +kernel
theorem dX12_pays_39 : decode cX12_pays 39 = .ok (.iload_n 1, 1) := by decide +kernel
theorem dX12_pays_40 : decode cX12_pays 40 = .ok (.invokevirtual 224, 3) := by decide +kernel
theorem dX12_pays_43 : decode cX12_pays 43 = .ok (.ireturn, 1) := by decide +kernel
theorem dX12_pays_44 : decode cX12_pays 44 = .ok (.iconst 0, 1) := by decide +kernel
theorem dX12_pays_45 : decode cX12_pays 45 = .ok (.istore 4, 2) := by decide +kernel
theorem dX12_pays_47 : decode cX12_pays 47 = .ok (.iconst (-1), 1) := by decide +kernel
theorem dX12_pays_48 : decode cX12_pays 48 = .ok (.istore 5, 2) := by decide +kernel
theorem dX12_pays_50 : decode cX12_pays 50 = .ok (.aload_n 0, 1) := by decide +kernel
theorem dX12_pays_51 : decode cX12_pays 51 = .ok (.iload_n 2, 1) := by decide +kernel
theorem dX12_pays_52 : decode cX12_pays 52 = .ok (.putfield 94, 3) := by decide +kernel
theorem dX12_pays_55 : decode cX12_pays 55 = .ok (.aload_n 0, 1) := by decide +kernel
theorem dX12_pays_56 : decode cX12_pays 56 = .ok (.iconst 0, 1) := by decide +kernel
theorem dX12_pays_57 : decode cX12_pays 57 = .ok (.putfield 259, 3) := by decide +kernel
theorem dX12_pays_60 : decode cX12_pays 60 = .ok (.aload_n 0, 1) := by decide +kernel
theorem dX12_pays_61 : decode cX12_pays 61 = .ok (.getfield 259, 3) := by decide +kernel
theorem dX12_pays_64 : decode cX12_pays 64 = .ok (.bipush 61, 2) := by decide +kernel
theorem dX12_pays_66 : decode cX12_pays 66 = .ok (.if_icmp .ge 67, 3) := by decide +kernel
theorem dX12_pays_69 : decode cX12_pays 69 = .ok (.aload_n 0, 1) := by decide +kernel
theorem dX12_pays_70 : decode cX12_pays 70 = .ok (.iload_n 1, 1) := by decide +kernel
theorem dX12_pays_71 : decode cX12_pays 71 = .ok (.invokevirtual 302, 3) := by decide +kernel
theorem dX12_pays_74 : decode cX12_pays 74 = .ok (.istore 6, 2) := by decide +kernel
theorem dX12_pays_76 : decode cX12_pays 76 = .ok (.iload 5, 2) := by decide +kernel
theorem dX12_pays_78 : decode cX12_pays 78 = .ok (.ifCond .lt 10, 3) := by decide +kernel
theorem dX12_pays_81 : decode cX12_pays 81 = .ok (.iload 6, 2) := by decide +kernel
theorem dX12_pays_83 : decode cX12_pays 83 = .ok (.iload 5, 2) := by decide +kernel
theorem dX12_pays_85 : decode cX12_pays 85 = .ok (.if_icmp .ge 10, 3) := by decide +kernel
theorem dX12_pays_88 : decode cX12_pays 88 = .ok (.aload_n 0, 1) := by decide +kernel
theorem dX12_pays_89 : decode cX12_pays 89 = .ok (.getfield 259, 3) := by decide +kernel
theorem dX12_pays_92 : decode cX12_pays 92 = .ok (.goto 5, 3) := by decide +kernel
theorem dX12_pays_95 : decode cX12_pays 95 = .ok (.iload 4, 2) := by decide +kernel
theorem dX12_pays_97 : decode cX12_pays 97 = .ok (.istore 4, 2) := by decide +kernel
theorem dX12_pays_99 : decode cX12_pays 99 = .ok (.iload 5, 2) := by decide +kernel
theorem dX12_pays_101 : decode cX12_pays 101 = .ok (.ifCond .lt 10, 3) := by decide +kernel
theorem dX12_pays_104 : decode cX12_pays 104 = .ok (.iload 6, 2) := by decide +kernel
theorem dX12_pays_106 : decode cX12_pays 106 = .ok (.iload 5, 2) := by decide +kernel
theorem dX12_pays_108 : decode cX12_pays 108 = .ok (.if_icmp .ge 8, 3) := by decide +kernel
theorem dX12_pays_111 : decode cX12_pays 111 = .ok (.iload 6, 2) := by decide +kernel
theorem dX12_pays_113 : decode cX12_pays 113 = .ok (.goto 5, 3) := by decide +kernel
theorem dX12_pays_116 : decode cX12_pays 116 = .ok (.iload 5, 2) := by decide +kernel
theorem dX12_pays_118 : decode cX12_pays 118 = .ok (.istore 5, 2) := by decide +kernel
theorem dX12_pays_120 : decode cX12_pays 120 = .ok (.aload_n 0, 1) := by decide +kernel
theorem dX12_pays_121 : decode cX12_pays 121 = .ok (.dup, 1) := by decide +kernel
theorem dX12_pays_122 : decode cX12_pays 122 = .ok (.getfield 259, 3) := by decide +kernel
theorem dX12_pays_125 : decode cX12_pays 125 = .ok (.iconst 1, 1) := by decide +kernel
theorem dX12_pays_126 : decode cX12_pays 126 = .ok (.iadd, 1) := by decide +kernel
theorem dX12_pays_127 : decode cX12_pays 127 = .ok (.putfield 259, 3) := by decide +kernel
theorem dX12_pays_130 : decode cX12_pays 130 = .ok (.goto (-70), 3) := by decide +kernel
theorem dX12_pays_133 : decode cX12_pays 133 = .ok (.aload_n 0, 1) := by decide +kernel
theorem dX12_pays_134 : decode cX12_pays 134 = .ok (.iconst (-1), 1) := by decide +kernel
theorem dX12_pays_135 : decode cX12_pays 135 = .ok (.putfield 94, 3) := by decide +kernel
theorem dX12_pays_138 : decode cX12_pays 138 = .ok (.iload_n 3, 1) := by decide +kernel
theorem dX12_pays_139 : decode cX12_pays 139 = .ok (.ifCond .ne 8, 3) := by decide +kernel
theorem dX12_pays_142 : decode cX12_pays 142 = .ok (.iload 4, 2) := by decide +kernel
theorem dX12_pays_144 : decode cX12_pays 144 = .ok (.goto 5, 3) := by decide +kernel
theorem dX12_pays_147 : decode cX12_pays 147 = .ok (.iload 5, 2) := by decide +kernel
theorem dX12_pays_149 : decode cX12_pays 149 = .ok (.ireturn, 1) := by decide +kernel
theorem dX12_memories_0 : decode cX12_memories 0 = .ok (.aload_n 0, 1) := by decide +kernel
theorem dX12_memories_1 : decode cX12_memories 1 = .ok (.iload_n 1, 1) := by decide +kernel
theorem dX12_memories_2 : decode cX12_memories 2 = .ok (.invokevirtual 224, 3) := by decide +kernel
theorem dX12_memories_5 : decode cX12_memories 5 = .ok (.iconst (-1), 1) := by decide +kernel
theorem dX12_memories_6 : decode cX12_memories 6 = .ok (.if_icmp .eq 25, 3) := by decide +kernel
theorem dX12_memories_9 : decode cX12_memories 9 = .ok (.iload_n 2, 1) := by decide +kernel
theorem dX12_memories_10 : decode cX12_memories 10 = .ok (.i2l, 1) := by decide +kernel
theorem dX12_memories_11 : decode cX12_memories 11 = .ok (.lconst 0, 1) := by decide +kernel
theorem dX12_memories_12 : decode cX12_memories 12 = .ok (.ldc2_w 230, 3) := by decide +kernel
theorem dX12_memories_15 : decode cX12_memories 15 = .ok (.invokestatic 109, 3) := by decide +kernel
theorem dX12_memories_18 : decode cX12_memories 18 = .ok (.ifCond .eq 13, 3) := by decide +kernel
theorem dX12_memories_21 : decode cX12_memories 21 = .ok (.iload_n 3, 1) := by decide +kernel
theorem dX12_memories_22 : decode cX12_memories 22 = .ok (.i2l, 1) := by decide +kernel
theorem dX12_memories_23 : decode cX12_memories 23 = .ok (.lconst 0, 1) := by decide +kernel
theorem dX12_memories_24 : decode cX12_memories 24 = .ok (.lconst 1, 1) := by decide +kernel
theorem dX12_memories_25 : decode cX12_memories 25 = .ok (.invokestatic 109, 3) := by decide +kernel
theorem dX12_memories_28 : decode cX12_memories 28 = .ok (.ifCond .ne 5, 3) := by decide +kernel
theorem dX12_memories_31 : decode cX12_memories 31 = .ok (.iconst (-1), 1) := by decide +kernel
theorem dX12_memories_32 : decode cX12_memories 32 = .ok (.ireturn, 1) := by decide +kernel
theorem dX12_memories_33 : decode cX12_memories 33 = .ok (.aload_n 0, 1) := by decide +kernel
theorem dX12_memories_34 : decode cX12_memories 34 = .ok (.iload_n 1, 1) := by decide +kernel
theorem dX12_memories_35 : decode cX12_memories 35 = .ok (.invokevirtual 224, 3) := by decide +kernel
theorem dX12_memories_38 : decode cX12_memories 38 = .ok (.ifCond .ge 9, 3) := by decide +kernel
theorem dX12_memories_41 : decode cX12_memories 41 = .ok (.aload_n 0, 1) := by decide +kernel
theorem dX12_memories_42 : decode cX12_memories 42 = .ok (.iload_n 1, 1) := by decide +kernel
theorem dX12_memories_43 : decode cX12_memories 43 = .ok (.invokevirtual 224, 3) := by decide +kernel
theorem dX12_memories_46 : decode cX12_memories 46 = .ok (.ireturn, 1) := by decide +kernel
theorem dX12_memories_47 : decode cX12_memories 47 = .ok (.iconst 0, 1) := by decide +kernel
theorem dX12_memories_48 : decode cX12_memories 48 = .ok (.istore 4, 2) := by decide +kernel
theorem dX12_memories_50 : decode cX12_memories 50 = .ok (.iconst (-1), 1) := by decide +kernel
theorem dX12_memories_51 : decode cX12_memories 51 = .ok (.istore 5, 2) := by decide +kernel
theorem dX12_memories_53 : decode cX12_memories 53 = .ok (.iconst 0, 1) := by decide +kernel
theorem dX12_memories_54 : decode cX12_memories 54 = .ok (.istore 6, 2) := by decide +kernel
theorem dX12_memories_56 : decode cX12_memories 56 = .ok (.iload 6, 2) := by decide +kernel
theorem dX12_memories_58 : decode cX12_memories 58 = .ok (.iload_n 2, 1) := by decide +kernel
theorem dX12_memories_59 : decode cX12_memories 59 = .ok (.if_icmp .gt 103, 3) := by decide +kernel
theorem dX12_memories_62 : decode cX12_memories 62 = .ok (.aload_n 0, 1) := by decide +kernel
theorem dX12_memories_63 : decode cX12_memories 63 = .ok (.iconst 0, 1) := by decide +kernel
theorem dX12_memories_64 : decode cX12_memories 64 = .ok (.putfield 275, 3) := by decide +kernel
theorem dX12_memories_67 : decode cX12_memories 67 = .ok (.aload_n 0, 1) := by decide +kernel
theorem dX12_memories_68 : decode cX12_memories 68 = .ok (.getfield 275, 3) := by decide +kernel
theorem dX12_memories_71 : decode cX12_memories 71 = .ok (.iconst 1, 1) := by decide +kernel
theorem dX12_memories_72 : decode cX12_memories 72 = .ok (.aload_n 0, 1) := by decide +kernel
theorem dX12_memories_73 : decode cX12_memories 73 = .ok (.getfield 106, 3) := by decide +kernel
theorem dX12_memories_76 : decode cX12_memories 76 = .ok (.ishl, 1) := by decide +kernel
theorem dX12_memories_77 : decode cX12_memories 77 = .ok (.if_icmp .ge 79, 3) := by decide +kernel
theorem dX12_memories_80 : decode cX12_memories 80 = .ok (.aload_n 0, 1) := by decide +kernel
theorem dX12_memories_81 : decode cX12_memories 81 = .ok (.getfield 275, 3) := by decide +kernel
theorem dX12_memories_84 : decode cX12_memories 84 = .ok (.invokestatic 305, 3) := by decide +kernel
theorem dX12_memories_87 : decode cX12_memories 87 = .ok (.iload 6, 2) := by decide +kernel
theorem dX12_memories_89 : decode cX12_memories 89 = .ok (.if_icmp .ne 54, 3) := by decide +kernel
theorem dX12_memories_92 : decode cX12_memories 92 = .ok (.aload_n 0, 1) := by decide +kernel
theorem dX12_memories_93 : decode cX12_memories 93 = .ok (.iload_n 1, 1) := by decide +kernel
theorem dX12_memories_94 : decode cX12_memories 94 = .ok (.invokevirtual 302, 3) := by decide +kernel
theorem dX12_memories_97 : decode cX12_memories 97 = .ok (.istore 7, 2) := by decide +kernel
theorem dX12_memories_99 : decode cX12_memories 99 = .ok (.iload 5, 2) := by decide +kernel
theorem dX12_memories_101 : decode cX12_memories 101 = .ok (.ifCond .lt 10, 3) := by decide +kernel
theorem dX12_memories_104 : decode cX12_memories 104 = .ok (.iload 7, 2) := by decide +kernel
theorem dX12_memories_106 : decode cX12_memories 106 = .ok (.iload 5, 2) := by decide +kernel
theorem dX12_memories_108 : decode cX12_memories 108 = .ok (.if_icmp .ge 10, 3) := by decide +kernel
theorem dX12_memories_111 : decode cX12_memories 111 = .ok (.aload_n 0, 1) := by decide +kernel
theorem dX12_memories_112 : decode cX12_memories 112 = .ok (.getfield 275, 3) := by decide +kernel
theorem dX12_memories_115 : decode cX12_memories 115 = .ok (.goto 5, 3) := by decide +kernel
theorem dX12_memories_118 : decode cX12_memories 118 = .ok (.iload 4, 2) := by decide +kernel
theorem dX12_memories_120 : decode cX12_memories 120 = .ok (.istore 4, 2) := by decide +kernel
theorem dX12_memories_122 : decode cX12_memories 122 = .ok (.iload 5, 2) := by decide +kernel
theorem dX12_memories_124 : decode cX12_memories 124 = .ok (.ifCond .lt 10, 3) := by decide +kernel
theorem dX12_memories_127 : decode cX12_memories 127 = .ok (.iload 7, 2) := by decide +kernel
theorem dX12_memories_129 : decode cX12_memories 129 = .ok (.iload 5, 2) := by decide +kernel
theorem dX12_memories_131 : decode cX12_memories 131 = .ok (.if_icmp .ge 8, 3) := by decide +kernel
theorem dX12_memories_134 : decode cX12_memories 134 = .ok (.iload 7, 2) := by decide +kernel
theorem dX12_memories_136 : decode cX12_memories 136 = .ok (.goto 5, 3) := by decide +kernel
theorem dX12_memories_139 : decode cX12_memories 139 = .ok (.iload 5, 2) := by decide +kernel
theorem dX12_memories_141 : decode cX12_memories 141 = .ok (.istore 5, 2) := by decide +kernel
theorem dX12_memories_143 : decode cX12_memories 143 = .ok (.aload_n 0, 1) := by decide +kernel
theorem dX12_memories_144 : decode cX12_memories 144 = .ok (.dup, 1) := by decide +kernel
theorem dX12_memories_145 : decode cX12_memories 145 = .ok (.getfield 275, 3) := by decide +kernel
theorem dX12_memories_148 : decode cX12_memories 148 = .ok (.iconst 1, 1) := by decide +kernel
theorem dX12_memories_149 : decode cX12_memories 149 = .ok (.iadd, 1) := by decide +kernel
theorem dX12_memories_150 : decode cX12_memories 150 = .ok (.putfield 275, 3) := by decide +kernel
theorem dX12_memories_153 : decode cX12_memories 153 = .ok (.goto (-86), 3) := by decide +kernel
theorem dX12_memories_156 : decode cX12_memories 156 = .ok (.iinc 6 1, 3) := by decide +kernel
theorem dX12_memories_159 : decode cX12_memories 159 = .ok (.goto (-103), 3) := by decide +kernel
theorem dX12_memories_162 : decode cX12_memories 162 = .ok (.aload_n 0, 1) := by decide +kernel
theorem dX12_memories_163 : decode cX12_memories 163 = .ok (.iconst 0, 1) := by decide +kernel
theorem dX12_memories_164 : decode cX12_memories 164 = .ok (.putfield 275, 3) := by decide +kernel
theorem dX12_memories_167 : decode cX12_memories 167 = .ok (.iload_n 3, 1) := by decide +kernel
theorem dX12_memories_168 : decode cX12_memories 168 = .ok (.ifCond .ne 8, 3) := by decide +kernel
theorem dX12_memories_171 : decode cX12_memories 171 = .ok (.iload 4, 2) := by decide +kernel
theorem dX12_memories_173 : decode cX12_memories 173 = .ok (.goto 5, 3) := by decide +kernel
theorem dX12_memories_176 : decode cX12_memories 176 = .ok (.iload 5, 2) := by decide +kernel
theorem dX12_memories_178 : decode cX12_memories 178 = .ok (.ireturn, 1) := by decide +kernel
theorem dX12_marked_0 : decode cX12_marked 0 = .ok (.aload_n 0, 1) := by decide +kernel
theorem dX12_marked_1 : decode cX12_marked 1 = .ok (.iload_n 1, 1) := by decide +kernel
theorem dX12_marked_2 : decode cX12_marked 2 = .ok (.invokevirtual 224, 3) := by decide +kernel
theorem dX12_marked_5 : decode cX12_marked 5 = .ok (.ifCond .ge 9, 3) := by decide +kernel
theorem dX12_marked_8 : decode cX12_marked 8 = .ok (.aload_n 0, 1) := by decide +kernel
theorem dX12_marked_9 : decode cX12_marked 9 = .ok (.iload_n 1, 1) := by decide +kernel
theorem dX12_marked_10 : decode cX12_marked 10 = .ok (.invokevirtual 224, 3) := by decide +kernel
theorem dX12_marked_13 : decode cX12_marked 13 = .ok (.ireturn, 1) := by decide +kernel
theorem dX12_marked_14 : decode cX12_marked 14 = .ok (.aload_n 0, 1) := by decide +kernel
theorem dX12_marked_15 : decode cX12_marked 15 = .ok (.iload_n 1, 1) := by decide +kernel
theorem dX12_marked_16 : decode cX12_marked 16 = .ok (.invokevirtual 302, 3) := by decide +kernel
theorem dX12_marked_19 : decode cX12_marked 19 = .ok (.istore_n 2, 1) := by decide +kernel
theorem dX12_marked_20 : decode cX12_marked 20 = .ok (.aload_n 0, 1) := by decide +kernel
theorem dX12_marked_21 : decode cX12_marked 21 = .ok (.iconst 1, 1) := by decide +kernel
theorem dX12_marked_22 : decode cX12_marked 22 = .ok (.putfield 262, 3) := by decide +kernel
theorem dX12_marked_25 : decode cX12_marked 25 = .ok (.aload_n 0, 1) := by decide +kernel
theorem dX12_marked_26 : decode cX12_marked 26 = .ok (.iload_n 1, 1) := by decide +kernel
theorem dX12_marked_27 : decode cX12_marked 27 = .ok (.invokevirtual 302, 3) := by decide +kernel
theorem dX12_marked_30 : decode cX12_marked 30 = .ok (.istore_n 3, 1) := by decide +kernel
theorem dX12_marked_31 : decode cX12_marked 31 = .ok (.aload_n 0, 1) := by decide +kernel
theorem dX12_marked_32 : decode cX12_marked 32 = .ok (.iconst 0, 1) := by decide +kernel
theorem dX12_marked_33 : decode cX12_marked 33 = .ok (.putfield 262, 3) := by decide +kernel
theorem dX12_marked_36 : decode cX12_marked 36 = .ok (.iload_n 2, 1) := by decide +kernel
theorem dX12_marked_37 : decode cX12_marked 37 = .ok (.iload_n 3, 1) := by decide +kernel
theorem dX12_marked_38 : decode cX12_marked 38 = .ok (.isub, 1) := by decide +kernel
theorem dX12_marked_39 : decode cX12_marked 39 = .ok (.ireturn, 1) := by decide +kernel
theorem dX12_wilful_0 : decode cX12_wilful 0 = .ok (.aload_n 0, 1) := by decide +kernel
theorem dX12_wilful_1 : decode cX12_wilful 1 = .ok (.iload_n 1, 1) := by decide +kernel
theorem dX12_wilful_2 : decode cX12_wilful 2 = .ok (.invokevirtual 224, 3) := by decide +kernel
theorem dX12_wilful_5 : decode cX12_wilful 5 = .ok (.ifCond .lt 20, 3) := by decide +kernel
theorem dX12_wilful_8 : decode cX12_wilful 8 = .ok (.aload_n 0, 1) := by decide +kernel
theorem dX12_wilful_9 : decode cX12_wilful 9 = .ok (.iload_n 2, 1) := by decide +kernel
theorem dX12_wilful_10 : decode cX12_wilful 10 = .ok (.i2l, 1) := by decide +kernel
theorem dX12_wilful_11 : decode cX12_wilful 11 = .ok (.invokevirtual 135, 3) := by decide +kernel
theorem dX12_wilful_14 : decode cX12_wilful 14 = .ok (.ifCond .eq 11, 3) := by decide +kernel
theorem dX12_wilful_17 : decode cX12_wilful 17 = .ok (.iload_n 3, 1) := by decide +kernel
theorem dX12_wilful_18 : decode cX12_wilful 18 = .ok (.i2l, 1) := by decide +kernel
theorem dX12_wilful_19 : decode cX12_wilful 19 = .ok (.invokestatic 117, 3) := by decide +kernel
theorem dX12_wilful_22 : decode cX12_wilful 22 = .ok (.ifCond .ne 7, 3) := by decide +kernel
theorem dX12_wilful_25 : decode cX12_wilful 25 = .ok (.ldc_w 308, 3) := by decide +kernel
theorem dX12_wilful_28 : decode cX12_wilful 28 = .ok (.ireturn, 1) := by decide +kernel
theorem dX12_wilful_29 : decode cX12_wilful 29 = .ok (.aload_n 0, 1) := by decide +kernel
theorem dX12_wilful_30 : decode cX12_wilful 30 = .ok (.iload_n 1, 1) := by decide +kernel
theorem dX12_wilful_31 : decode cX12_wilful 31 = .ok (.invokevirtual 302, 3) := by decide +kernel
theorem dX12_wilful_34 : decode cX12_wilful 34 = .ok (.istore 4, 2) := by decide +kernel
theorem dX12_wilful_36 : decode cX12_wilful 36 = .ok (.aload_n 0, 1) := by decide +kernel
theorem dX12_wilful_37 : decode cX12_wilful 37 = .ok (.iload_n 2, 1) := by decide +kernel
theorem dX12_wilful_38 : decode cX12_wilful 38 = .ok (.putfield 97, 3) := by decide +kernel
theorem dX12_wilful_41 : decode cX12_wilful 41 = .ok (.aload_n 0, 1) := by decide +kernel
theorem dX12_wilful_42 : decode cX12_wilful 42 = .ok (.iload_n 3, 1) := by decide +kernel
theorem dX12_wilful_43 : decode cX12_wilful 43 = .ok (.putfield 292, 3) := by decide +kernel
theorem dX12_wilful_46 : decode cX12_wilful 46 = .ok (.aload_n 0, 1) := by decide +kernel
theorem dX12_wilful_47 : decode cX12_wilful 47 = .ok (.iload_n 1, 1) := by decide +kernel
theorem dX12_wilful_48 : decode cX12_wilful 48 = .ok (.invokevirtual 302, 3) := by decide +kernel
theorem dX12_wilful_51 : decode cX12_wilful 51 = .ok (.istore 5, 2) := by decide +kernel
theorem dX12_wilful_53 : decode cX12_wilful 53 = .ok (.aload_n 0, 1) := by decide +kernel
theorem dX12_wilful_54 : decode cX12_wilful 54 = .ok (.iconst (-1), 1) := by decide +kernel
theorem dX12_wilful_55 : decode cX12_wilful 55 = .ok (.putfield 97, 3) := by decide +kernel
theorem dX12_wilful_58 : decode cX12_wilful 58 = .ok (.iload 5, 2) := by decide +kernel
theorem dX12_wilful_60 : decode cX12_wilful 60 = .ok (.iload 4, 2) := by decide +kernel
theorem dX12_wilful_62 : decode cX12_wilful 62 = .ok (.isub, 1) := by decide +kernel
theorem dX12_wilful_63 : decode cX12_wilful 63 = .ok (.ireturn, 1) := by decide +kernel
theorem dX12_sitsSet_0 : decode cX12_sitsSet 0 = .ok (.iconst 0, 1) := by decide +kernel
theorem dX12_sitsSet_1 : decode cX12_sitsSet 1 = .ok (.istore_n 2, 1) := by decide +kernel
theorem dX12_sitsSet_2 : decode cX12_sitsSet 2 = .ok (.iconst 0, 1) := by decide +kernel
theorem dX12_sitsSet_3 : decode cX12_sitsSet 3 = .ok (.istore_n 3, 1) := by decide +kernel
theorem dX12_sitsSet_4 : decode cX12_sitsSet 4 = .ok (.iload_n 3, 1) := by decide +kernel
theorem dX12_sitsSet_5 : decode cX12_sitsSet 5 = .ok (.aload_n 0, 1) := by decide +kernel
theorem dX12_sitsSet_6 : decode cX12_sitsSet 6 = .ok (.iload_n 1, 1) := by decide +kernel
theorem dX12_sitsSet_7 : decode cX12_sitsSet 7 = .ok (.invokevirtual 218, 3) := by decide +kernel
theorem dX12_sitsSet_10 : decode cX12_sitsSet 10 = .ok (.if_icmp .ge 33, 3) := by decide +kernel
theorem dX12_sitsSet_13 : decode cX12_sitsSet 13 = .ok (.iload_n 2, 1) := by decide +kernel
theorem dX12_sitsSet_14 : decode cX12_sitsSet 14 = .ok (.aload_n 0, 1) := by decide +kernel
theorem dX12_sitsSet_15 : decode cX12_sitsSet 15 = .ok (.iload_n 1, 1) := by decide +kernel
theorem dX12_sitsSet_16 : decode cX12_sitsSet 16 = .ok (.iload_n 3, 1) := by decide +kernel
theorem dX12_sitsSet_17 : decode cX12_sitsSet 17 = .ok (.invokevirtual 221, 3) := by decide +kernel
theorem dX12_sitsSet_20 : decode cX12_sitsSet 20 = .ok (.ifCond .lt 14, 3) := by decide +kernel
theorem dX12_sitsSet_23 : decode cX12_sitsSet 23 = .ok (.iconst 1, 1) := by decide +kernel
theorem dX12_sitsSet_24 : decode cX12_sitsSet 24 = .ok (.aload_n 0, 1) := by decide +kernel
theorem dX12_sitsSet_25 : decode cX12_sitsSet 25 = .ok (.iload_n 1, 1) := by decide +kernel
theorem dX12_sitsSet_26 : decode cX12_sitsSet 26 = .ok (.iload_n 3, 1) := by decide +kernel
theorem dX12_sitsSet_27 : decode cX12_sitsSet 27 = .ok (.invokevirtual 221, 3) := by decide +kernel
theorem dX12_sitsSet_30 : decode cX12_sitsSet 30 = .ok (.ishl, 1) := by decide +kernel
theorem dX12_sitsSet_31 : decode cX12_sitsSet 31 = .ok (.goto 4, 3) := by decide +kernel
theorem dX12_sitsSet_34 : decode cX12_sitsSet 34 = .ok (.iconst 0, 1) := by decide +kernel
theorem dX12_sitsSet_35 : decode cX12_sitsSet 35 = .ok (.ior, 1) := by decide +kernel
theorem dX12_sitsSet_36 : decode cX12_sitsSet 36 = .ok (.istore_n 2, 1) := by decide +kernel
theorem dX12_sitsSet_37 : decode cX12_sitsSet 37 = .ok (.iinc 3 1, 3) := by decide +kernel
theorem dX12_sitsSet_40 : decode cX12_sitsSet 40 = .ok (.goto (-36), 3) := by decide +kernel
theorem dX12_sitsSet_43 : decode cX12_sitsSet 43 = .ok (.iload_n 2, 1) := by decide +kernel
theorem dX12_sitsSet_44 : decode cX12_sitsSet 44 = .ok (.ireturn, 1) := by decide +kernel
theorem dX12_chairLoss_0 : decode cX12_chairLoss 0 = .ok (.iconst (-1), 1) := by decide +kernel
theorem dX12_chairLoss_1 : decode cX12_chairLoss 1 = .ok (.istore_n 3, 1) := by decide +kernel
theorem dX12_chairLoss_2 : decode cX12_chairLoss 2 = .ok (.iconst 0, 1) := by decide +kernel
theorem dX12_chairLoss_3 : decode cX12_chairLoss 3 = .ok (.istore 4, 2) := by decide +kernel
theorem dX12_chairLoss_5 : decode cX12_chairLoss 5 = .ok (.iload 4, 2) := by decide +kernel
theorem dX12_chairLoss_7 : decode cX12_chairLoss 7 = .ok (.bipush 61, 2) := by decide +kernel
theorem dX12_chairLoss_9 : decode cX12_chairLoss 9 = .ok (.if_icmp .ge 89, 3) := by decide +kernel
theorem dX12_chairLoss_12 : decode cX12_chairLoss 12 = .ok (.iconst 0, 1) := by decide +kernel
theorem dX12_chairLoss_13 : decode cX12_chairLoss 13 = .ok (.istore 5, 2) := by decide +kernel
theorem dX12_chairLoss_15 : decode cX12_chairLoss 15 = .ok (.iconst 0, 1) := by decide +kernel
theorem dX12_chairLoss_16 : decode cX12_chairLoss 16 = .ok (.istore 6, 2) := by decide +kernel
theorem dX12_chairLoss_18 : decode cX12_chairLoss 18 = .ok (.iload 6, 2) := by decide +kernel
theorem dX12_chairLoss_20 : decode cX12_chairLoss 20 = .ok (.aload_n 0, 1) := by decide +kernel
theorem dX12_chairLoss_21 : decode cX12_chairLoss 21 = .ok (.getfield 106, 3) := by decide +kernel
theorem dX12_chairLoss_24 : decode cX12_chairLoss 24 = .ok (.if_icmp .ge 51, 3) := by decide +kernel
theorem dX12_chairLoss_27 : decode cX12_chairLoss 27 = .ok (.iload 5, 2) := by decide +kernel
theorem dX12_chairLoss_29 : decode cX12_chairLoss 29 = .ok (.iload_n 1, 1) := by decide +kernel
theorem dX12_chairLoss_30 : decode cX12_chairLoss 30 = .ok (.iload 6, 2) := by decide +kernel
theorem dX12_chairLoss_32 : decode cX12_chairLoss 32 = .ok (.invokestatic 278, 3) := by decide +kernel
theorem dX12_chairLoss_35 : decode cX12_chairLoss 35 = .ok (.ifCond .eq 30, 3) := by decide +kernel
theorem dX12_chairLoss_38 : decode cX12_chairLoss 38 = .ok (.aload_n 0, 1) := by decide +kernel
theorem dX12_chairLoss_39 : decode cX12_chairLoss 39 = .ok (.getfield 53, 3) := by decide +kernel
theorem dX12_chairLoss_42 : decode cX12_chairLoss 42 = .ok (.iload 6, 2) := by decide +kernel
theorem dX12_chairLoss_44 : decode cX12_chairLoss 44 = .ok (.iaload, 1) := by decide +kernel
theorem dX12_chairLoss_45 : decode cX12_chairLoss 45 = .ok (.iload_n 2, 1) := by decide +kernel
theorem dX12_chairLoss_46 : decode cX12_chairLoss 46 = .ok (.if_icmp .ne 19, 3) := by decide +kernel
theorem dX12_chairLoss_49 : decode cX12_chairLoss 49 = .ok (.aload_n 0, 1) := by decide +kernel
theorem dX12_chairLoss_50 : decode cX12_chairLoss 50 = .ok (.getfield 50, 3) := by decide +kernel
theorem dX12_chairLoss_53 : decode cX12_chairLoss 53 = .ok (.bipush 61, 2) := by decide +kernel
theorem dX12_chairLoss_55 : decode cX12_chairLoss 55 = .ok (.iload 6, 2) := by decide +kernel
theorem dX12_chairLoss_57 : decode cX12_chairLoss 57 = .ok (.imul, 1) := by decide +kernel
theorem dX12_chairLoss_58 : decode cX12_chairLoss 58 = .ok (.iload 4, 2) := by decide +kernel
theorem dX12_chairLoss_60 : decode cX12_chairLoss 60 = .ok (.iadd, 1) := by decide +kernel
theorem dX12_chairLoss_61 : decode cX12_chairLoss 61 = .ok (.iaload, 1) := by decide +kernel
theorem dX12_chairLoss_62 : decode cX12_chairLoss 62 = .ok (.goto 4, 3) := by decide +kernel
theorem dX12_chairLoss_65 : decode cX12_chairLoss 65 = .ok (.iconst 0, 1) := by decide +kernel
theorem dX12_chairLoss_66 : decode cX12_chairLoss 66 = .ok (.iadd, 1) := by decide +kernel
theorem dX12_chairLoss_67 : decode cX12_chairLoss 67 = .ok (.istore 5, 2) := by decide +kernel
theorem dX12_chairLoss_69 : decode cX12_chairLoss 69 = .ok (.iinc 6 1, 3) := by decide +kernel
theorem dX12_chairLoss_72 : decode cX12_chairLoss 72 = .ok (.goto (-54), 3) := by decide +kernel
theorem dX12_chairLoss_75 : decode cX12_chairLoss 75 = .ok (.iload_n 3, 1) := by decide +kernel
theorem dX12_chairLoss_76 : decode cX12_chairLoss 76 = .ok (.ifCond .lt 9, 3) := by decide +kernel
theorem dX12_chairLoss_79 : decode cX12_chairLoss 79 = .ok (.iload 5, 2) := by decide +kernel
theorem dX12_chairLoss_81 : decode cX12_chairLoss 81 = .ok (.iload_n 3, 1) := by decide +kernel
theorem dX12_chairLoss_82 : decode cX12_chairLoss 82 = .ok (.if_icmp .ge 8, 3) := by decide +kernel
theorem dX12_chairLoss_85 : decode cX12_chairLoss 85 = .ok (.iload 5, 2) := by decide +kernel
theorem dX12_chairLoss_87 : decode cX12_chairLoss 87 = .ok (.goto 4, 3) := by decide +kernel
theorem dX12_chairLoss_90 : decode cX12_chairLoss 90 = .ok (.iload_n 3, 1) := by decide +kernel
theorem dX12_chairLoss_91 : decode cX12_chairLoss 91 = .ok (.istore_n 3, 1) := by decide +kernel
theorem dX12_chairLoss_92 : decode cX12_chairLoss 92 = .ok (.iinc 4 1, 3) := by decide +kernel
theorem dX12_chairLoss_95 : decode cX12_chairLoss 95 = .ok (.goto (-90), 3) := by decide +kernel
theorem dX12_chairLoss_98 : decode cX12_chairLoss 98 = .ok (.iload_n 3, 1) := by decide +kernel
theorem dX12_chairLoss_99 : decode cX12_chairLoss 99 = .ok (.ireturn, 1) := by decide +kernel
theorem dX12_chairsOn_0 : decode cX12_chairsOn 0 = .ok (.iload_n 1, 1) := by decide +kernel
theorem dX12_chairsOn_1 : decode cX12_chairsOn 1 = .ok (.aload_n 0, 1) := by decide +kernel
theorem dX12_chairsOn_2 : decode cX12_chairsOn 2 = .ok (.getfield 106, 3) := by decide +kernel
theorem dX12_chairsOn_5 : decode cX12_chairsOn 5 = .ok (.if_icmp .ne 88, 3) := by decide +kernel
theorem dX12_chairsOn_8 : decode cX12_chairsOn 8 = .ok (.iconst 0, 1) := by decide +kernel
theorem dX12_chairsOn_9 : decode cX12_chairsOn 9 = .ok (.istore 5, 2) := by decide +kernel
theorem dX12_chairsOn_11 : decode cX12_chairsOn 11 = .ok (.iconst 0, 1) := by decide +kernel
theorem dX12_chairsOn_12 : decode cX12_chairsOn 12 = .ok (.istore 6, 2) := by decide +kernel
theorem dX12_chairsOn_14 : decode cX12_chairsOn 14 = .ok (.iload 6, 2) := by decide +kernel
theorem dX12_chairsOn_16 : decode cX12_chairsOn 16 = .ok (.iload_n 2, 1) := by decide +kernel
theorem dX12_chairsOn_17 : decode cX12_chairsOn 17 = .ok (.if_icmp .ge 21, 3) := by decide +kernel
theorem dX12_chairsOn_20 : decode cX12_chairsOn 20 = .ok (.iload 5, 2) := by decide +kernel
theorem dX12_chairsOn_22 : decode cX12_chairsOn 22 = .ok (.aload_n 0, 1) := by decide +kernel
theorem dX12_chairsOn_23 : decode cX12_chairsOn 23 = .ok (.iload_n 3, 1) := by decide +kernel
theorem dX12_chairsOn_24 : decode cX12_chairsOn 24 = .ok (.iload 6, 2) := by decide +kernel
theorem dX12_chairsOn_26 : decode cX12_chairsOn 26 = .ok (.invokevirtual 309, 3) := by decide +kernel
theorem dX12_chairsOn_29 : decode cX12_chairsOn 29 = .ok (.iadd, 1) := by decide +kernel
theorem dX12_chairsOn_30 : decode cX12_chairsOn 30 = .ok (.istore 5, 2) := by decide +kernel
theorem dX12_chairsOn_32 : decode cX12_chairsOn 32 = .ok (.iinc 6 1, 3) := by decide +kernel
theorem dX12_chairsOn_35 : decode cX12_chairsOn 35 = .ok (.goto (-21), 3) := by decide +kernel
theorem dX12_chairsOn_38 : decode cX12_chairsOn 38 = .ok (.aload_n 0, 1) := by decide +kernel
theorem dX12_chairsOn_39 : decode cX12_chairsOn 39 = .ok (.getfield 312, 3) := by decide +kernel
theorem dX12_chairsOn_42 : decode cX12_chairsOn 42 = .ok (.ifCond .lt 12, 3) := by decide +kernel
theorem dX12_chairsOn_45 : decode cX12_chairsOn 45 = .ok (.iload 5, 2) := by decide +kernel
theorem dX12_chairsOn_47 : decode cX12_chairsOn 47 = .ok (.aload_n 0, 1) := by decide +kernel
theorem dX12_chairsOn_48 : decode cX12_chairsOn 48 = .ok (.getfield 312, 3) := by decide +kernel
theorem dX12_chairsOn_51 : decode cX12_chairsOn 51 = .ok (.if_icmp .ge 41, 3) := by decide +kernel
theorem dX12_chairsOn_54 : decode cX12_chairsOn 54 = .ok (.aload_n 0, 1) := by decide +kernel
theorem dX12_chairsOn_55 : decode cX12_chairsOn 55 = .ok (.iload 5, 2) := by decide +kernel
theorem dX12_chairsOn_57 : decode cX12_chairsOn 57 = .ok (.putfield 312, 3) := by decide +kernel
theorem dX12_chairsOn_60 : decode cX12_chairsOn 60 = .ok (.iconst 0, 1) := by decide +kernel
theorem dX12_chairsOn_61 : decode cX12_chairsOn 61 = .ok (.istore 6, 2) := by decide +kernel
theorem dX12_chairsOn_63 : decode cX12_chairsOn 63 = .ok (.iload 6, 2) := by decide +kernel
theorem dX12_chairsOn_65 : decode cX12_chairsOn 65 = .ok (.aload_n 0, 1) := by decide +kernel
theorem dX12_chairsOn_66 : decode cX12_chairsOn 66 = .ok (.getfield 106, 3) := by decide +kernel
theorem dX12_chairsOn_69 : decode cX12_chairsOn 69 = .ok (.if_icmp .ge 23, 3) := by decide +kernel
theorem dX12_chairsOn_72 : decode cX12_chairsOn 72 = .ok (.aload_n 0, 1) := by decide +kernel
theorem dX12_chairsOn_73 : decode cX12_chairsOn 73 = .ok (.getfield 56, 3) := by decide +kernel
theorem dX12_chairsOn_76 : decode cX12_chairsOn 76 = .ok (.iload 6, 2) := by decide +kernel
theorem dX12_chairsOn_78 : decode cX12_chairsOn 78 = .ok (.aload_n 0, 1) := by decide +kernel
theorem dX12_chairsOn_79 : decode cX12_chairsOn 79 = .ok (.getfield 53, 3) := by decide +kernel
theorem dX12_chairsOn_82 : decode cX12_chairsOn 82 = .ok (.iload 6, 2) := by decide +kernel
theorem dX12_chairsOn_84 : decode cX12_chairsOn 84 = .ok (.iaload, 1) := by decide +kernel
theorem dX12_chairsOn_85 : decode cX12_chairsOn 85 = .ok (.iastore, 1) := by decide +kernel
theorem dX12_chairsOn_86 : decode cX12_chairsOn 86 = .ok (.iinc 6 1, 3) := by decide +kernel
theorem dX12_chairsOn_89 : decode cX12_chairsOn 89 = .ok (.goto (-26), 3) := by decide +kernel
theorem dX12_chairsOn_92 : decode cX12_chairsOn 92 = .ok (.return_, 1) := by decide +kernel
theorem dX12_chairsOn_93 : decode cX12_chairsOn 93 = .ok (.iload_n 3, 1) := by decide +kernel
theorem dX12_chairsOn_94 : decode cX12_chairsOn 94 = .ok (.iload_n 1, 1) := by decide +kernel
theorem dX12_chairsOn_95 : decode cX12_chairsOn 95 = .ok (.invokestatic 278, 3) := by decide +kernel
theorem dX12_chairsOn_98 : decode cX12_chairsOn 98 = .ok (.ifCond .ne 15, 3) := by decide +kernel
theorem dX12_chairsOn_101 : decode cX12_chairsOn 101 = .ok (.aload_n 0, 1) := by decide +kernel
theorem dX12_chairsOn_102 : decode cX12_chairsOn 102 = .ok (.iload_n 1, 1) := by decide +kernel
theorem dX12_chairsOn_103 : decode cX12_chairsOn 103 = .ok (.iconst 1, 1) := by decide +kernel
theorem dX12_chairsOn_104 : decode cX12_chairsOn 104 = .ok (.iadd, 1) := by decide +kernel
theorem dX12_chairsOn_105 : decode cX12_chairsOn 105 = .ok (.iload_n 2, 1) := by decide +kernel
theorem dX12_chairsOn_106 : decode cX12_chairsOn 106 = .ok (.iload_n 3, 1) := by decide +kernel
theorem dX12_chairsOn_107 : decode cX12_chairsOn 107 = .ok (.iload 4, 2) := by decide +kernel
theorem dX12_chairsOn_109 : decode cX12_chairsOn 109 = .ok (.invokevirtual 315, 3) := by decide +kernel
theorem dX12_chairsOn_112 : decode cX12_chairsOn 112 = .ok (.return_, 1) := by decide +kernel
theorem dX12_chairsOn_113 : decode cX12_chairsOn 113 = .ok (.iconst 0, 1) := by decide +kernel
theorem dX12_chairsOn_114 : decode cX12_chairsOn 114 = .ok (.istore 5, 2) := by decide +kernel
theorem dX12_chairsOn_116 : decode cX12_chairsOn 116 = .ok (.iload 5, 2) := by decide +kernel
theorem dX12_chairsOn_118 : decode cX12_chairsOn 118 = .ok (.iload 4, 2) := by decide +kernel
theorem dX12_chairsOn_120 : decode cX12_chairsOn 120 = .ok (.if_icmp .ge 46, 3) := by decide +kernel
theorem dX12_chairsOn_123 : decode cX12_chairsOn 123 = .ok (.iload 5, 2) := by decide +kernel
theorem dX12_chairsOn_125 : decode cX12_chairsOn 125 = .ok (.iload_n 2, 1) := by decide +kernel
theorem dX12_chairsOn_126 : decode cX12_chairsOn 126 = .ok (.if_icmp .gt 40, 3) := by decide +kernel
theorem dX12_chairsOn_129 : decode cX12_chairsOn 129 = .ok (.aload_n 0, 1) := by decide +kernel
theorem dX12_chairsOn_130 : decode cX12_chairsOn 130 = .ok (.getfield 53, 3) := by decide +kernel
theorem dX12_chairsOn_133 : decode cX12_chairsOn 133 = .ok (.iload_n 1, 1) := by decide +kernel
theorem dX12_chairsOn_134 : decode cX12_chairsOn 134 = .ok (.iload 5, 2) := by decide +kernel
theorem dX12_chairsOn_136 : decode cX12_chairsOn 136 = .ok (.iastore, 1) := by decide +kernel
theorem dX12_chairsOn_137 : decode cX12_chairsOn 137 = .ok (.aload_n 0, 1) := by decide +kernel
theorem dX12_chairsOn_138 : decode cX12_chairsOn 138 = .ok (.iload_n 1, 1) := by decide +kernel
theorem dX12_chairsOn_139 : decode cX12_chairsOn 139 = .ok (.iconst 1, 1) := by decide +kernel
theorem dX12_chairsOn_140 : decode cX12_chairsOn 140 = .ok (.iadd, 1) := by decide +kernel
theorem dX12_chairsOn_141 : decode cX12_chairsOn 141 = .ok (.iload 5, 2) := by decide +kernel
theorem dX12_chairsOn_143 : decode cX12_chairsOn 143 = .ok (.iload_n 2, 1) := by decide +kernel
theorem dX12_chairsOn_144 : decode cX12_chairsOn 144 = .ok (.if_icmp .ne 9, 3) := by decide +kernel
theorem dX12_chairsOn_147 : decode cX12_chairsOn 147 = .ok (.iload_n 2, 1) := by decide +kernel
theorem dX12_chairsOn_148 : decode cX12_chairsOn 148 = .ok (.iconst 1, 1) := by decide +kernel
theorem dX12_chairsOn_149 : decode cX12_chairsOn 149 = .ok (.iadd, 1) := by decide +kernel
theorem dX12_chairsOn_150 : decode cX12_chairsOn 150 = .ok (.goto 4, 3) := by decide +kernel
theorem dX12_chairsOn_153 : decode cX12_chairsOn 153 = .ok (.iload_n 2, 1) := by decide +kernel
theorem dX12_chairsOn_154 : decode cX12_chairsOn 154 = .ok (.iload_n 3, 1) := by decide +kernel
theorem dX12_chairsOn_155 : decode cX12_chairsOn 155 = .ok (.iload 4, 2) := by decide +kernel
theorem dX12_chairsOn_157 : decode cX12_chairsOn 157 = .ok (.invokevirtual 315, 3) := by decide +kernel
theorem dX12_chairsOn_160 : decode cX12_chairsOn 160 = .ok (.iinc 5 1, 3) := by decide +kernel
theorem dX12_chairsOn_163 : decode cX12_chairsOn 163 = .ok (.goto (-47), 3) := by decide +kernel
theorem dX12_chairsOn_166 : decode cX12_chairsOn 166 = .ok (.return_, 1) := by decide +kernel
theorem dX12_chairs_0 : decode cX12_chairs 0 = .ok (.aload_n 0, 1) := by decide +kernel
theorem dX12_chairs_1 : decode cX12_chairs 1 = .ok (.iload_n 1, 1) := by decide +kernel
theorem dX12_chairs_2 : decode cX12_chairs 2 = .ok (.invokevirtual 224, 3) := by decide +kernel
theorem dX12_chairs_5 : decode cX12_chairs 5 = .ok (.iconst (-1), 1) := by decide +kernel
theorem dX12_chairs_6 : decode cX12_chairs 6 = .ok (.if_icmp .eq 46, 3) := by decide +kernel
theorem dX12_chairs_9 : decode cX12_chairs 9 = .ok (.iload_n 2, 1) := by decide +kernel
theorem dX12_chairs_10 : decode cX12_chairs 10 = .ok (.ifCond .lt 42, 3) := by decide +kernel
theorem dX12_chairs_13 : decode cX12_chairs 13 = .ok (.iload_n 2, 1) := by decide +kernel
theorem dX12_chairs_14 : decode cX12_chairs 14 = .ok (.bipush 10, 2) := by decide +kernel
theorem dX12_chairs_16 : decode cX12_chairs 16 = .ok (.idiv, 1) := by decide +kernel
theorem dX12_chairs_17 : decode cX12_chairs 17 = .ok (.invokestatic 140, 3) := by decide +kernel
theorem dX12_chairs_20 : decode cX12_chairs 20 = .ok (.ifCond .eq 32, 3) := by decide +kernel
theorem dX12_chairs_23 : decode cX12_chairs 23 = .ok (.iload_n 2, 1) := by decide +kernel
theorem dX12_chairs_24 : decode cX12_chairs 24 = .ok (.bipush 10, 2) := by decide +kernel
theorem dX12_chairs_26 : decode cX12_chairs 26 = .ok (.irem, 1) := by decide +kernel
theorem dX12_chairs_27 : decode cX12_chairs 27 = .ok (.i2l, 1) := by decide +kernel
theorem dX12_chairs_28 : decode cX12_chairs 28 = .ok (.lconst 1, 1) := by decide +kernel
theorem dX12_chairs_29 : decode cX12_chairs 29 = .ok (.ldc2_w 230, 3) := by decide +kernel
theorem dX12_chairs_32 : decode cX12_chairs 32 = .ok (.invokestatic 109, 3) := by decide +kernel
theorem dX12_chairs_35 : decode cX12_chairs 35 = .ok (.ifCond .eq 17, 3) := by decide +kernel
theorem dX12_chairs_38 : decode cX12_chairs 38 = .ok (.iload_n 3, 1) := by decide +kernel
theorem dX12_chairs_39 : decode cX12_chairs 39 = .ok (.iconst (-1), 1) := by decide +kernel
theorem dX12_chairs_40 : decode cX12_chairs 40 = .ok (.if_icmp .eq 14, 3) := by decide +kernel
theorem dX12_chairs_43 : decode cX12_chairs 43 = .ok (.aload_n 0, 1) := by decide +kernel
theorem dX12_chairs_44 : decode cX12_chairs 44 = .ok (.iload_n 3, 1) := by decide +kernel
theorem dX12_chairs_45 : decode cX12_chairs 45 = .ok (.i2l, 1) := by decide +kernel
theorem dX12_chairs_46 : decode cX12_chairs 46 = .ok (.invokevirtual 135, 3) := by decide +kernel
theorem dX12_chairs_49 : decode cX12_chairs 49 = .ok (.ifCond .ne 5, 3) := by decide +kernel
theorem dX12_chairs_52 : decode cX12_chairs 52 = .ok (.iconst (-1), 1) := by decide +kernel
theorem dX12_chairs_53 : decode cX12_chairs 53 = .ok (.ireturn, 1) := by decide +kernel
theorem dX12_chairs_54 : decode cX12_chairs 54 = .ok (.aload_n 0, 1) := by decide +kernel
theorem dX12_chairs_55 : decode cX12_chairs 55 = .ok (.iload_n 1, 1) := by decide +kernel
theorem dX12_chairs_56 : decode cX12_chairs 56 = .ok (.invokevirtual 224, 3) := by decide +kernel
theorem dX12_chairs_59 : decode cX12_chairs 59 = .ok (.ifCond .ge 9, 3) := by decide +kernel
theorem dX12_chairs_62 : decode cX12_chairs 62 = .ok (.aload_n 0, 1) := by decide +kernel
theorem dX12_chairs_63 : decode cX12_chairs 63 = .ok (.iload_n 1, 1) := by decide +kernel
theorem dX12_chairs_64 : decode cX12_chairs 64 = .ok (.invokevirtual 224, 3) := by decide +kernel
theorem dX12_chairs_67 : decode cX12_chairs 67 = .ok (.ireturn, 1) := by decide +kernel
theorem dX12_chairs_68 : decode cX12_chairs 68 = .ok (.iconst 0, 1) := by decide +kernel
theorem dX12_chairs_69 : decode cX12_chairs 69 = .ok (.istore 4, 2) := by decide +kernel
theorem dX12_chairs_71 : decode cX12_chairs 71 = .ok (.iload 4, 2) := by decide +kernel
theorem dX12_chairs_73 : decode cX12_chairs 73 = .ok (.sipush 488, 3) := by decide +kernel
theorem dX12_chairs_76 : decode cX12_chairs 76 = .ok (.if_icmp .ge 17, 3) := by decide +kernel
theorem dX12_chairs_79 : decode cX12_chairs 79 = .ok (.aload_n 0, 1) := by decide +kernel
theorem dX12_chairs_80 : decode cX12_chairs 80 = .ok (.getfield 50, 3) := by decide +kernel
theorem dX12_chairs_83 : decode cX12_chairs 83 = .ok (.iload 4, 2) := by decide +kernel
theorem dX12_chairs_85 : decode cX12_chairs 85 = .ok (.iconst 0, 1) := by decide +kernel
theorem dX12_chairs_86 : decode cX12_chairs 86 = .ok (.iastore, 1) := by decide +kernel
theorem dX12_chairs_87 : decode cX12_chairs 87 = .ok (.iinc 4 1, 3) := by decide +kernel
theorem dX12_chairs_90 : decode cX12_chairs 90 = .ok (.goto (-19), 3) := by decide +kernel
theorem dX12_chairs_93 : decode cX12_chairs 93 = .ok (.iconst 0, 1) := by decide +kernel
theorem dX12_chairs_94 : decode cX12_chairs 94 = .ok (.istore 4, 2) := by decide +kernel
theorem dX12_chairs_96 : decode cX12_chairs 96 = .ok (.iload 4, 2) := by decide +kernel
theorem dX12_chairs_98 : decode cX12_chairs 98 = .ok (.aload_n 0, 1) := by decide +kernel
theorem dX12_chairs_99 : decode cX12_chairs 99 = .ok (.iload_n 1, 1) := by decide +kernel
theorem dX12_chairs_100 : decode cX12_chairs 100 = .ok (.invokevirtual 218, 3) := by decide +kernel
theorem dX12_chairs_103 : decode cX12_chairs 103 = .ok (.if_icmp .ge 67, 3) := by decide +kernel
theorem dX12_chairs_106 : decode cX12_chairs 106 = .ok (.aload_n 0, 1) := by decide +kernel
theorem dX12_chairs_107 : decode cX12_chairs 107 = .ok (.iload_n 1, 1) := by decide +kernel
theorem dX12_chairs_108 : decode cX12_chairs 108 = .ok (.iload 4, 2) := by decide +kernel
theorem dX12_chairs_110 : decode cX12_chairs 110 = .ok (.invokevirtual 221, 3) := by decide +kernel
theorem dX12_chairs_113 : decode cX12_chairs 113 = .ok (.istore 5, 2) := by decide +kernel
theorem dX12_chairs_115 : decode cX12_chairs 115 = .ok (.iconst 0, 1) := by decide +kernel
theorem dX12_chairs_116 : decode cX12_chairs 116 = .ok (.istore 6, 2) := by decide +kernel
theorem dX12_chairs_118 : decode cX12_chairs 118 = .ok (.iload 6, 2) := by decide +kernel
theorem dX12_chairs_120 : decode cX12_chairs 120 = .ok (.bipush 61, 2) := by decide +kernel
theorem dX12_chairs_122 : decode cX12_chairs 122 = .ok (.if_icmp .ge 42, 3) := by decide +kernel
theorem dX12_chairs_125 : decode cX12_chairs 125 = .ok (.iload 5, 2) := by decide +kernel
theorem dX12_chairs_127 : decode cX12_chairs 127 = .ok (.ifCond .lt 37, 3) := by decide +kernel
theorem dX12_chairs_130 : decode cX12_chairs 130 = .ok (.aload_n 0, 1) := by decide +kernel
theorem dX12_chairs_131 : decode cX12_chairs 131 = .ok (.getfield 50, 3) := by decide +kernel
theorem dX12_chairs_134 : decode cX12_chairs 134 = .ok (.bipush 61, 2) := by decide +kernel
theorem dX12_chairs_136 : decode cX12_chairs 136 = .ok (.iload 5, 2) := by decide +kernel
theorem dX12_chairs_138 : decode cX12_chairs 138 = .ok (.imul, 1) := by decide +kernel
theorem dX12_chairs_139 : decode cX12_chairs 139 = .ok (.iload 6, 2) := by decide +kernel
theorem dX12_chairs_141 : decode cX12_chairs 141 = .ok (.iadd, 1) := by decide +kernel
theorem dX12_chairs_142 : decode cX12_chairs 142 = .ok (.dup2, 1) := by decide +kernel
theorem dX12_chairs_143 : decode cX12_chairs 143 = .ok (.iaload, 1) := by decide +kernel
theorem dX12_chairs_144 : decode cX12_chairs 144 = .ok (.aload_n 0, 1) := by decide +kernel
theorem dX12_chairs_145 : decode cX12_chairs 145 = .ok (.iload 5, 2) := by decide +kernel
theorem dX12_chairs_147 : decode cX12_chairs 147 = .ok (.iload_n 2, 1) := by decide +kernel
theorem dX12_chairs_148 : decode cX12_chairs 148 = .ok (.bipush 10, 2) := by decide +kernel
theorem dX12_chairs_150 : decode cX12_chairs 150 = .ok (.idiv, 1) := by decide +kernel
theorem dX12_chairs_151 : decode cX12_chairs 151 = .ok (.iload 6, 2) := by decide +kernel
theorem dX12_chairs_153 : decode cX12_chairs 153 = .ok (.invokevirtual 214, 3) := by decide +kernel
theorem dX12_chairs_156 : decode cX12_chairs 156 = .ok (.iadd, 1) := by decide +kernel
theorem dX12_chairs_157 : decode cX12_chairs 157 = .ok (.iastore, 1) := by decide +kernel
theorem dX12_chairs_158 : decode cX12_chairs 158 = .ok (.iinc 6 1, 3) := by decide +kernel
theorem dX12_chairs_161 : decode cX12_chairs 161 = .ok (.goto (-43), 3) := by decide +kernel
theorem dX12_chairs_164 : decode cX12_chairs 164 = .ok (.iinc 4 1, 3) := by decide +kernel
theorem dX12_chairs_167 : decode cX12_chairs 167 = .ok (.goto (-71), 3) := by decide +kernel
theorem dX12_chairs_170 : decode cX12_chairs 170 = .ok (.aload_n 0, 1) := by decide +kernel
theorem dX12_chairs_171 : decode cX12_chairs 171 = .ok (.iload_n 1, 1) := by decide +kernel
theorem dX12_chairs_172 : decode cX12_chairs 172 = .ok (.invokevirtual 318, 3) := by decide +kernel
theorem dX12_chairs_175 : decode cX12_chairs 175 = .ok (.istore 4, 2) := by decide +kernel
theorem dX12_chairs_177 : decode cX12_chairs 177 = .ok (.aload_n 0, 1) := by decide +kernel
theorem dX12_chairs_178 : decode cX12_chairs 178 = .ok (.iconst (-1), 1) := by decide +kernel
theorem dX12_chairs_179 : decode cX12_chairs 179 = .ok (.putfield 312, 3) := by decide +kernel
theorem dX12_chairs_182 : decode cX12_chairs 182 = .ok (.aload_n 0, 1) := by decide +kernel
theorem dX12_chairs_183 : decode cX12_chairs 183 = .ok (.iconst 0, 1) := by decide +kernel
theorem dX12_chairs_184 : decode cX12_chairs 184 = .ok (.iconst 0, 1) := by decide +kernel
theorem dX12_chairs_185 : decode cX12_chairs 185 = .ok (.iload 4, 2) := by decide +kernel
theorem dX12_chairs_187 : decode cX12_chairs 187 = .ok (.iload_n 2, 1) := by decide +kernel
theorem dX12_chairs_188 : decode cX12_chairs 188 = .ok (.bipush 10, 2) := by decide +kernel
theorem dX12_chairs_190 : decode cX12_chairs 190 = .ok (.irem, 1) := by decide +kernel
theorem dX12_chairs_191 : decode cX12_chairs 191 = .ok (.invokevirtual 315, 3) := by decide +kernel
theorem dX12_chairs_194 : decode cX12_chairs 194 = .ok (.iload_n 3, 1) := by decide +kernel
theorem dX12_chairs_195 : decode cX12_chairs 195 = .ok (.ifCond .ge 10, 3) := by decide +kernel
theorem dX12_chairs_198 : decode cX12_chairs 198 = .ok (.aload_n 0, 1) := by decide +kernel
theorem dX12_chairs_199 : decode cX12_chairs 199 = .ok (.getfield 312, 3) := by decide +kernel
theorem dX12_chairs_202 : decode cX12_chairs 202 = .ok (.goto 23, 3) := by decide +kernel
theorem dX12_chairs_205 : decode cX12_chairs 205 = .ok (.iload 4, 2) := by decide +kernel
theorem dX12_chairs_207 : decode cX12_chairs 207 = .ok (.iload_n 3, 1) := by decide +kernel
theorem dX12_chairs_208 : decode cX12_chairs 208 = .ok (.invokestatic 278, 3) := by decide +kernel
theorem dX12_chairs_211 : decode cX12_chairs 211 = .ok (.ifCond .eq 12, 3) := by decide +kernel
theorem dX12_chairs_214 : decode cX12_chairs 214 = .ok (.aload_n 0, 1) := by decide +kernel
theorem dX12_chairs_215 : decode cX12_chairs 215 = .ok (.getfield 56, 3) := by decide +kernel
theorem dX12_chairs_218 : decode cX12_chairs 218 = .ok (.iload_n 3, 1) := by decide +kernel
theorem dX12_chairs_219 : decode cX12_chairs 219 = .ok (.iaload, 1) := by decide +kernel
theorem dX12_chairs_220 : decode cX12_chairs 220 = .ok (.goto 5, 3) := by decide +kernel
theorem dX12_chairs_223 : decode cX12_chairs 223 = .ok (.bipush (-2), 2) := by decide +kernel
theorem dX12_chairs_225 : decode cX12_chairs 225 = .ok (.ireturn, 1) := by decide +kernel
theorem dX12_standsBy_0 : decode cX12_standsBy 0 = .ok (.iload_n 3, 1) := by decide +kernel
theorem dX12_standsBy_1 : decode cX12_standsBy 1 = .ok (.bipush 8, 2) := by decide +kernel
theorem dX12_standsBy_3 : decode cX12_standsBy 3 = .ok (.if_icmp .ge 28, 3) := by decide +kernel
theorem dX12_standsBy_6 : decode cX12_standsBy 6 = .ok (.aload_n 0, 1) := by decide +kernel
theorem dX12_standsBy_7 : decode cX12_standsBy 7 = .ok (.iload_n 3, 1) := by decide +kernel
theorem dX12_standsBy_8 : decode cX12_standsBy 8 = .ok (.iload_n 1, 1) := by decide +kernel
theorem dX12_standsBy_9 : decode cX12_standsBy 9 = .ok (.invokevirtual 208, 3) := by decide +kernel
theorem dX12_standsBy_12 : decode cX12_standsBy 12 = .ok (.iload_n 2, 1) := by decide +kernel
theorem dX12_standsBy_13 : decode cX12_standsBy 13 = .ok (.isub, 1) := by decide +kernel
theorem dX12_standsBy_14 : decode cX12_standsBy 14 = .ok (.invokestatic 211, 3) := by decide +kernel
theorem dX12_standsBy_17 : decode cX12_standsBy 17 = .ok (.aload_n 0, 1) := by decide +kernel
theorem dX12_standsBy_18 : decode cX12_standsBy 18 = .ok (.iload_n 3, 1) := by decide +kernel
theorem dX12_standsBy_19 : decode cX12_standsBy 19 = .ok (.bipush 6, 2) := by decide +kernel
theorem dX12_standsBy_21 : decode cX12_standsBy 21 = .ok (.invokevirtual 208, 3) := by decide +kernel
theorem dX12_standsBy_24 : decode cX12_standsBy 24 = .ok (.if_icmp .le 7, 3) := by decide +kernel
theorem dX12_standsBy_27 : decode cX12_standsBy 27 = .ok (.iconst 1, 1) := by decide +kernel
theorem dX12_standsBy_28 : decode cX12_standsBy 28 = .ok (.goto 4, 3) := by decide +kernel
theorem dX12_standsBy_31 : decode cX12_standsBy 31 = .ok (.iconst 0, 1) := by decide +kernel
theorem dX12_standsBy_32 : decode cX12_standsBy 32 = .ok (.istore 4, 2) := by decide +kernel
theorem dX12_standsBy_34 : decode cX12_standsBy 34 = .ok (.aload_n 0, 1) := by decide +kernel
theorem dX12_standsBy_35 : decode cX12_standsBy 35 = .ok (.iload_n 1, 1) := by decide +kernel
theorem dX12_standsBy_36 : decode cX12_standsBy 36 = .ok (.iload 4, 2) := by decide +kernel
theorem dX12_standsBy_38 : decode cX12_standsBy 38 = .ok (.ifCond .eq 12, 3) := by decide +kernel
theorem dX12_standsBy_41 : decode cX12_standsBy 41 = .ok (.aload_n 0, 1) := by decide +kernel
theorem dX12_standsBy_42 : decode cX12_standsBy 42 = .ok (.iload_n 3, 1) := by decide +kernel
theorem dX12_standsBy_43 : decode cX12_standsBy 43 = .ok (.iload_n 1, 1) := by decide +kernel
theorem dX12_standsBy_44 : decode cX12_standsBy 44 = .ok (.invokevirtual 208, 3) := by decide +kernel
theorem dX12_standsBy_47 : decode cX12_standsBy 47 = .ok (.goto 4, 3) := by decide +kernel
theorem dX12_standsBy_50 : decode cX12_standsBy 50 = .ok (.iload_n 2, 1) := by decide +kernel
theorem dX12_standsBy_51 : decode cX12_standsBy 51 = .ok (.invokevirtual 248, 3) := by decide +kernel
theorem dX12_standsBy_54 : decode cX12_standsBy 54 = .ok (.ireturn, 1) := by decide +kernel
theorem dX12_isSeen_0 : decode cX12_isSeen 0 = .ok (.aload_n 0, 1) := by decide +kernel
theorem dX12_isSeen_1 : decode cX12_isSeen 1 = .ok (.getfield 80, 3) := by decide +kernel
theorem dX12_isSeen_4 : decode cX12_isSeen 4 = .ok (.bipush 60, 2) := by decide +kernel
theorem dX12_isSeen_6 : decode cX12_isSeen 6 = .ok (.iload_n 1, 1) := by decide +kernel
theorem dX12_isSeen_7 : decode cX12_isSeen 7 = .ok (.imul, 1) := by decide +kernel
theorem dX12_isSeen_8 : decode cX12_isSeen 8 = .ok (.iload_n 2, 1) := by decide +kernel
theorem dX12_isSeen_9 : decode cX12_isSeen 9 = .ok (.iadd, 1) := by decide +kernel
theorem dX12_isSeen_10 : decode cX12_isSeen 10 = .ok (.laload, 1) := by decide +kernel
theorem dX12_isSeen_11 : decode cX12_isSeen 11 = .ok (.lstore 4, 2) := by decide +kernel
theorem dX12_isSeen_13 : decode cX12_isSeen 13 = .ok (.lload 4, 2) := by decide +kernel
theorem dX12_isSeen_15 : decode cX12_isSeen 15 = .ok (.ldc2_w 321, 3) := by decide +kernel
theorem dX12_isSeen_18 : decode cX12_isSeen 18 = .ok (.lcmp, 1) := by decide +kernel
theorem dX12_isSeen_19 : decode cX12_isSeen 19 = .ok (.ifCond .eq 11, 3) := by decide +kernel
theorem dX12_isSeen_22 : decode cX12_isSeen 22 = .ok (.lload 4, 2) := by decide +kernel
theorem dX12_isSeen_24 : decode cX12_isSeen 24 = .ok (.iload_n 3, 1) := by decide +kernel
theorem dX12_isSeen_25 : decode cX12_isSeen 25 = .ok (.i2l, 1) := by decide +kernel
theorem dX12_isSeen_26 : decode cX12_isSeen 26 = .ok (.lcmp, 1) := by decide +kernel
theorem dX12_isSeen_27 : decode cX12_isSeen 27 = .ok (.ifCond .ne 7, 3) := by decide +kernel
theorem dX12_isSeen_30 : decode cX12_isSeen 30 = .ok (.iconst 1, 1) := by decide +kernel
theorem dX12_isSeen_31 : decode cX12_isSeen 31 = .ok (.goto 4, 3) := by decide +kernel
theorem dX12_isSeen_34 : decode cX12_isSeen 34 = .ok (.iconst 0, 1) := by decide +kernel
theorem dX12_isSeen_35 : decode cX12_isSeen 35 = .ok (.ireturn, 1) := by decide +kernel
theorem dX12_may1_0 : decode cX12_may1 0 = .ok (.iload_n 1, 1) := by decide +kernel
theorem dX12_may1_1 : decode cX12_may1 1 = .ok (.aload_n 0, 1) := by decide +kernel
theorem dX12_may1_2 : decode cX12_may1 2 = .ok (.getfield 106, 3) := by decide +kernel
theorem dX12_may1_5 : decode cX12_may1 5 = .ok (.if_icmp .lt 9, 3) := by decide +kernel
theorem dX12_may1_8 : decode cX12_may1 8 = .ok (.iload_n 1, 1) := by decide +kernel
theorem dX12_may1_9 : decode cX12_may1 9 = .ok (.bipush 8, 2) := by decide +kernel
theorem dX12_may1_11 : decode cX12_may1 11 = .ok (.if_icmp .ne 7, 3) := by decide +kernel
theorem dX12_may1_14 : decode cX12_may1 14 = .ok (.iconst 1, 1) := by decide +kernel
theorem dX12_may1_15 : decode cX12_may1 15 = .ok (.goto 4, 3) := by decide +kernel
theorem dX12_may1_18 : decode cX12_may1 18 = .ok (.iconst 0, 1) := by decide +kernel
theorem dX12_may1_19 : decode cX12_may1 19 = .ok (.ireturn, 1) := by decide +kernel
theorem dX12_who_0 : decode cX12_who 0 = .ok (.aload_n 0, 1) := by decide +kernel
theorem dX12_who_1 : decode cX12_who 1 = .ok (.iload_n 1, 1) := by decide +kernel
theorem dX12_who_2 : decode cX12_who 2 = .ok (.invokevirtual 224, 3) := by decide +kernel
theorem dX12_who_5 : decode cX12_who 5 = .ok (.iconst (-1), 1) := by decide +kernel
theorem dX12_who_6 : decode cX12_who 6 = .ok (.if_icmp .eq 22, 3) := by decide +kernel
theorem dX12_who_9 : decode cX12_who 9 = .ok (.iload_n 2, 1) := by decide +kernel
theorem dX12_who_10 : decode cX12_who 10 = .ok (.invokestatic 140, 3) := by decide +kernel
theorem dX12_who_13 : decode cX12_who 13 = .ok (.ifCond .eq 15, 3) := by decide +kernel
theorem dX12_who_16 : decode cX12_who 16 = .ok (.iload_n 3, 1) := by decide +kernel
theorem dX12_who_17 : decode cX12_who 17 = .ok (.i2l, 1) := by decide +kernel
theorem dX12_who_18 : decode cX12_who 18 = .ok (.lconst 0, 1) := by decide +kernel
theorem dX12_who_19 : decode cX12_who 19 = .ok (.ldc2_w 323, 3) := by decide +kernel
theorem dX12_who_22 : decode cX12_who 22 = .ok (.invokestatic 109, 3) := by decide +kernel
theorem dX12_who_25 : decode cX12_who 25 = .ok (.ifCond .ne 5, 3) := by decide +kernel
theorem dX12_who_28 : decode cX12_who 28 = .ok (.iconst (-1), 1) := by decide +kernel
theorem dX12_who_29 : decode cX12_who 29 = .ok (.ireturn, 1) := by decide +kernel
theorem dX12_who_30 : decode cX12_who 30 = .ok (.aload_n 0, 1) := by decide +kernel
theorem dX12_who_31 : decode cX12_who 31 = .ok (.iload_n 1, 1) := by decide +kernel
theorem dX12_who_32 : decode cX12_who 32 = .ok (.invokevirtual 224, 3) := by decide +kernel
theorem dX12_who_35 : decode cX12_who 35 = .ok (.ifCond .ge 9, 3) := by decide +kernel
theorem dX12_who_38 : decode cX12_who 38 = .ok (.aload_n 0, 1) := by decide +kernel
theorem dX12_who_39 : decode cX12_who 39 = .ok (.iload_n 1, 1) := by decide +kernel
theorem dX12_who_40 : decode cX12_who 40 = .ok (.invokevirtual 224, 3) := by decide +kernel
theorem dX12_who_43 : decode cX12_who 43 = .ok (.ireturn, 1) := by decide +kernel
theorem dX12_who_44 : decode cX12_who 44 = .ok (.aload_n 0, 1) := by decide +kernel
theorem dX12_who_45 : decode cX12_who 45 = .ok (.getfield 77, 3) := by decide +kernel
theorem dX12_who_48 : decode cX12_who 48 = .ok (.iload_n 1, 1) := by decide +kernel
theorem dX12_who_49 : decode cX12_who 49 = .ok (.iaload, 1) := by decide +kernel
theorem dX12_who_50 : decode cX12_who 50 = .ok (.bipush 12, 2) := by decide +kernel
theorem dX12_who_52 : decode cX12_who 52 = .ok (.if_icmp .ge 12, 3) := by decide +kernel
theorem dX12_who_55 : decode cX12_who 55 = .ok (.aload_n 0, 1) := by decide +kernel
theorem dX12_who_56 : decode cX12_who 56 = .ok (.getfield 77, 3) := by decide +kernel
theorem dX12_who_59 : decode cX12_who 59 = .ok (.iload_n 1, 1) := by decide +kernel
theorem dX12_who_60 : decode cX12_who 60 = .ok (.iaload, 1) := by decide +kernel
theorem dX12_who_61 : decode cX12_who 61 = .ok (.goto 5, 3) := by decide +kernel
theorem dX12_who_64 : decode cX12_who 64 = .ok (.bipush 12, 2) := by decide +kernel
theorem dX12_who_66 : decode cX12_who 66 = .ok (.istore 4, 2) := by decide +kernel
theorem dX12_who_68 : decode cX12_who 68 = .ok (.iload_n 3, 1) := by decide +kernel
theorem dX12_who_69 : decode cX12_who 69 = .ok (.iload 4, 2) := by decide +kernel
theorem dX12_who_71 : decode cX12_who 71 = .ok (.if_icmp .lt 5, 3) := by decide +kernel
theorem dX12_who_74 : decode cX12_who 74 = .ok (.iconst (-1), 1) := by decide +kernel
theorem dX12_who_75 : decode cX12_who 75 = .ok (.ireturn, 1) := by decide +kernel
theorem dX12_who_76 : decode cX12_who 76 = .ok (.iconst 0, 1) := by decide +kernel
theorem dX12_who_77 : decode cX12_who 77 = .ok (.istore 5, 2) := by decide +kernel
theorem dX12_who_79 : decode cX12_who 79 = .ok (.iload 5, 2) := by decide +kernel
theorem dX12_who_81 : decode cX12_who 81 = .ok (.sipush 793, 3) := by decide +kernel
theorem dX12_who_84 : decode cX12_who 84 = .ok (.if_icmp .ge 54, 3) := by decide +kernel
theorem dX12_who_87 : decode cX12_who 87 = .ok (.aload_n 0, 1) := by decide +kernel
theorem dX12_who_88 : decode cX12_who 88 = .ok (.getfield 59, 3) := by decide +kernel
theorem dX12_who_91 : decode cX12_who 91 = .ok (.iload 5, 2) := by decide +kernel
theorem dX12_who_93 : decode cX12_who 93 = .ok (.iload 5, 2) := by decide +kernel
theorem dX12_who_95 : decode cX12_who 95 = .ok (.aload_n 0, 1) := by decide +kernel
theorem dX12_who_96 : decode cX12_who 96 = .ok (.getfield 22, 3) := by decide +kernel
theorem dX12_who_99 : decode cX12_who 99 = .ok (.iload_n 2, 1) := by decide +kernel
theorem dX12_who_100 : decode cX12_who 100 = .ok (.iaload, 1) := by decide +kernel
theorem dX12_who_101 : decode cX12_who 101 = .ok (.if_icmp .ne 7, 3) := by decide +kernel
theorem dX12_who_104 : decode cX12_who 104 = .ok (.iconst 1, 1) := by decide +kernel
theorem dX12_who_105 : decode cX12_who 105 = .ok (.goto 4, 3) := by decide +kernel
theorem dX12_who_108 : decode cX12_who 108 = .ok (.iconst 0, 1) := by decide +kernel
theorem dX12_who_109 : decode cX12_who 109 = .ok (.bastore, 1) := by decide +kernel
theorem dX12_who_110 : decode cX12_who 110 = .ok (.aload_n 0, 1) := by decide +kernel
theorem dX12_who_111 : decode cX12_who 111 = .ok (.getfield 62, 3) := by decide +kernel
theorem dX12_who_114 : decode cX12_who 114 = .ok (.iload 5, 2) := by decide +kernel
theorem dX12_who_116 : decode cX12_who 116 = .ok (.iload 5, 2) := by decide +kernel
theorem dX12_who_118 : decode cX12_who 118 = .ok (.bipush 61, 2) := by decide +kernel
theorem dX12_who_120 : decode cX12_who 120 = .ok (.idiv, 1) := by decide +kernel
theorem dX12_who_121 : decode cX12_who 121 = .ok (.iload 4, 2) := by decide +kernel
theorem dX12_who_123 : decode cX12_who 123 = .ok (.if_icmp .ne 7, 3) := by decide +kernel
theorem dX12_who_126 : decode cX12_who 126 = .ok (.iconst 1, 1) := by decide +kernel
theorem dX12_who_127 : decode cX12_who 127 = .ok (.goto 4, 3) := by decide +kernel
theorem dX12_who_130 : decode cX12_who 130 = .ok (.iconst 0, 1) := by decide +kernel
theorem dX12_who_131 : decode cX12_who 131 = .ok (.bastore, 1) := by decide +kernel
theorem dX12_who_132 : decode cX12_who 132 = .ok (.iinc 5 1, 3) := by decide +kernel
theorem dX12_who_135 : decode cX12_who 135 = .ok (.goto (-56), 3) := by decide +kernel
theorem dX12_who_138 : decode cX12_who 138 = .ok (.iconst 0, 1) := by decide +kernel
theorem dX12_who_139 : decode cX12_who 139 = .ok (.istore 5, 2) := by decide +kernel
theorem dX12_who_141 : decode cX12_who 141 = .ok (.iload 5, 2) := by decide +kernel
theorem dX12_who_143 : decode cX12_who 143 = .ok (.iload 4, 2) := by decide +kernel
theorem dX12_who_145 : decode cX12_who 145 = .ok (.if_icmp .ge 125, 3) := by decide +kernel
theorem dX12_who_148 : decode cX12_who 148 = .ok (.iconst 0, 1) := by decide +kernel
theorem dX12_who_149 : decode cX12_who 149 = .ok (.istore 6, 2) := by decide +kernel
theorem dX12_who_151 : decode cX12_who 151 = .ok (.iload 6, 2) := by decide +kernel
theorem dX12_who_153 : decode cX12_who 153 = .ok (.bipush 61, 2) := by decide +kernel
theorem dX12_who_155 : decode cX12_who 155 = .ok (.if_icmp .ge 109, 3) := by decide +kernel
theorem dX12_who_158 : decode cX12_who 158 = .ok (.iconst 0, 1) := by decide +kernel
theorem dX12_who_159 : decode cX12_who 159 = .ok (.istore 7, 2) := by decide +kernel
theorem dX12_who_161 : decode cX12_who 161 = .ok (.iload 7, 2) := by decide +kernel
theorem dX12_who_163 : decode cX12_who 163 = .ok (.bipush 8, 2) := by decide +kernel
theorem dX12_who_165 : decode cX12_who 165 = .ok (.if_icmp .gt 93, 3) := by decide +kernel
theorem dX12_who_168 : decode cX12_who 168 = .ok (.aload_n 0, 1) := by decide +kernel
theorem dX12_who_169 : decode cX12_who 169 = .ok (.getfield 59, 3) := by decide +kernel
theorem dX12_who_172 : decode cX12_who 172 = .ok (.bipush 61, 2) := by decide +kernel
theorem dX12_who_174 : decode cX12_who 174 = .ok (.iload 5, 2) := by decide +kernel
theorem dX12_who_176 : decode cX12_who 176 = .ok (.imul, 1) := by decide +kernel
theorem dX12_who_177 : decode cX12_who 177 = .ok (.iload 6, 2) := by decide +kernel
theorem dX12_who_179 : decode cX12_who 179 = .ok (.iadd, 1) := by decide +kernel
theorem dX12_who_180 : decode cX12_who 180 = .ok (.baload, 1) := by decide +kernel
theorem dX12_who_181 : decode cX12_who 181 = .ok (.ifCond .eq 77, 3) := by decide +kernel
theorem dX12_who_184 : decode cX12_who 184 = .ok (.aload_n 0, 1) := by decide +kernel
theorem dX12_who_185 : decode cX12_who 185 = .ok (.iload 7, 2) := by decide +kernel
theorem dX12_who_187 : decode cX12_who 187 = .ok (.invokevirtual 325, 3) := by decide +kernel
theorem dX12_who_190 : decode cX12_who 190 = .ok (.ifCond .eq 15, 3) := by decide +kernel
theorem dX12_who_193 : decode cX12_who 193 = .ok (.aload_n 0, 1) := by decide +kernel
theorem dX12_who_194 : decode cX12_who 194 = .ok (.iload_n 2, 1) := by decide +kernel
theorem dX12_who_195 : decode cX12_who 195 = .ok (.iload 6, 2) := by decide +kernel
theorem dX12_who_197 : decode cX12_who 197 = .ok (.iload 7, 2) := by decide +kernel
theorem dX12_who_199 : decode cX12_who 199 = .ok (.invokevirtual 328, 3) := by decide +kernel
theorem dX12_who_202 : decode cX12_who 202 = .ok (.goto 4, 3) := by decide +kernel
theorem dX12_who_205 : decode cX12_who 205 = .ok (.iconst 0, 1) := by decide +kernel
theorem dX12_who_206 : decode cX12_who 206 = .ok (.istore 8, 2) := by decide +kernel
theorem dX12_who_208 : decode cX12_who 208 = .ok (.aload_n 0, 1) := by decide +kernel
theorem dX12_who_209 : decode cX12_who 209 = .ok (.getfield 59, 3) := by decide +kernel
theorem dX12_who_212 : decode cX12_who 212 = .ok (.bipush 61, 2) := by decide +kernel
theorem dX12_who_214 : decode cX12_who 214 = .ok (.iload 5, 2) := by decide +kernel
theorem dX12_who_216 : decode cX12_who 216 = .ok (.iconst 1, 1) := by decide +kernel
theorem dX12_who_217 : decode cX12_who 217 = .ok (.iadd, 1) := by decide +kernel
theorem dX12_who_218 : decode cX12_who 218 = .ok (.imul, 1) := by decide +kernel
theorem dX12_who_219 : decode cX12_who 219 = .ok (.iload 8, 2) := by decide +kernel
theorem dX12_who_221 : decode cX12_who 221 = .ok (.iadd, 1) := by decide +kernel
theorem dX12_who_222 : decode cX12_who 222 = .ok (.dup2, 1) := by decide +kernel
theorem dX12_who_223 : decode cX12_who 223 = .ok (.baload, 1) := by decide +kernel
theorem dX12_who_224 : decode cX12_who 224 = .ok (.aload_n 0, 1) := by decide +kernel
theorem dX12_who_225 : decode cX12_who 225 = .ok (.iload 7, 2) := by decide +kernel
theorem dX12_who_227 : decode cX12_who 227 = .ok (.invokevirtual 325, 3) := by decide +kernel
theorem dX12_who_230 : decode cX12_who 230 = .ok (.ifCond .eq 19, 3) := by decide +kernel
theorem dX12_who_233 : decode cX12_who 233 = .ok (.aload_n 0, 1) := by decide +kernel
theorem dX12_who_234 : decode cX12_who 234 = .ok (.iload_n 1, 1) := by decide +kernel
theorem dX12_who_235 : decode cX12_who 235 = .ok (.iload 5, 2) := by decide +kernel
theorem dX12_who_237 : decode cX12_who 237 = .ok (.iload 8, 2) := by decide +kernel
theorem dX12_who_239 : decode cX12_who 239 = .ok (.invokevirtual 331, 3) := by decide +kernel
theorem dX12_who_242 : decode cX12_who 242 = .ok (.ifCond .eq 7, 3) := by decide +kernel
theorem dX12_who_245 : decode cX12_who 245 = .ok (.iconst 1, 1) := by decide +kernel
theorem dX12_who_246 : decode cX12_who 246 = .ok (.goto 4, 3) := by decide +kernel
theorem dX12_who_249 : decode cX12_who 249 = .ok (.iconst 0, 1) := by decide +kernel
theorem dX12_who_250 : decode cX12_who 250 = .ok (.ior, 1) := by decide +kernel
theorem dX12_who_251 : decode cX12_who 251 = .ok (.bastore, 1) := by decide +kernel
theorem dX12_who_252 : decode cX12_who 252 = .ok (.iinc 7 1, 3) := by decide +kernel
theorem dX12_who_255 : decode cX12_who 255 = .ok (.goto (-94), 3) := by decide +kernel
theorem dX12_who_258 : decode cX12_who 258 = .ok (.iinc 6 1, 3) := by decide +kernel
theorem dX12_who_261 : decode cX12_who 261 = .ok (.goto (-110), 3) := by decide +kernel
theorem dX12_who_264 : decode cX12_who 264 = .ok (.iinc 5 1, 3) := by decide +kernel
theorem dX12_who_267 : decode cX12_who 267 = .ok (.goto (-126), 3) := by decide +kernel
theorem dX12_who_270 : decode cX12_who 270 = .ok (.iload 4, 2) := by decide +kernel
theorem dX12_who_272 : decode cX12_who 272 = .ok (.iconst 1, 1) := by decide +kernel
theorem dX12_who_273 : decode cX12_who 273 = .ok (.isub, 1) := by decide +kernel
theorem dX12_who_274 : decode cX12_who 274 = .ok (.istore 5, 2) := by decide +kernel
theorem dX12_who_276 : decode cX12_who 276 = .ok (.iload 5, 2) := by decide +kernel
theorem dX12_who_278 : decode cX12_who 278 = .ok (.ifCond .lt 125, 3) := by decide +kernel
theorem dX12_who_281 : decode cX12_who 281 = .ok (.iconst 0, 1) := by decide +kernel
theorem dX12_who_282 : decode cX12_who 282 = .ok (.istore 6, 2) := by decide +kernel
theorem dX12_who_284 : decode cX12_who 284 = .ok (.iload 6, 2) := by decide +kernel
theorem dX12_who_286 : decode cX12_who 286 = .ok (.bipush 61, 2) := by decide +kernel
theorem dX12_who_288 : decode cX12_who 288 = .ok (.if_icmp .ge 109, 3) := by decide +kernel
theorem dX12_who_291 : decode cX12_who 291 = .ok (.iconst 0, 1) := by decide +kernel
theorem dX12_who_292 : decode cX12_who 292 = .ok (.istore 7, 2) := by decide +kernel
theorem dX12_who_294 : decode cX12_who 294 = .ok (.iload 7, 2) := by decide +kernel
theorem dX12_who_296 : decode cX12_who 296 = .ok (.bipush 8, 2) := by decide +kernel
theorem dX12_who_298 : decode cX12_who 298 = .ok (.if_icmp .gt 93, 3) := by decide +kernel
theorem dX12_who_301 : decode cX12_who 301 = .ok (.aload_n 0, 1) := by decide +kernel
theorem dX12_who_302 : decode cX12_who 302 = .ok (.iload 7, 2) := by decide +kernel
theorem dX12_who_304 : decode cX12_who 304 = .ok (.invokevirtual 325, 3) := by decide +kernel
theorem dX12_who_307 : decode cX12_who 307 = .ok (.ifCond .eq 15, 3) := by decide +kernel
theorem dX12_who_310 : decode cX12_who 310 = .ok (.aload_n 0, 1) := by decide +kernel
theorem dX12_who_311 : decode cX12_who 311 = .ok (.iload_n 2, 1) := by decide +kernel
theorem dX12_who_312 : decode cX12_who 312 = .ok (.iload 6, 2) := by decide +kernel
theorem dX12_who_314 : decode cX12_who 314 = .ok (.iload 7, 2) := by decide +kernel
theorem dX12_who_316 : decode cX12_who 316 = .ok (.invokevirtual 328, 3) := by decide +kernel
theorem dX12_who_319 : decode cX12_who 319 = .ok (.goto 4, 3) := by decide +kernel
theorem dX12_who_322 : decode cX12_who 322 = .ok (.iconst 0, 1) := by decide +kernel
theorem dX12_who_323 : decode cX12_who 323 = .ok (.istore 8, 2) := by decide +kernel
theorem dX12_who_325 : decode cX12_who 325 = .ok (.aload_n 0, 1) := by decide +kernel
theorem dX12_who_326 : decode cX12_who 326 = .ok (.getfield 62, 3) := by decide +kernel
theorem dX12_who_329 : decode cX12_who 329 = .ok (.bipush 61, 2) := by decide +kernel
theorem dX12_who_331 : decode cX12_who 331 = .ok (.iload 5, 2) := by decide +kernel
theorem dX12_who_333 : decode cX12_who 333 = .ok (.imul, 1) := by decide +kernel
theorem dX12_who_334 : decode cX12_who 334 = .ok (.iload 6, 2) := by decide +kernel
theorem dX12_who_336 : decode cX12_who 336 = .ok (.iadd, 1) := by decide +kernel
theorem dX12_who_337 : decode cX12_who 337 = .ok (.dup2, 1) := by decide +kernel
theorem dX12_who_338 : decode cX12_who 338 = .ok (.baload, 1) := by decide +kernel
theorem dX12_who_339 : decode cX12_who 339 = .ok (.aload_n 0, 1) := by decide +kernel
theorem dX12_who_340 : decode cX12_who 340 = .ok (.iload 7, 2) := by decide +kernel
theorem dX12_who_342 : decode cX12_who 342 = .ok (.invokevirtual 325, 3) := by decide +kernel
theorem dX12_who_345 : decode cX12_who 345 = .ok (.ifCond .eq 37, 3) := by decide +kernel
theorem dX12_who_348 : decode cX12_who 348 = .ok (.aload_n 0, 1) := by decide +kernel
theorem dX12_who_349 : decode cX12_who 349 = .ok (.iload_n 1, 1) := by decide +kernel
theorem dX12_who_350 : decode cX12_who 350 = .ok (.iload 5, 2) := by decide +kernel
theorem dX12_who_352 : decode cX12_who 352 = .ok (.iload 8, 2) := by decide +kernel
theorem dX12_who_354 : decode cX12_who 354 = .ok (.invokevirtual 331, 3) := by decide +kernel
theorem dX12_who_357 : decode cX12_who 357 = .ok (.ifCond .eq 25, 3) := by decide +kernel
theorem dX12_who_360 : decode cX12_who 360 = .ok (.aload_n 0, 1) := by decide +kernel
theorem dX12_who_361 : decode cX12_who 361 = .ok (.getfield 62, 3) := by decide +kernel
theorem dX12_who_364 : decode cX12_who 364 = .ok (.bipush 61, 2) := by decide +kernel
theorem dX12_who_366 : decode cX12_who 366 = .ok (.iload 5, 2) := by decide +kernel
theorem dX12_who_368 : decode cX12_who 368 = .ok (.iconst 1, 1) := by decide +kernel
theorem dX12_who_369 : decode cX12_who 369 = .ok (.iadd, 1) := by decide +kernel
theorem dX12_who_370 : decode cX12_who 370 = .ok (.imul, 1) := by decide +kernel
theorem dX12_who_371 : decode cX12_who 371 = .ok (.iload 8, 2) := by decide +kernel
theorem dX12_who_373 : decode cX12_who 373 = .ok (.iadd, 1) := by decide +kernel
theorem dX12_who_374 : decode cX12_who 374 = .ok (.baload, 1) := by decide +kernel
theorem dX12_who_375 : decode cX12_who 375 = .ok (.ifCond .eq 7, 3) := by decide +kernel
theorem dX12_who_378 : decode cX12_who 378 = .ok (.iconst 1, 1) := by decide +kernel
theorem dX12_who_379 : decode cX12_who 379 = .ok (.goto 4, 3) := by decide +kernel
theorem dX12_who_382 : decode cX12_who 382 = .ok (.iconst 0, 1) := by decide +kernel
theorem dX12_who_383 : decode cX12_who 383 = .ok (.ior, 1) := by decide +kernel
theorem dX12_who_384 : decode cX12_who 384 = .ok (.bastore, 1) := by decide +kernel
theorem dX12_who_385 : decode cX12_who 385 = .ok (.iinc 7 1, 3) := by decide +kernel
theorem dX12_who_388 : decode cX12_who 388 = .ok (.goto (-94), 3) := by decide +kernel
theorem dX12_who_391 : decode cX12_who 391 = .ok (.iinc 6 1, 3) := by decide +kernel
theorem dX12_who_394 : decode cX12_who 394 = .ok (.goto (-110), 3) := by decide +kernel
theorem dX12_who_397 : decode cX12_who 397 = .ok (.iinc 5 (-1), 3) := by decide +kernel
theorem dX12_who_400 : decode cX12_who 400 = .ok (.goto (-124), 3) := by decide +kernel
theorem dX12_who_403 : decode cX12_who 403 = .ok (.iconst 0, 1) := by decide +kernel
theorem dX12_who_404 : decode cX12_who 404 = .ok (.istore 5, 2) := by decide +kernel
theorem dX12_who_406 : decode cX12_who 406 = .ok (.iconst 0, 1) := by decide +kernel
theorem dX12_who_407 : decode cX12_who 407 = .ok (.istore 6, 2) := by decide +kernel
theorem dX12_who_409 : decode cX12_who 409 = .ok (.iload 6, 2) := by decide +kernel
theorem dX12_who_411 : decode cX12_who 411 = .ok (.bipush 61, 2) := by decide +kernel
theorem dX12_who_413 : decode cX12_who 413 = .ok (.if_icmp .ge 126, 3) := by decide +kernel
theorem dX12_who_416 : decode cX12_who 416 = .ok (.iconst 0, 1) := by decide +kernel
theorem dX12_who_417 : decode cX12_who 417 = .ok (.istore 7, 2) := by decide +kernel
theorem dX12_who_419 : decode cX12_who 419 = .ok (.iload 7, 2) := by decide +kernel
theorem dX12_who_421 : decode cX12_who 421 = .ok (.bipush 8, 2) := by decide +kernel
theorem dX12_who_423 : decode cX12_who 423 = .ok (.if_icmp .gt 110, 3) := by decide +kernel
theorem dX12_who_426 : decode cX12_who 426 = .ok (.aload_n 0, 1) := by decide +kernel
theorem dX12_who_427 : decode cX12_who 427 = .ok (.iload 7, 2) := by decide +kernel
theorem dX12_who_429 : decode cX12_who 429 = .ok (.invokevirtual 325, 3) := by decide +kernel
theorem dX12_who_432 : decode cX12_who 432 = .ok (.ifCond .eq 15, 3) := by decide +kernel
theorem dX12_who_435 : decode cX12_who 435 = .ok (.aload_n 0, 1) := by decide +kernel
theorem dX12_who_436 : decode cX12_who 436 = .ok (.iload_n 2, 1) := by decide +kernel
theorem dX12_who_437 : decode cX12_who 437 = .ok (.iload 6, 2) := by decide +kernel
theorem dX12_who_439 : decode cX12_who 439 = .ok (.iload 7, 2) := by decide +kernel
theorem dX12_who_441 : decode cX12_who 441 = .ok (.invokevirtual 328, 3) := by decide +kernel
theorem dX12_who_444 : decode cX12_who 444 = .ok (.goto 4, 3) := by decide +kernel
theorem dX12_who_447 : decode cX12_who 447 = .ok (.iconst 0, 1) := by decide +kernel
theorem dX12_who_448 : decode cX12_who 448 = .ok (.istore 8, 2) := by decide +kernel
theorem dX12_who_450 : decode cX12_who 450 = .ok (.aload_n 0, 1) := by decide +kernel
theorem dX12_who_451 : decode cX12_who 451 = .ok (.iload 7, 2) := by decide +kernel
theorem dX12_who_453 : decode cX12_who 453 = .ok (.invokevirtual 325, 3) := by decide +kernel
theorem dX12_who_456 : decode cX12_who 456 = .ok (.ifCond .eq 50, 3) := by decide +kernel
theorem dX12_who_459 : decode cX12_who 459 = .ok (.aload_n 0, 1) := by decide +kernel
theorem dX12_who_460 : decode cX12_who 460 = .ok (.getfield 59, 3) := by decide +kernel
theorem dX12_who_463 : decode cX12_who 463 = .ok (.bipush 61, 2) := by decide +kernel
theorem dX12_who_465 : decode cX12_who 465 = .ok (.iload_n 3, 1) := by decide +kernel
theorem dX12_who_466 : decode cX12_who 466 = .ok (.imul, 1) := by decide +kernel
theorem dX12_who_467 : decode cX12_who 467 = .ok (.iload 6, 2) := by decide +kernel
theorem dX12_who_469 : decode cX12_who 469 = .ok (.iadd, 1) := by decide +kernel
theorem dX12_who_470 : decode cX12_who 470 = .ok (.baload, 1) := by decide +kernel
theorem dX12_who_471 : decode cX12_who 471 = .ok (.ifCond .eq 35, 3) := by decide +kernel
theorem dX12_who_474 : decode cX12_who 474 = .ok (.aload_n 0, 1) := by decide +kernel
theorem dX12_who_475 : decode cX12_who 475 = .ok (.iload_n 1, 1) := by decide +kernel
theorem dX12_who_476 : decode cX12_who 476 = .ok (.iload_n 3, 1) := by decide +kernel
theorem dX12_who_477 : decode cX12_who 477 = .ok (.iload 8, 2) := by decide +kernel
theorem dX12_who_479 : decode cX12_who 479 = .ok (.invokevirtual 331, 3) := by decide +kernel
theorem dX12_who_482 : decode cX12_who 482 = .ok (.ifCond .eq 24, 3) := by decide +kernel
theorem dX12_who_485 : decode cX12_who 485 = .ok (.aload_n 0, 1) := by decide +kernel
theorem dX12_who_486 : decode cX12_who 486 = .ok (.getfield 62, 3) := by decide +kernel
theorem dX12_who_489 : decode cX12_who 489 = .ok (.bipush 61, 2) := by decide +kernel
theorem dX12_who_491 : decode cX12_who 491 = .ok (.iload_n 3, 1) := by decide +kernel
theorem dX12_who_492 : decode cX12_who 492 = .ok (.iconst 1, 1) := by decide +kernel
theorem dX12_who_493 : decode cX12_who 493 = .ok (.iadd, 1) := by decide +kernel
theorem dX12_who_494 : decode cX12_who 494 = .ok (.imul, 1) := by decide +kernel
theorem dX12_who_495 : decode cX12_who 495 = .ok (.iload 8, 2) := by decide +kernel
theorem dX12_who_497 : decode cX12_who 497 = .ok (.iadd, 1) := by decide +kernel
theorem dX12_who_498 : decode cX12_who 498 = .ok (.baload, 1) := by decide +kernel
theorem dX12_who_499 : decode cX12_who 499 = .ok (.ifCond .eq 7, 3) := by decide +kernel
theorem dX12_who_502 : decode cX12_who 502 = .ok (.iconst 1, 1) := by decide +kernel
theorem dX12_who_503 : decode cX12_who 503 = .ok (.goto 4, 3) := by decide +kernel
theorem dX12_who_506 : decode cX12_who 506 = .ok (.iconst 0, 1) := by decide +kernel
theorem dX12_who_507 : decode cX12_who 507 = .ok (.istore 9, 2) := by decide +kernel
theorem dX12_who_509 : decode cX12_who 509 = .ok (.iload 5, 2) := by decide +kernel
theorem dX12_who_511 : decode cX12_who 511 = .ok (.iload 9, 2) := by decide +kernel
theorem dX12_who_513 : decode cX12_who 513 = .ok (.ifCond .eq 10, 3) := by decide +kernel
theorem dX12_who_516 : decode cX12_who 516 = .ok (.iconst 1, 1) := by decide +kernel
theorem dX12_who_517 : decode cX12_who 517 = .ok (.iload 7, 2) := by decide +kernel
theorem dX12_who_519 : decode cX12_who 519 = .ok (.ishl, 1) := by decide +kernel
theorem dX12_who_520 : decode cX12_who 520 = .ok (.goto 4, 3) := by decide +kernel
theorem dX12_who_523 : decode cX12_who 523 = .ok (.iconst 0, 1) := by decide +kernel
theorem dX12_who_524 : decode cX12_who 524 = .ok (.ior, 1) := by decide +kernel
theorem dX12_who_525 : decode cX12_who 525 = .ok (.istore 5, 2) := by decide +kernel
theorem dX12_who_527 : decode cX12_who 527 = .ok (.iinc 7 1, 3) := by decide +kernel
theorem dX12_who_530 : decode cX12_who 530 = .ok (.goto (-111), 3) := by decide +kernel
theorem dX12_who_533 : decode cX12_who 533 = .ok (.iinc 6 1, 3) := by decide +kernel
theorem dX12_who_536 : decode cX12_who 536 = .ok (.goto (-127), 3) := by decide +kernel
theorem dX12_who_539 : decode cX12_who 539 = .ok (.iload 5, 2) := by decide +kernel
theorem dX12_who_541 : decode cX12_who 541 = .ok (.ireturn, 1) := by decide +kernel
theorem dX12_judge_0 : decode cX12_judge 0 = .ok (.iload_n 1, 1) := by decide +kernel
theorem dX12_judge_1 : decode cX12_judge 1 = .ok (.ifCond .lt 30, 3) := by decide +kernel
theorem dX12_judge_4 : decode cX12_judge 4 = .ok (.iload_n 1, 1) := by decide +kernel
theorem dX12_judge_5 : decode cX12_judge 5 = .ok (.bipush 10, 2) := by decide +kernel
theorem dX12_judge_7 : decode cX12_judge 7 = .ok (.idiv, 1) := by decide +kernel
theorem dX12_judge_8 : decode cX12_judge 8 = .ok (.invokestatic 127, 3) := by decide +kernel
theorem dX12_judge_11 : decode cX12_judge 11 = .ok (.ifCond .eq 20, 3) := by decide +kernel
theorem dX12_judge_14 : decode cX12_judge 14 = .ok (.iload_n 1, 1) := by decide +kernel
theorem dX12_judge_15 : decode cX12_judge 15 = .ok (.bipush 10, 2) := by decide +kernel
theorem dX12_judge_17 : decode cX12_judge 17 = .ok (.irem, 1) := by decide +kernel
theorem dX12_judge_18 : decode cX12_judge 18 = .ok (.invokestatic 127, 3) := by decide +kernel
theorem dX12_judge_21 : decode cX12_judge 21 = .ok (.ifCond .eq 10, 3) := by decide +kernel
theorem dX12_judge_24 : decode cX12_judge 24 = .ok (.iload_n 2, 1) := by decide +kernel
theorem dX12_judge_25 : decode cX12_judge 25 = .ok (.invokestatic 140, 3) := by decide +kernel
theorem dX12_judge_28 : decode cX12_judge 28 = .ok (.ifCond .ne 5, 3) := by decide +kernel
theorem dX12_judge_31 : decode cX12_judge 31 = .ok (.iconst (-1), 1) := by decide +kernel
theorem dX12_judge_32 : decode cX12_judge 32 = .ok (.ireturn, 1) := by decide +kernel
theorem dX12_judge_33 : decode cX12_judge 33 = .ok (.aload_n 0, 1) := by decide +kernel
theorem dX12_judge_34 : decode cX12_judge 34 = .ok (.getfield 74, 3) := by decide +kernel
theorem dX12_judge_37 : decode cX12_judge 37 = .ok (.iload_n 1, 1) := by decide +kernel
theorem dX12_judge_38 : decode cX12_judge 38 = .ok (.bipush 10, 2) := by decide +kernel
theorem dX12_judge_40 : decode cX12_judge 40 = .ok (.idiv, 1) := by decide +kernel
theorem dX12_judge_41 : decode cX12_judge 41 = .ok (.iaload, 1) := by decide +kernel
theorem dX12_judge_42 : decode cX12_judge 42 = .ok (.ifCond .lt 15, 3) := by decide +kernel
theorem dX12_judge_45 : decode cX12_judge 45 = .ok (.aload_n 0, 1) := by decide +kernel
theorem dX12_judge_46 : decode cX12_judge 46 = .ok (.getfield 74, 3) := by decide +kernel
theorem dX12_judge_49 : decode cX12_judge 49 = .ok (.iload_n 1, 1) := by decide +kernel
theorem dX12_judge_50 : decode cX12_judge 50 = .ok (.bipush 10, 2) := by decide +kernel
theorem dX12_judge_52 : decode cX12_judge 52 = .ok (.irem, 1) := by decide +kernel
theorem dX12_judge_53 : decode cX12_judge 53 = .ok (.iaload, 1) := by decide +kernel
theorem dX12_judge_54 : decode cX12_judge 54 = .ok (.ifCond .ge 6, 3) := by decide +kernel
theorem dX12_judge_57 : decode cX12_judge 57 = .ok (.bipush (-11), 2) := by decide +kernel
theorem dX12_judge_59 : decode cX12_judge 59 = .ok (.ireturn, 1) := by decide +kernel
theorem dX12_judge_60 : decode cX12_judge 60 = .ok (.aload_n 0, 1) := by decide +kernel
theorem dX12_judge_61 : decode cX12_judge 61 = .ok (.iload_n 1, 1) := by decide +kernel
theorem dX12_judge_62 : decode cX12_judge 62 = .ok (.bipush 10, 2) := by decide +kernel
theorem dX12_judge_64 : decode cX12_judge 64 = .ok (.idiv, 1) := by decide +kernel
theorem dX12_judge_65 : decode cX12_judge 65 = .ok (.invokevirtual 224, 3) := by decide +kernel
theorem dX12_judge_68 : decode cX12_judge 68 = .ok (.iconst 1, 1) := by decide +kernel
theorem dX12_judge_69 : decode cX12_judge 69 = .ok (.if_icmp .ne 15, 3) := by decide +kernel
theorem dX12_judge_72 : decode cX12_judge 72 = .ok (.aload_n 0, 1) := by decide +kernel
theorem dX12_judge_73 : decode cX12_judge 73 = .ok (.iload_n 1, 1) := by decide +kernel
theorem dX12_judge_74 : decode cX12_judge 74 = .ok (.bipush 10, 2) := by decide +kernel
theorem dX12_judge_76 : decode cX12_judge 76 = .ok (.irem, 1) := by decide +kernel
theorem dX12_judge_77 : decode cX12_judge 77 = .ok (.invokevirtual 224, 3) := by decide +kernel
theorem dX12_judge_80 : decode cX12_judge 80 = .ok (.iconst 1, 1) := by decide +kernel
theorem dX12_judge_81 : decode cX12_judge 81 = .ok (.if_icmp .eq 6, 3) := by decide +kernel
theorem dX12_judge_84 : decode cX12_judge 84 = .ok (.bipush (-12), 2) := by decide +kernel
theorem dX12_judge_86 : decode cX12_judge 86 = .ok (.ireturn, 1) := by decide +kernel
theorem dX12_judge_87 : decode cX12_judge 87 = .ok (.aload_n 0, 1) := by decide +kernel
theorem dX12_judge_88 : decode cX12_judge 88 = .ok (.iload_n 1, 1) := by decide +kernel
theorem dX12_judge_89 : decode cX12_judge 89 = .ok (.bipush 10, 2) := by decide +kernel
theorem dX12_judge_91 : decode cX12_judge 91 = .ok (.idiv, 1) := by decide +kernel
theorem dX12_judge_92 : decode cX12_judge 92 = .ok (.invokevirtual 302, 3) := by decide +kernel
theorem dX12_judge_95 : decode cX12_judge 95 = .ok (.pop, 1) := by decide +kernel
theorem dX12_judge_96 : decode cX12_judge 96 = .ok (.iconst 0, 1) := by decide +kernel
theorem dX12_judge_97 : decode cX12_judge 97 = .ok (.istore_n 3, 1) := by decide +kernel
theorem dX12_judge_98 : decode cX12_judge 98 = .ok (.iload_n 3, 1) := by decide +kernel
theorem dX12_judge_99 : decode cX12_judge 99 = .ok (.aload_n 0, 1) := by decide +kernel
theorem dX12_judge_100 : decode cX12_judge 100 = .ok (.iload_n 1, 1) := by decide +kernel
theorem dX12_judge_101 : decode cX12_judge 101 = .ok (.bipush 10, 2) := by decide +kernel
theorem dX12_judge_103 : decode cX12_judge 103 = .ok (.idiv, 1) := by decide +kernel
theorem dX12_judge_104 : decode cX12_judge 104 = .ok (.invokevirtual 218, 3) := by decide +kernel
theorem dX12_judge_107 : decode cX12_judge 107 = .ok (.if_icmp .ge 48, 3) := by decide +kernel
theorem dX12_judge_110 : decode cX12_judge 110 = .ok (.iload_n 3, 1) := by decide +kernel
theorem dX12_judge_111 : decode cX12_judge 111 = .ok (.aload_n 0, 1) := by decide +kernel
theorem dX12_judge_112 : decode cX12_judge 112 = .ok (.getfield 77, 3) := by decide +kernel
theorem dX12_judge_115 : decode cX12_judge 115 = .ok (.iload_n 1, 1) := by decide +kernel
theorem dX12_judge_116 : decode cX12_judge 116 = .ok (.bipush 10, 2) := by decide +kernel
theorem dX12_judge_118 : decode cX12_judge 118 = .ok (.irem, 1) := by decide +kernel
theorem dX12_judge_119 : decode cX12_judge 119 = .ok (.iaload, 1) := by decide +kernel
theorem dX12_judge_120 : decode cX12_judge 120 = .ok (.if_icmp .ge 35, 3) := by decide +kernel
theorem dX12_judge_123 : decode cX12_judge 123 = .ok (.aload_n 0, 1) := by decide +kernel
theorem dX12_judge_124 : decode cX12_judge 124 = .ok (.iload_n 1, 1) := by decide +kernel
theorem dX12_judge_125 : decode cX12_judge 125 = .ok (.bipush 10, 2) := by decide +kernel
theorem dX12_judge_127 : decode cX12_judge 127 = .ok (.irem, 1) := by decide +kernel
theorem dX12_judge_128 : decode cX12_judge 128 = .ok (.iload_n 3, 1) := by decide +kernel
theorem dX12_judge_129 : decode cX12_judge 129 = .ok (.aload_n 0, 1) := by decide +kernel
theorem dX12_judge_130 : decode cX12_judge 130 = .ok (.getfield 47, 3) := by decide +kernel
theorem dX12_judge_133 : decode cX12_judge 133 = .ok (.iconst 3, 1) := by decide +kernel
theorem dX12_judge_134 : decode cX12_judge 134 = .ok (.iload_n 3, 1) := by decide +kernel
theorem dX12_judge_135 : decode cX12_judge 135 = .ok (.iconst 1, 1) := by decide +kernel
theorem dX12_judge_136 : decode cX12_judge 136 = .ok (.iadd, 1) := by decide +kernel
theorem dX12_judge_137 : decode cX12_judge 137 = .ok (.imul, 1) := by decide +kernel
theorem dX12_judge_138 : decode cX12_judge 138 = .ok (.iload_n 2, 1) := by decide +kernel
theorem dX12_judge_139 : decode cX12_judge 139 = .ok (.iadd, 1) := by decide +kernel
theorem dX12_judge_140 : decode cX12_judge 140 = .ok (.iaload, 1) := by decide +kernel
theorem dX12_judge_141 : decode cX12_judge 141 = .ok (.invokevirtual 331, 3) := by decide +kernel
theorem dX12_judge_144 : decode cX12_judge 144 = .ok (.ifCond .ne 5, 3) := by decide +kernel
theorem dX12_judge_147 : decode cX12_judge 147 = .ok (.iload_n 3, 1) := by decide +kernel
theorem dX12_judge_148 : decode cX12_judge 148 = .ok (.ireturn, 1) := by decide +kernel
theorem dX12_judge_149 : decode cX12_judge 149 = .ok (.iinc 3 1, 3) := by decide +kernel
theorem dX12_judge_152 : decode cX12_judge 152 = .ok (.goto (-54), 3) := by decide +kernel
theorem dX12_judge_155 : decode cX12_judge 155 = .ok (.bipush (-2), 2) := by decide +kernel
theorem dX12_judge_157 : decode cX12_judge 157 = .ok (.ireturn, 1) := by decide +kernel
theorem dX12_drawn_0 : decode cX12_drawn 0 = .ok (.aload_n 0, 1) := by decide +kernel
theorem dX12_drawn_1 : decode cX12_drawn 1 = .ok (.iload_n 1, 1) := by decide +kernel
theorem dX12_drawn_2 : decode cX12_drawn 2 = .ok (.invokevirtual 224, 3) := by decide +kernel
theorem dX12_drawn_5 : decode cX12_drawn 5 = .ok (.iconst (-1), 1) := by decide +kernel
theorem dX12_drawn_6 : decode cX12_drawn 6 = .ok (.if_icmp .eq 26, 3) := by decide +kernel
theorem dX12_drawn_9 : decode cX12_drawn 9 = .ok (.iload_n 3, 1) := by decide +kernel
theorem dX12_drawn_10 : decode cX12_drawn 10 = .ok (.i2l, 1) := by decide +kernel
theorem dX12_drawn_11 : decode cX12_drawn 11 = .ok (.lconst 1, 1) := by decide +kernel
theorem dX12_drawn_12 : decode cX12_drawn 12 = .ok (.ldc2_w 334, 3) := by decide +kernel
theorem dX12_drawn_15 : decode cX12_drawn 15 = .ok (.invokestatic 109, 3) := by decide +kernel
theorem dX12_drawn_18 : decode cX12_drawn 18 = .ok (.ifCond .eq 14, 3) := by decide +kernel
theorem dX12_drawn_21 : decode cX12_drawn 21 = .ok (.iload 4, 2) := by decide +kernel
theorem dX12_drawn_23 : decode cX12_drawn 23 = .ok (.i2l, 1) := by decide +kernel
theorem dX12_drawn_24 : decode cX12_drawn 24 = .ok (.lconst 0, 1) := by decide +kernel
theorem dX12_drawn_25 : decode cX12_drawn 25 = .ok (.lconst 1, 1) := by decide +kernel
theorem dX12_drawn_26 : decode cX12_drawn 26 = .ok (.invokestatic 109, 3) := by decide +kernel
theorem dX12_drawn_29 : decode cX12_drawn 29 = .ok (.ifCond .ne 5, 3) := by decide +kernel
theorem dX12_drawn_32 : decode cX12_drawn 32 = .ok (.iconst (-1), 1) := by decide +kernel
theorem dX12_drawn_33 : decode cX12_drawn 33 = .ok (.ireturn, 1) := by decide +kernel
theorem dX12_drawn_34 : decode cX12_drawn 34 = .ok (.aload_n 0, 1) := by decide +kernel
theorem dX12_drawn_35 : decode cX12_drawn 35 = .ok (.iload_n 1, 1) := by decide +kernel
theorem dX12_drawn_36 : decode cX12_drawn 36 = .ok (.invokevirtual 224, 3) := by decide +kernel
theorem dX12_drawn_39 : decode cX12_drawn 39 = .ok (.ifCond .ge 9, 3) := by decide +kernel
theorem dX12_drawn_42 : decode cX12_drawn 42 = .ok (.aload_n 0, 1) := by decide +kernel
theorem dX12_drawn_43 : decode cX12_drawn 43 = .ok (.iload_n 1, 1) := by decide +kernel
theorem dX12_drawn_44 : decode cX12_drawn 44 = .ok (.invokevirtual 224, 3) := by decide +kernel
theorem dX12_drawn_47 : decode cX12_drawn 47 = .ok (.ireturn, 1) := by decide +kernel
theorem dX12_drawn_48 : decode cX12_drawn 48 = .ok (.iload_n 2, 1) := by decide +kernel
theorem dX12_drawn_49 : decode cX12_drawn 49 = .ok (.istore 5, 2) := by decide +kernel
theorem dX12_drawn_51 : decode cX12_drawn 51 = .ok (.iconst 0, 1) := by decide +kernel
theorem dX12_drawn_52 : decode cX12_drawn 52 = .ok (.istore 6, 2) := by decide +kernel
theorem dX12_drawn_54 : decode cX12_drawn 54 = .ok (.iconst 0, 1) := by decide +kernel
theorem dX12_drawn_55 : decode cX12_drawn 55 = .ok (.istore 7, 2) := by decide +kernel
theorem dX12_drawn_57 : decode cX12_drawn 57 = .ok (.iconst 0, 1) := by decide +kernel
theorem dX12_drawn_58 : decode cX12_drawn 58 = .ok (.istore 8, 2) := by decide +kernel
theorem dX12_drawn_60 : decode cX12_drawn 60 = .ok (.iload 8, 2) := by decide +kernel
theorem dX12_drawn_62 : decode cX12_drawn 62 = .ok (.iload_n 3, 1) := by decide +kernel
theorem dX12_drawn_63 : decode cX12_drawn 63 = .ok (.if_icmp .ge 139, 3) := by decide +kernel
theorem dX12_drawn_66 : decode cX12_drawn 66 = .ok (.iconst 0, 1) := by decide +kernel
theorem dX12_drawn_67 : decode cX12_drawn 67 = .ok (.istore 9, 2) := by decide +kernel
theorem dX12_drawn_69 : decode cX12_drawn 69 = .ok (.iload 9, 2) := by decide +kernel
theorem dX12_drawn_71 : decode cX12_drawn 71 = .ok (.aload_n 0, 1) := by decide +kernel
theorem dX12_drawn_72 : decode cX12_drawn 72 = .ok (.iload_n 1, 1) := by decide +kernel
theorem dX12_drawn_73 : decode cX12_drawn 73 = .ok (.invokevirtual 218, 3) := by decide +kernel
theorem dX12_drawn_76 : decode cX12_drawn 76 = .ok (.if_icmp .ge 86, 3) := by decide +kernel
theorem dX12_drawn_79 : decode cX12_drawn 79 = .ok (.aload_n 0, 1) := by decide +kernel
theorem dX12_drawn_80 : decode cX12_drawn 80 = .ok (.iload_n 1, 1) := by decide +kernel
theorem dX12_drawn_81 : decode cX12_drawn 81 = .ok (.iload 9, 2) := by decide +kernel
theorem dX12_drawn_83 : decode cX12_drawn 83 = .ok (.invokevirtual 221, 3) := by decide +kernel
theorem dX12_drawn_86 : decode cX12_drawn 86 = .ok (.istore 10, 2) := by decide +kernel
theorem dX12_drawn_88 : decode cX12_drawn 88 = .ok (.iload 10, 2) := by decide +kernel
theorem dX12_drawn_90 : decode cX12_drawn 90 = .ok (.ifCond .lt 66, 3) := by decide +kernel
theorem dX12_drawn_93 : decode cX12_drawn 93 = .ok (.iload 5, 2) := by decide +kernel
theorem dX12_drawn_95 : decode cX12_drawn 95 = .ok (.ldc_w 336, 3) := by decide +kernel
theorem dX12_drawn_98 : decode cX12_drawn 98 = .ok (.imul, 1) := by decide +kernel
theorem dX12_drawn_99 : decode cX12_drawn 99 = .ok (.sipush 12345, 3) := by decide +kernel
theorem dX12_drawn_102 : decode cX12_drawn 102 = .ok (.iadd, 1) := by decide +kernel
theorem dX12_drawn_103 : decode cX12_drawn 103 = .ok (.istore 5, 2) := by decide +kernel
theorem dX12_drawn_105 : decode cX12_drawn 105 = .ok (.aload_n 0, 1) := by decide +kernel
theorem dX12_drawn_106 : decode cX12_drawn 106 = .ok (.getfield 40, 3) := by decide +kernel
theorem dX12_drawn_109 : decode cX12_drawn 109 = .ok (.iload 9, 2) := by decide +kernel
theorem dX12_drawn_111 : decode cX12_drawn 111 = .ok (.iload 5, 2) := by decide +kernel
theorem dX12_drawn_113 : decode cX12_drawn 113 = .ok (.bipush 8, 2) := by decide +kernel
theorem dX12_drawn_115 : decode cX12_drawn 115 = .ok (.iushr, 1) := by decide +kernel
theorem dX12_drawn_116 : decode cX12_drawn 116 = .ok (.bipush 12, 2) := by decide +kernel
theorem dX12_drawn_118 : decode cX12_drawn 118 = .ok (.irem, 1) := by decide +kernel
theorem dX12_drawn_119 : decode cX12_drawn 119 = .ok (.aload_n 0, 1) := by decide +kernel
theorem dX12_drawn_120 : decode cX12_drawn 120 = .ok (.iload 10, 2) := by decide +kernel
theorem dX12_drawn_122 : decode cX12_drawn 122 = .ok (.bipush 7, 2) := by decide +kernel
theorem dX12_drawn_124 : decode cX12_drawn 124 = .ok (.invokevirtual 208, 3) := by decide +kernel
theorem dX12_drawn_127 : decode cX12_drawn 127 = .ok (.if_icmp .ge 7, 3) := by decide +kernel
theorem dX12_drawn_130 : decode cX12_drawn 130 = .ok (.iconst 1, 1) := by decide +kernel
theorem dX12_drawn_131 : decode cX12_drawn 131 = .ok (.goto 4, 3) := by decide +kernel
theorem dX12_drawn_134 : decode cX12_drawn 134 = .ok (.iconst 0, 1) := by decide +kernel
theorem dX12_drawn_135 : decode cX12_drawn 135 = .ok (.bastore, 1) := by decide +kernel
theorem dX12_drawn_136 : decode cX12_drawn 136 = .ok (.iload 7, 2) := by decide +kernel
theorem dX12_drawn_138 : decode cX12_drawn 138 = .ok (.aload_n 0, 1) := by decide +kernel
theorem dX12_drawn_139 : decode cX12_drawn 139 = .ok (.getfield 40, 3) := by decide +kernel
theorem dX12_drawn_142 : decode cX12_drawn 142 = .ok (.iload 9, 2) := by decide +kernel
theorem dX12_drawn_144 : decode cX12_drawn 144 = .ok (.baload, 1) := by decide +kernel
theorem dX12_drawn_145 : decode cX12_drawn 145 = .ok (.ifCond .eq 7, 3) := by decide +kernel
theorem dX12_drawn_148 : decode cX12_drawn 148 = .ok (.iconst 1, 1) := by decide +kernel
theorem dX12_drawn_149 : decode cX12_drawn 149 = .ok (.goto 4, 3) := by decide +kernel
theorem dX12_drawn_152 : decode cX12_drawn 152 = .ok (.iconst 0, 1) := by decide +kernel
theorem dX12_drawn_153 : decode cX12_drawn 153 = .ok (.iadd, 1) := by decide +kernel
theorem dX12_drawn_154 : decode cX12_drawn 154 = .ok (.istore 7, 2) := by decide +kernel
theorem dX12_drawn_156 : decode cX12_drawn 156 = .ok (.iinc 9 1, 3) := by decide +kernel
theorem dX12_drawn_159 : decode cX12_drawn 159 = .ok (.goto (-90), 3) := by decide +kernel
theorem dX12_drawn_162 : decode cX12_drawn 162 = .ok (.iload 6, 2) := by decide +kernel
theorem dX12_drawn_164 : decode cX12_drawn 164 = .ok (.aload_n 0, 1) := by decide +kernel
theorem dX12_drawn_165 : decode cX12_drawn 165 = .ok (.iload_n 1, 1) := by decide +kernel
theorem dX12_drawn_166 : decode cX12_drawn 166 = .ok (.invokevirtual 302, 3) := by decide +kernel
theorem dX12_drawn_169 : decode cX12_drawn 169 = .ok (.iadd, 1) := by decide +kernel
theorem dX12_drawn_170 : decode cX12_drawn 170 = .ok (.istore 6, 2) := by decide +kernel
theorem dX12_drawn_172 : decode cX12_drawn 172 = .ok (.iconst 0, 1) := by decide +kernel
theorem dX12_drawn_173 : decode cX12_drawn 173 = .ok (.istore 9, 2) := by decide +kernel
theorem dX12_drawn_175 : decode cX12_drawn 175 = .ok (.iload 9, 2) := by decide +kernel
theorem dX12_drawn_177 : decode cX12_drawn 177 = .ok (.bipush 21, 2) := by decide +kernel
theorem dX12_drawn_179 : decode cX12_drawn 179 = .ok (.if_icmp .ge 17, 3) := by decide +kernel
theorem dX12_drawn_182 : decode cX12_drawn 182 = .ok (.aload_n 0, 1) := by decide +kernel
theorem dX12_drawn_183 : decode cX12_drawn 183 = .ok (.getfield 40, 3) := by decide +kernel
theorem dX12_drawn_186 : decode cX12_drawn 186 = .ok (.iload 9, 2) := by decide +kernel
theorem dX12_drawn_188 : decode cX12_drawn 188 = .ok (.iconst 0, 1) := by decide +kernel
theorem dX12_drawn_189 : decode cX12_drawn 189 = .ok (.bastore, 1) := by decide +kernel
theorem dX12_drawn_190 : decode cX12_drawn 190 = .ok (.iinc 9 1, 3) := by decide +kernel
theorem dX12_drawn_193 : decode cX12_drawn 193 = .ok (.goto (-18), 3) := by decide +kernel
theorem dX12_drawn_196 : decode cX12_drawn 196 = .ok (.iinc 8 1, 3) := by decide +kernel
theorem dX12_drawn_199 : decode cX12_drawn 199 = .ok (.goto (-139), 3) := by decide +kernel
theorem dX12_drawn_202 : decode cX12_drawn 202 = .ok (.iload 4, 2) := by decide +kernel
theorem dX12_drawn_204 : decode cX12_drawn 204 = .ok (.ifCond .ne 8, 3) := by decide +kernel
theorem dX12_drawn_207 : decode cX12_drawn 207 = .ok (.iload 6, 2) := by decide +kernel
theorem dX12_drawn_209 : decode cX12_drawn 209 = .ok (.goto 5, 3) := by decide +kernel
theorem dX12_drawn_212 : decode cX12_drawn 212 = .ok (.iload 7, 2) := by decide +kernel
theorem dX12_drawn_214 : decode cX12_drawn 214 = .ok (.ireturn, 1) := by decide +kernel
theorem dX12_sit_0 : decode cX12_sit 0 = .ok (.aload_n 0, 1) := by decide +kernel
theorem dX12_sit_1 : decode cX12_sit 1 = .ok (.iload_n 1, 1) := by decide +kernel
theorem dX12_sit_2 : decode cX12_sit 2 = .ok (.i2l, 1) := by decide +kernel
theorem dX12_sit_3 : decode cX12_sit 3 = .ok (.invokevirtual 135, 3) := by decide +kernel
theorem dX12_sit_6 : decode cX12_sit 6 = .ok (.ifCond .ne 5, 3) := by decide +kernel
theorem dX12_sit_9 : decode cX12_sit 9 = .ok (.iconst (-1), 1) := by decide +kernel
theorem dX12_sit_10 : decode cX12_sit 10 = .ok (.ireturn, 1) := by decide +kernel
theorem dX12_sit_11 : decode cX12_sit 11 = .ok (.aload_n 0, 1) := by decide +kernel
theorem dX12_sit_12 : decode cX12_sit 12 = .ok (.invokevirtual 295, 3) := by decide +kernel
theorem dX12_sit_15 : decode cX12_sit 15 = .ok (.aload_n 0, 1) := by decide +kernel
theorem dX12_sit_16 : decode cX12_sit 16 = .ok (.iload_n 1, 1) := by decide +kernel
theorem dX12_sit_17 : decode cX12_sit 17 = .ok (.invokevirtual 298, 3) := by decide +kernel
theorem dX12_sit_20 : decode cX12_sit 20 = .ok (.iconst 0, 1) := by decide +kernel
theorem dX12_sit_21 : decode cX12_sit 21 = .ok (.istore_n 2, 1) := by decide +kernel
theorem dX12_sit_22 : decode cX12_sit 22 = .ok (.iload_n 2, 1) := by decide +kernel
theorem dX12_sit_23 : decode cX12_sit 23 = .ok (.iconst 3, 1) := by decide +kernel
theorem dX12_sit_24 : decode cX12_sit 24 = .ok (.if_icmp .ge 21, 3) := by decide +kernel
theorem dX12_sit_27 : decode cX12_sit 27 = .ok (.aload_n 0, 1) := by decide +kernel
theorem dX12_sit_28 : decode cX12_sit 28 = .ok (.getfield 22, 3) := by decide +kernel
theorem dX12_sit_31 : decode cX12_sit 31 = .ok (.iload_n 2, 1) := by decide +kernel
theorem dX12_sit_32 : decode cX12_sit 32 = .ok (.aload_n 0, 1) := by decide +kernel
theorem dX12_sit_33 : decode cX12_sit 33 = .ok (.getfield 44, 3) := by decide +kernel
theorem dX12_sit_36 : decode cX12_sit 36 = .ok (.iload_n 2, 1) := by decide +kernel
theorem dX12_sit_37 : decode cX12_sit 37 = .ok (.iaload, 1) := by decide +kernel
theorem dX12_sit_38 : decode cX12_sit 38 = .ok (.iastore, 1) := by decide +kernel
theorem dX12_sit_39 : decode cX12_sit 39 = .ok (.iinc 2 1, 3) := by decide +kernel
theorem dX12_sit_42 : decode cX12_sit 42 = .ok (.goto (-20), 3) := by decide +kernel
theorem dX12_sit_45 : decode cX12_sit 45 = .ok (.aload_n 0, 1) := by decide +kernel
theorem dX12_sit_46 : decode cX12_sit 46 = .ok (.getfield 272, 3) := by decide +kernel
theorem dX12_sit_49 : decode cX12_sit 49 = .ok (.aload_n 0, 1) := by decide +kernel
theorem dX12_sit_50 : decode cX12_sit 50 = .ok (.getfield 289, 3) := by decide +kernel
theorem dX12_sit_53 : decode cX12_sit 53 = .ok (.iadd, 1) := by decide +kernel
theorem dX12_sit_54 : decode cX12_sit 54 = .ok (.istore_n 2, 1) := by decide +kernel
theorem dX12_sit_55 : decode cX12_sit 55 = .ok (.aload_n 0, 1) := by decide +kernel
theorem dX12_sit_56 : decode cX12_sit 56 = .ok (.dup, 1) := by decide +kernel
theorem dX12_sit_57 : decode cX12_sit 57 = .ok (.getfield 337, 3) := by decide +kernel
theorem dX12_sit_60 : decode cX12_sit 60 = .ok (.iconst 1, 1) := by decide +kernel
theorem dX12_sit_61 : decode cX12_sit 61 = .ok (.iadd, 1) := by decide +kernel
theorem dX12_sit_62 : decode cX12_sit 62 = .ok (.putfield 337, 3) := by decide +kernel
theorem dX12_sit_65 : decode cX12_sit 65 = .ok (.aload_n 0, 1) := by decide +kernel
theorem dX12_sit_66 : decode cX12_sit 66 = .ok (.dup, 1) := by decide +kernel
theorem dX12_sit_67 : decode cX12_sit 67 = .ok (.getfield 340, 3) := by decide +kernel
theorem dX12_sit_70 : decode cX12_sit 70 = .ok (.aload_n 0, 1) := by decide +kernel
theorem dX12_sit_71 : decode cX12_sit 71 = .ok (.getfield 269, 3) := by decide +kernel
theorem dX12_sit_74 : decode cX12_sit 74 = .ok (.iadd, 1) := by decide +kernel
theorem dX12_sit_75 : decode cX12_sit 75 = .ok (.putfield 340, 3) := by decide +kernel
theorem dX12_sit_78 : decode cX12_sit 78 = .ok (.aload_n 0, 1) := by decide +kernel
theorem dX12_sit_79 : decode cX12_sit 79 = .ok (.dup, 1) := by decide +kernel
theorem dX12_sit_80 : decode cX12_sit 80 = .ok (.getfield 343, 3) := by decide +kernel
theorem dX12_sit_83 : decode cX12_sit 83 = .ok (.aload_n 0, 1) := by decide +kernel
theorem dX12_sit_84 : decode cX12_sit 84 = .ok (.getfield 289, 3) := by decide +kernel
theorem dX12_sit_87 : decode cX12_sit 87 = .ok (.iadd, 1) := by decide +kernel
theorem dX12_sit_88 : decode cX12_sit 88 = .ok (.putfield 343, 3) := by decide +kernel
theorem dX12_sit_91 : decode cX12_sit 91 = .ok (.aload_n 0, 1) := by decide +kernel
theorem dX12_sit_92 : decode cX12_sit 92 = .ok (.iload_n 2, 1) := by decide +kernel
theorem dX12_sit_93 : decode cX12_sit 93 = .ok (.aload_n 0, 1) := by decide +kernel
theorem dX12_sit_94 : decode cX12_sit 94 = .ok (.getfield 346, 3) := by decide +kernel
theorem dX12_sit_97 : decode cX12_sit 97 = .ok (.if_icmp .le 7, 3) := by decide +kernel
theorem dX12_sit_100 : decode cX12_sit 100 = .ok (.iload_n 1, 1) := by decide +kernel
theorem dX12_sit_101 : decode cX12_sit 101 = .ok (.goto 7, 3) := by decide +kernel
theorem dX12_sit_104 : decode cX12_sit 104 = .ok (.aload_n 0, 1) := by decide +kernel
theorem dX12_sit_105 : decode cX12_sit 105 = .ok (.getfield 91, 3) := by decide +kernel
theorem dX12_sit_108 : decode cX12_sit 108 = .ok (.putfield 91, 3) := by decide +kernel
theorem dX12_sit_111 : decode cX12_sit 111 = .ok (.aload_n 0, 1) := by decide +kernel
theorem dX12_sit_112 : decode cX12_sit 112 = .ok (.iload_n 2, 1) := by decide +kernel
theorem dX12_sit_113 : decode cX12_sit 113 = .ok (.aload_n 0, 1) := by decide +kernel
theorem dX12_sit_114 : decode cX12_sit 114 = .ok (.getfield 346, 3) := by decide +kernel
theorem dX12_sit_117 : decode cX12_sit 117 = .ok (.if_icmp .le 7, 3) := by decide +kernel
theorem dX12_sit_120 : decode cX12_sit 120 = .ok (.iload_n 2, 1) := by decide +kernel
theorem dX12_sit_121 : decode cX12_sit 121 = .ok (.goto 7, 3) := by decide +kernel
theorem dX12_sit_124 : decode cX12_sit 124 = .ok (.aload_n 0, 1) := by decide +kernel
theorem dX12_sit_125 : decode cX12_sit 125 = .ok (.getfield 346, 3) := by decide +kernel
theorem dX12_sit_128 : decode cX12_sit 128 = .ok (.putfield 346, 3) := by decide +kernel
theorem dX12_sit_131 : decode cX12_sit 131 = .ok (.iload_n 2, 1) := by decide +kernel
theorem dX12_sit_132 : decode cX12_sit 132 = .ok (.ireturn, 1) := by decide +kernel
theorem dX12_set_0 : decode cX12_set 0 = .ok (.iload_n 1, 1) := by decide +kernel
theorem dX12_set_1 : decode cX12_set 1 = .ok (.invokestatic 140, 3) := by decide +kernel
theorem dX12_set_4 : decode cX12_set 4 = .ok (.ifCond .eq 11, 3) := by decide +kernel
theorem dX12_set_7 : decode cX12_set 7 = .ok (.iload_n 2, 1) := by decide +kernel
theorem dX12_set_8 : decode cX12_set 8 = .ok (.i2l, 1) := by decide +kernel
theorem dX12_set_9 : decode cX12_set 9 = .ok (.invokestatic 117, 3) := by decide +kernel
theorem dX12_set_12 : decode cX12_set 12 = .ok (.ifCond .ne 5, 3) := by decide +kernel
theorem dX12_set_15 : decode cX12_set 15 = .ok (.iconst (-1), 1) := by decide +kernel
theorem dX12_set_16 : decode cX12_set 16 = .ok (.ireturn, 1) := by decide +kernel
theorem dX12_set_17 : decode cX12_set 17 = .ok (.iload_n 2, 1) := by decide +kernel
theorem dX12_set_18 : decode cX12_set 18 = .ok (.aload_n 0, 1) := by decide +kernel
theorem dX12_set_19 : decode cX12_set 19 = .ok (.getfield 22, 3) := by decide +kernel
theorem dX12_set_22 : decode cX12_set 22 = .ok (.iload_n 1, 1) := by decide +kernel
theorem dX12_set_23 : decode cX12_set 23 = .ok (.iaload, 1) := by decide +kernel
theorem dX12_set_24 : decode cX12_set 24 = .ok (.isub, 1) := by decide +kernel
theorem dX12_set_25 : decode cX12_set 25 = .ok (.invokestatic 211, 3) := by decide +kernel
theorem dX12_set_28 : decode cX12_set 28 = .ok (.istore_n 3, 1) := by decide +kernel
theorem dX12_set_29 : decode cX12_set 29 = .ok (.aload_n 0, 1) := by decide +kernel
theorem dX12_set_30 : decode cX12_set 30 = .ok (.getfield 22, 3) := by decide +kernel
theorem dX12_set_33 : decode cX12_set 33 = .ok (.iload_n 1, 1) := by decide +kernel
theorem dX12_set_34 : decode cX12_set 34 = .ok (.iload_n 2, 1) := by decide +kernel
theorem dX12_set_35 : decode cX12_set 35 = .ok (.iastore, 1) := by decide +kernel
theorem dX12_set_36 : decode cX12_set 36 = .ok (.aload_n 0, 1) := by decide +kernel
theorem dX12_set_37 : decode cX12_set 37 = .ok (.dup, 1) := by decide +kernel
theorem dX12_set_38 : decode cX12_set 38 = .ok (.getfield 340, 3) := by decide +kernel
theorem dX12_set_41 : decode cX12_set 41 = .ok (.iload_n 3, 1) := by decide +kernel
theorem dX12_set_42 : decode cX12_set 42 = .ok (.iadd, 1) := by decide +kernel
theorem dX12_set_43 : decode cX12_set 43 = .ok (.putfield 340, 3) := by decide +kernel
theorem dX12_set_46 : decode cX12_set 46 = .ok (.iload_n 3, 1) := by decide +kernel
theorem dX12_set_47 : decode cX12_set 47 = .ok (.ireturn, 1) := by decide +kernel
theorem dX12_night_0 : decode cX12_night 0 = .ok (.iconst 0, 1) := by decide +kernel
theorem dX12_night_1 : decode cX12_night 1 = .ok (.istore_n 1, 1) := by decide +kernel
theorem dX12_night_2 : decode cX12_night 2 = .ok (.iconst 0, 1) := by decide +kernel
theorem dX12_night_3 : decode cX12_night 3 = .ok (.istore_n 2, 1) := by decide +kernel
theorem dX12_night_4 : decode cX12_night 4 = .ok (.iload_n 2, 1) := by decide +kernel
theorem dX12_night_5 : decode cX12_night 5 = .ok (.iconst 3, 1) := by decide +kernel
theorem dX12_night_6 : decode cX12_night 6 = .ok (.if_icmp .ge 46, 3) := by decide +kernel
theorem dX12_night_9 : decode cX12_night 9 = .ok (.aload_n 0, 1) := by decide +kernel
theorem dX12_night_10 : decode cX12_night 10 = .ok (.iload_n 2, 1) := by decide +kernel
theorem dX12_night_11 : decode cX12_night 11 = .ok (.aload_n 0, 1) := by decide +kernel
theorem dX12_night_12 : decode cX12_night 12 = .ok (.getfield 22, 3) := by decide +kernel
theorem dX12_night_15 : decode cX12_night 15 = .ok (.iload_n 2, 1) := by decide +kernel
theorem dX12_night_16 : decode cX12_night 16 = .ok (.iaload, 1) := by decide +kernel
theorem dX12_night_17 : decode cX12_night 17 = .ok (.invokevirtual 248, 3) := by decide +kernel
theorem dX12_night_20 : decode cX12_night 20 = .ok (.istore_n 3, 1) := by decide +kernel
theorem dX12_night_21 : decode cX12_night 21 = .ok (.iload_n 1, 1) := by decide +kernel
theorem dX12_night_22 : decode cX12_night 22 = .ok (.iload_n 3, 1) := by decide +kernel
theorem dX12_night_23 : decode cX12_night 23 = .ok (.aload_n 0, 1) := by decide +kernel
theorem dX12_night_24 : decode cX12_night 24 = .ok (.getfield 22, 3) := by decide +kernel
theorem dX12_night_27 : decode cX12_night 27 = .ok (.iload_n 2, 1) := by decide +kernel
theorem dX12_night_28 : decode cX12_night 28 = .ok (.iaload, 1) := by decide +kernel
theorem dX12_night_29 : decode cX12_night 29 = .ok (.if_icmp .ge 7, 3) := by decide +kernel
theorem dX12_night_32 : decode cX12_night 32 = .ok (.iconst 1, 1) := by decide +kernel
theorem dX12_night_33 : decode cX12_night 33 = .ok (.goto 4, 3) := by decide +kernel
theorem dX12_night_36 : decode cX12_night 36 = .ok (.iconst 0, 1) := by decide +kernel
theorem dX12_night_37 : decode cX12_night 37 = .ok (.iadd, 1) := by decide +kernel
theorem dX12_night_38 : decode cX12_night 38 = .ok (.istore_n 1, 1) := by decide +kernel
theorem dX12_night_39 : decode cX12_night 39 = .ok (.aload_n 0, 1) := by decide +kernel
theorem dX12_night_40 : decode cX12_night 40 = .ok (.getfield 22, 3) := by decide +kernel
theorem dX12_night_43 : decode cX12_night 43 = .ok (.iload_n 2, 1) := by decide +kernel
theorem dX12_night_44 : decode cX12_night 44 = .ok (.iload_n 3, 1) := by decide +kernel
theorem dX12_night_45 : decode cX12_night 45 = .ok (.iastore, 1) := by decide +kernel
theorem dX12_night_46 : decode cX12_night 46 = .ok (.iinc 2 1, 3) := by decide +kernel
theorem dX12_night_49 : decode cX12_night 49 = .ok (.goto (-45), 3) := by decide +kernel
theorem dX12_night_52 : decode cX12_night 52 = .ok (.iload_n 1, 1) := by decide +kernel
theorem dX12_night_53 : decode cX12_night 53 = .ok (.ireturn, 1) := by decide +kernel
theorem dX12_led_0 : decode cX12_led 0 = .ok (.iload_n 1, 1) := by decide +kernel
theorem dX12_led_1 : decode cX12_led 1 = .ok (.tableswitch 60 0 4 #[35, 40, 45, 50, 55], 35) := by decide +kernel
theorem dX12_led_36 : decode cX12_led 36 = .ok (.aload_n 0, 1) := by decide +kernel
theorem dX12_led_37 : decode cX12_led 37 = .ok (.getfield 337, 3) := by decide +kernel
theorem dX12_led_40 : decode cX12_led 40 = .ok (.ireturn, 1) := by decide +kernel
theorem dX12_led_41 : decode cX12_led 41 = .ok (.aload_n 0, 1) := by decide +kernel
theorem dX12_led_42 : decode cX12_led 42 = .ok (.getfield 340, 3) := by decide +kernel
theorem dX12_led_45 : decode cX12_led 45 = .ok (.ireturn, 1) := by decide +kernel
theorem dX12_led_46 : decode cX12_led 46 = .ok (.aload_n 0, 1) := by decide +kernel
theorem dX12_led_47 : decode cX12_led 47 = .ok (.getfield 343, 3) := by decide +kernel
theorem dX12_led_50 : decode cX12_led 50 = .ok (.ireturn, 1) := by decide +kernel
theorem dX12_led_51 : decode cX12_led 51 = .ok (.aload_n 0, 1) := by decide +kernel
theorem dX12_led_52 : decode cX12_led 52 = .ok (.getfield 346, 3) := by decide +kernel
theorem dX12_led_55 : decode cX12_led 55 = .ok (.ireturn, 1) := by decide +kernel
theorem dX12_led_56 : decode cX12_led 56 = .ok (.aload_n 0, 1) := by decide +kernel
theorem dX12_led_57 : decode cX12_led 57 = .ok (.getfield 91, 3) := by decide +kernel
theorem dX12_led_60 : decode cX12_led 60 = .ok (.ireturn, 1) := by decide +kernel
theorem dX12_led_61 : decode cX12_led 61 = .ok (.iconst (-1), 1) := by decide +kernel
theorem dX12_led_62 : decode cX12_led 62 = .ok (.ireturn, 1) := by decide +kernel
theorem dX12_image_0 : decode cX12_image 0 = .ok (.aload_n 0, 1) := by decide +kernel
theorem dX12_image_1 : decode cX12_image 1 = .ok (.iconst 1, 1) := by decide +kernel
theorem dX12_image_2 : decode cX12_image 2 = .ok (.putfield 349, 3) := by decide +kernel
theorem dX12_image_5 : decode cX12_image 5 = .ok (.iconst 0, 1) := by decide +kernel
theorem dX12_image_6 : decode cX12_image 6 = .ok (.istore_n 1, 1) := by decide +kernel
theorem dX12_image_7 : decode cX12_image 7 = .ok (.iload_n 1, 1) := by decide +kernel
theorem dX12_image_8 : decode cX12_image 8 = .ok (.bipush 8, 2) := by decide +kernel
theorem dX12_image_10 : decode cX12_image 10 = .ok (.if_icmp .ge 36, 3) := by decide +kernel
theorem dX12_image_13 : decode cX12_image 13 = .ok (.aload_n 0, 1) := by decide +kernel
theorem dX12_image_14 : decode cX12_image 14 = .ok (.getfield 65, 3) := by decide +kernel
theorem dX12_image_17 : decode cX12_image 17 = .ok (.iload_n 1, 1) := by decide +kernel
theorem dX12_image_18 : decode cX12_image 18 = .ok (.iload_n 1, 1) := by decide +kernel
theorem dX12_image_19 : decode cX12_image 19 = .ok (.iconst 3, 1) := by decide +kernel
theorem dX12_image_20 : decode cX12_image 20 = .ok (.if_icmp .ge 12, 3) := by decide +kernel
theorem dX12_image_23 : decode cX12_image 23 = .ok (.aload_n 0, 1) := by decide +kernel
theorem dX12_image_24 : decode cX12_image 24 = .ok (.getfield 22, 3) := by decide +kernel
theorem dX12_image_27 : decode cX12_image 27 = .ok (.iload_n 1, 1) := by decide +kernel
theorem dX12_image_28 : decode cX12_image 28 = .ok (.iaload, 1) := by decide +kernel
theorem dX12_image_29 : decode cX12_image 29 = .ok (.goto 10, 3) := by decide +kernel
theorem dX12_image_32 : decode cX12_image 32 = .ok (.aload_n 0, 1) := by decide +kernel
theorem dX12_image_33 : decode cX12_image 33 = .ok (.iload_n 1, 1) := by decide +kernel
theorem dX12_image_34 : decode cX12_image 34 = .ok (.iconst 3, 1) := by decide +kernel
theorem dX12_image_35 : decode cX12_image 35 = .ok (.isub, 1) := by decide +kernel
theorem dX12_image_36 : decode cX12_image 36 = .ok (.invokevirtual 352, 3) := by decide +kernel
theorem dX12_image_39 : decode cX12_image 39 = .ok (.iastore, 1) := by decide +kernel
theorem dX12_image_40 : decode cX12_image 40 = .ok (.iinc 1 1, 3) := by decide +kernel
theorem dX12_image_43 : decode cX12_image 43 = .ok (.goto (-36), 3) := by decide +kernel
theorem dX12_image_46 : decode cX12_image 46 = .ok (.aload_n 0, 1) := by decide +kernel
theorem dX12_image_47 : decode cX12_image 47 = .ok (.getfield 337, 3) := by decide +kernel
theorem dX12_image_50 : decode cX12_image 50 = .ok (.ireturn, 1) := by decide +kernel
theorem dX12_back_0 : decode cX12_back 0 = .ok (.aload_n 0, 1) := by decide +kernel
theorem dX12_back_1 : decode cX12_back 1 = .ok (.getfield 349, 3) := by decide +kernel
theorem dX12_back_4 : decode cX12_back 4 = .ok (.ifCond .ne 6, 3) := by decide +kernel
theorem dX12_back_7 : decode cX12_back 7 = .ok (.bipush (-5), 2) := by decide +kernel
theorem dX12_back_9 : decode cX12_back 9 = .ok (.ireturn, 1) := by decide +kernel
theorem dX12_back_10 : decode cX12_back 10 = .ok (.iconst 0, 1) := by decide +kernel
theorem dX12_back_11 : decode cX12_back 11 = .ok (.istore_n 1, 1) := by decide +kernel
theorem dX12_back_12 : decode cX12_back 12 = .ok (.iload_n 1, 1) := by decide +kernel
theorem dX12_back_13 : decode cX12_back 13 = .ok (.iconst 3, 1) := by decide +kernel
theorem dX12_back_14 : decode cX12_back 14 = .ok (.if_icmp .ge 21, 3) := by decide +kernel
theorem dX12_back_17 : decode cX12_back 17 = .ok (.aload_n 0, 1) := by decide +kernel
theorem dX12_back_18 : decode cX12_back 18 = .ok (.getfield 22, 3) := by decide +kernel
theorem dX12_back_21 : decode cX12_back 21 = .ok (.iload_n 1, 1) := by decide +kernel
theorem dX12_back_22 : decode cX12_back 22 = .ok (.aload_n 0, 1) := by decide +kernel
theorem dX12_back_23 : decode cX12_back 23 = .ok (.getfield 65, 3) := by decide +kernel
theorem dX12_back_26 : decode cX12_back 26 = .ok (.iload_n 1, 1) := by decide +kernel
theorem dX12_back_27 : decode cX12_back 27 = .ok (.iaload, 1) := by decide +kernel
theorem dX12_back_28 : decode cX12_back 28 = .ok (.iastore, 1) := by decide +kernel
theorem dX12_back_29 : decode cX12_back 29 = .ok (.iinc 1 1, 3) := by decide +kernel
theorem dX12_back_32 : decode cX12_back 32 = .ok (.goto (-20), 3) := by decide +kernel
theorem dX12_back_35 : decode cX12_back 35 = .ok (.aload_n 0, 1) := by decide +kernel
theorem dX12_back_36 : decode cX12_back 36 = .ok (.aload_n 0, 1) := by decide +kernel
theorem dX12_back_37 : decode cX12_back 37 = .ok (.getfield 65, 3) := by decide +kernel
theorem dX12_back_40 : decode cX12_back 40 = .ok (.iconst 3, 1) := by decide +kernel
theorem dX12_back_41 : decode cX12_back 41 = .ok (.iaload, 1) := by decide +kernel
theorem dX12_back_42 : decode cX12_back 42 = .ok (.putfield 337, 3) := by decide +kernel
theorem dX12_back_45 : decode cX12_back 45 = .ok (.aload_n 0, 1) := by decide +kernel
theorem dX12_back_46 : decode cX12_back 46 = .ok (.aload_n 0, 1) := by decide +kernel
theorem dX12_back_47 : decode cX12_back 47 = .ok (.getfield 65, 3) := by decide +kernel
theorem dX12_back_50 : decode cX12_back 50 = .ok (.iconst 4, 1) := by decide +kernel
theorem dX12_back_51 : decode cX12_back 51 = .ok (.iaload, 1) := by decide +kernel
theorem dX12_back_52 : decode cX12_back 52 = .ok (.putfield 340, 3) := by decide +kernel
theorem dX12_back_55 : decode cX12_back 55 = .ok (.aload_n 0, 1) := by decide +kernel
theorem dX12_back_56 : decode cX12_back 56 = .ok (.aload_n 0, 1) := by decide +kernel
theorem dX12_back_57 : decode cX12_back 57 = .ok (.getfield 65, 3) := by decide +kernel
theorem dX12_back_60 : decode cX12_back 60 = .ok (.iconst 5, 1) := by decide +kernel
theorem dX12_back_61 : decode cX12_back 61 = .ok (.iaload, 1) := by decide +kernel
theorem dX12_back_62 : decode cX12_back 62 = .ok (.putfield 343, 3) := by decide +kernel
theorem dX12_back_65 : decode cX12_back 65 = .ok (.aload_n 0, 1) := by decide +kernel
theorem dX12_back_66 : decode cX12_back 66 = .ok (.aload_n 0, 1) := by decide +kernel
theorem dX12_back_67 : decode cX12_back 67 = .ok (.getfield 65, 3) := by decide +kernel
theorem dX12_back_70 : decode cX12_back 70 = .ok (.bipush 6, 2) := by decide +kernel
theorem dX12_back_72 : decode cX12_back 72 = .ok (.iaload, 1) := by decide +kernel
theorem dX12_back_73 : decode cX12_back 73 = .ok (.putfield 346, 3) := by decide +kernel
theorem dX12_back_76 : decode cX12_back 76 = .ok (.aload_n 0, 1) := by decide +kernel
theorem dX12_back_77 : decode cX12_back 77 = .ok (.aload_n 0, 1) := by decide +kernel
theorem dX12_back_78 : decode cX12_back 78 = .ok (.getfield 65, 3) := by decide +kernel
theorem dX12_back_81 : decode cX12_back 81 = .ok (.bipush 7, 2) := by decide +kernel
theorem dX12_back_83 : decode cX12_back 83 = .ok (.iaload, 1) := by decide +kernel
theorem dX12_back_84 : decode cX12_back 84 = .ok (.putfield 91, 3) := by decide +kernel
theorem dX12_back_87 : decode cX12_back 87 = .ok (.aload_n 0, 1) := by decide +kernel
theorem dX12_back_88 : decode cX12_back 88 = .ok (.getfield 337, 3) := by decide +kernel
theorem dX12_back_91 : decode cX12_back 91 = .ok (.ireturn, 1) := by decide +kernel
theorem dX12_isBody_0 : decode cX12_isBody 0 = .ok (.iload_n 1, 1) := by decide +kernel
theorem dX12_isBody_1 : decode cX12_isBody 1 = .ok (.i2l, 1) := by decide +kernel
theorem dX12_isBody_2 : decode cX12_isBody 2 = .ok (.lconst 0, 1) := by decide +kernel
theorem dX12_isBody_3 : decode cX12_isBody 3 = .ok (.aload_n 0, 1) := by decide +kernel
theorem dX12_isBody_4 : decode cX12_isBody 4 = .ok (.getfield 355, 3) := by decide +kernel
theorem dX12_isBody_7 : decode cX12_isBody 7 = .ok (.iconst 1, 1) := by decide +kernel
theorem dX12_isBody_8 : decode cX12_isBody 8 = .ok (.isub, 1) := by decide +kernel
theorem dX12_isBody_9 : decode cX12_isBody 9 = .ok (.i2l, 1) := by decide +kernel
theorem dX12_isBody_10 : decode cX12_isBody 10 = .ok (.invokestatic 109, 3) := by decide +kernel
theorem dX12_isBody_13 : decode cX12_isBody 13 = .ok (.ireturn, 1) := by decide +kernel
theorem dX12_kindOf_0 : decode cX12_kindOf 0 = .ok (.aload_n 0, 1) := by decide +kernel
theorem dX12_kindOf_1 : decode cX12_kindOf 1 = .ok (.getfield 68, 3) := by decide +kernel
theorem dX12_kindOf_4 : decode cX12_kindOf 4 = .ok (.iload_n 1, 1) := by decide +kernel
theorem dX12_kindOf_5 : decode cX12_kindOf 5 = .ok (.iaload, 1) := by decide +kernel
theorem dX12_kindOf_6 : decode cX12_kindOf 6 = .ok (.ireturn, 1) := by decide +kernel
theorem dX12_body_0 : decode cX12_body 0 = .ok (.iload_n 1, 1) := by decide +kernel
theorem dX12_body_1 : decode cX12_body 1 = .ok (.i2l, 1) := by decide +kernel
theorem dX12_body_2 : decode cX12_body 2 = .ok (.lconst 0, 1) := by decide +kernel
theorem dX12_body_3 : decode cX12_body 3 = .ok (.ldc2_w 133, 3) := by decide +kernel
theorem dX12_body_6 : decode cX12_body 6 = .ok (.invokestatic 109, 3) := by decide +kernel
theorem dX12_body_9 : decode cX12_body 9 = .ok (.ifCond .ne 5, 3) := by decide +kernel
theorem dX12_body_12 : decode cX12_body 12 = .ok (.iconst (-1), 1) := by decide +kernel
theorem dX12_body_13 : decode cX12_body 13 = .ok (.ireturn, 1) := by decide +kernel
theorem dX12_body_14 : decode cX12_body 14 = .ok (.aload_n 0, 1) := by decide +kernel
theorem dX12_body_15 : decode cX12_body 15 = .ok (.getfield 355, 3) := by decide +kernel
theorem dX12_body_18 : decode cX12_body 18 = .ok (.bipush 50, 2) := by decide +kernel
theorem dX12_body_20 : decode cX12_body 20 = .ok (.if_icmp .ne 6, 3) := by decide +kernel
theorem dX12_body_23 : decode cX12_body 23 = .ok (.bipush (-3), 2) := by decide +kernel
theorem dX12_body_25 : decode cX12_body 25 = .ok (.ireturn, 1) := by decide +kernel
theorem dX12_body_26 : decode cX12_body 26 = .ok (.aload_n 0, 1) := by decide +kernel
theorem dX12_body_27 : decode cX12_body 27 = .ok (.getfield 68, 3) := by decide +kernel
theorem dX12_body_30 : decode cX12_body 30 = .ok (.aload_n 0, 1) := by decide +kernel
theorem dX12_body_31 : decode cX12_body 31 = .ok (.getfield 355, 3) := by decide +kernel
theorem dX12_body_34 : decode cX12_body 34 = .ok (.iload_n 1, 1) := by decide +kernel
theorem dX12_body_35 : decode cX12_body 35 = .ok (.iastore, 1) := by decide +kernel
theorem dX12_body_36 : decode cX12_body 36 = .ok (.aload_n 0, 1) := by decide +kernel
theorem dX12_body_37 : decode cX12_body 37 = .ok (.dup, 1) := by decide +kernel
theorem dX12_body_38 : decode cX12_body 38 = .ok (.getfield 355, 3) := by decide +kernel
theorem dX12_body_41 : decode cX12_body 41 = .ok (.iconst 1, 1) := by decide +kernel
theorem dX12_body_42 : decode cX12_body 42 = .ok (.iadd, 1) := by decide +kernel
theorem dX12_body_43 : decode cX12_body 43 = .ok (.putfield 355, 3) := by decide +kernel
theorem dX12_body_46 : decode cX12_body 46 = .ok (.aload_n 0, 1) := by decide +kernel
theorem dX12_body_47 : decode cX12_body 47 = .ok (.getfield 355, 3) := by decide +kernel
theorem dX12_body_50 : decode cX12_body 50 = .ok (.iconst 1, 1) := by decide +kernel
theorem dX12_body_51 : decode cX12_body 51 = .ok (.isub, 1) := by decide +kernel
theorem dX12_body_52 : decode cX12_body 52 = .ok (.ireturn, 1) := by decide +kernel
theorem dX12_above_0 : decode cX12_above 0 = .ok (.iload_n 0, 1) := by decide +kernel
theorem dX12_above_1 : decode cX12_above 1 = .ok (.iconst 3, 1) := by decide +kernel
theorem dX12_above_2 : decode cX12_above 2 = .ok (.if_icmp .ne 7, 3) := by decide +kernel
theorem dX12_above_5 : decode cX12_above 5 = .ok (.iconst 2, 1) := by decide +kernel
theorem dX12_above_6 : decode cX12_above 6 = .ok (.goto 32, 3) := by decide +kernel
theorem dX12_above_9 : decode cX12_above 9 = .ok (.iload_n 0, 1) := by decide +kernel
theorem dX12_above_10 : decode cX12_above 10 = .ok (.iconst 4, 1) := by decide +kernel
theorem dX12_above_11 : decode cX12_above 11 = .ok (.if_icmp .ne 7, 3) := by decide +kernel
theorem dX12_above_14 : decode cX12_above 14 = .ok (.iconst 1, 1) := by decide +kernel
theorem dX12_above_15 : decode cX12_above 15 = .ok (.goto 23, 3) := by decide +kernel
theorem dX12_above_18 : decode cX12_above 18 = .ok (.iload_n 0, 1) := by decide +kernel
theorem dX12_above_19 : decode cX12_above 19 = .ok (.iconst 5, 1) := by decide +kernel
theorem dX12_above_20 : decode cX12_above 20 = .ok (.if_icmp .ne 7, 3) := by decide +kernel
theorem dX12_above_23 : decode cX12_above 23 = .ok (.iconst 3, 1) := by decide +kernel
theorem dX12_above_24 : decode cX12_above 24 = .ok (.goto 14, 3) := by decide +kernel
theorem dX12_above_27 : decode cX12_above 27 = .ok (.iload_n 0, 1) := by decide +kernel
theorem dX12_above_28 : decode cX12_above 28 = .ok (.bipush 7, 2) := by decide +kernel
theorem dX12_above_30 : decode cX12_above 30 = .ok (.if_icmp .ne 7, 3) := by decide +kernel
theorem dX12_above_33 : decode cX12_above 33 = .ok (.iconst 4, 1) := by decide +kernel
theorem dX12_above_34 : decode cX12_above 34 = .ok (.goto 4, 3) := by decide +kernel
theorem dX12_above_37 : decode cX12_above 37 = .ok (.iconst 0, 1) := by decide +kernel
theorem dX12_above_38 : decode cX12_above 38 = .ok (.ireturn, 1) := by decide +kernel
theorem dX12_begins_0 : decode cX12_begins 0 = .ok (.aload_n 0, 1) := by decide +kernel
theorem dX12_begins_1 : decode cX12_begins 1 = .ok (.getfield 358, 3) := by decide +kernel
theorem dX12_begins_4 : decode cX12_begins 4 = .ok (.bipush 24, 2) := by decide +kernel
theorem dX12_begins_6 : decode cX12_begins 6 = .ok (.if_icmp .ge 13, 3) := by decide +kernel
theorem dX12_begins_9 : decode cX12_begins 9 = .ok (.aload_n 0, 1) := by decide +kernel
theorem dX12_begins_10 : decode cX12_begins 10 = .ok (.getfield 71, 3) := by decide +kernel
theorem dX12_begins_13 : decode cX12_begins 13 = .ok (.aload_n 0, 1) := by decide +kernel
theorem dX12_begins_14 : decode cX12_begins 14 = .ok (.getfield 358, 3) := by decide +kernel
theorem dX12_begins_17 : decode cX12_begins 17 = .ok (.iload_n 1, 1) := by decide +kernel
theorem dX12_begins_18 : decode cX12_begins 18 = .ok (.iastore, 1) := by decide +kernel
theorem dX12_begins_19 : decode cX12_begins 19 = .ok (.aload_n 0, 1) := by decide +kernel
theorem dX12_begins_20 : decode cX12_begins 20 = .ok (.dup, 1) := by decide +kernel
theorem dX12_begins_21 : decode cX12_begins 21 = .ok (.getfield 358, 3) := by decide +kernel
theorem dX12_begins_24 : decode cX12_begins 24 = .ok (.iconst 1, 1) := by decide +kernel
theorem dX12_begins_25 : decode cX12_begins 25 = .ok (.iadd, 1) := by decide +kernel
theorem dX12_begins_26 : decode cX12_begins 26 = .ok (.putfield 358, 3) := by decide +kernel
theorem dX12_begins_29 : decode cX12_begins 29 = .ok (.return_, 1) := by decide +kernel
theorem dX12_setsAs_0 : decode cX12_setsAs 0 = .ok (.iload_n 1, 1) := by decide +kernel
theorem dX12_setsAs_1 : decode cX12_setsAs 1 = .ok (.iconst 1, 1) := by decide +kernel
theorem dX12_setsAs_2 : decode cX12_setsAs 2 = .ok (.if_icmp .eq 14, 3) := by decide +kernel
theorem dX12_setsAs_5 : decode cX12_setsAs 5 = .ok (.iload_n 1, 1) := by decide +kernel
theorem dX12_setsAs_6 : decode cX12_setsAs 6 = .ok (.iconst 4, 1) := by decide +kernel
theorem dX12_setsAs_7 : decode cX12_setsAs 7 = .ok (.if_icmp .eq 9, 3) := by decide +kernel
theorem dX12_setsAs_10 : decode cX12_setsAs 10 = .ok (.iload_n 1, 1) := by decide +kernel
theorem dX12_setsAs_11 : decode cX12_setsAs 11 = .ok (.bipush 7, 2) := by decide +kernel
theorem dX12_setsAs_13 : decode cX12_setsAs 13 = .ok (.if_icmp .ne 18, 3) := by decide +kernel
theorem dX12_setsAs_16 : decode cX12_setsAs 16 = .ok (.aload_n 0, 1) := by decide +kernel
theorem dX12_setsAs_17 : decode cX12_setsAs 17 = .ok (.bipush 20, 2) := by decide +kernel
theorem dX12_setsAs_19 : decode cX12_setsAs 19 = .ok (.invokevirtual 361, 3) := by decide +kernel
theorem dX12_setsAs_22 : decode cX12_setsAs 22 = .ok (.aload_n 0, 1) := by decide +kernel
theorem dX12_setsAs_23 : decode cX12_setsAs 23 = .ok (.iconst 0, 1) := by decide +kernel
theorem dX12_setsAs_24 : decode cX12_setsAs 24 = .ok (.iload_n 2, 1) := by decide +kernel
theorem dX12_setsAs_25 : decode cX12_setsAs 25 = .ok (.invokevirtual 364, 3) := by decide +kernel
theorem dX12_setsAs_28 : decode cX12_setsAs 28 = .ok (.iconst 3, 1) := by decide +kernel
theorem dX12_setsAs_29 : decode cX12_setsAs 29 = .ok (.iadd, 1) := by decide +kernel
theorem dX12_setsAs_30 : decode cX12_setsAs 30 = .ok (.ireturn, 1) := by decide +kernel
theorem dX12_setsAs_31 : decode cX12_setsAs 31 = .ok (.iload_n 1, 1) := by decide +kernel
theorem dX12_setsAs_32 : decode cX12_setsAs 32 = .ok (.bipush 6, 2) := by decide +kernel
theorem dX12_setsAs_34 : decode cX12_setsAs 34 = .ok (.if_icmp .ne 18, 3) := by decide +kernel
theorem dX12_setsAs_37 : decode cX12_setsAs 37 = .ok (.aload_n 0, 1) := by decide +kernel
theorem dX12_setsAs_38 : decode cX12_setsAs 38 = .ok (.bipush 70, 2) := by decide +kernel
theorem dX12_setsAs_40 : decode cX12_setsAs 40 = .ok (.invokevirtual 361, 3) := by decide +kernel
theorem dX12_setsAs_43 : decode cX12_setsAs 43 = .ok (.aload_n 0, 1) := by decide +kernel
theorem dX12_setsAs_44 : decode cX12_setsAs 44 = .ok (.iconst 0, 1) := by decide +kernel
theorem dX12_setsAs_45 : decode cX12_setsAs 45 = .ok (.iload_n 2, 1) := by decide +kernel
theorem dX12_setsAs_46 : decode cX12_setsAs 46 = .ok (.invokevirtual 364, 3) := by decide +kernel
theorem dX12_setsAs_49 : decode cX12_setsAs 49 = .ok (.iconst 2, 1) := by decide +kernel
theorem dX12_setsAs_50 : decode cX12_setsAs 50 = .ok (.imul, 1) := by decide +kernel
theorem dX12_setsAs_51 : decode cX12_setsAs 51 = .ok (.ireturn, 1) := by decide +kernel
theorem dX12_setsAs_52 : decode cX12_setsAs 52 = .ok (.aload_n 0, 1) := by decide +kernel
theorem dX12_setsAs_53 : decode cX12_setsAs 53 = .ok (.iconst 1, 1) := by decide +kernel
theorem dX12_setsAs_54 : decode cX12_setsAs 54 = .ok (.invokevirtual 361, 3) := by decide +kernel
theorem dX12_setsAs_57 : decode cX12_setsAs 57 = .ok (.iload_n 2, 1) := by decide +kernel
theorem dX12_setsAs_58 : decode cX12_setsAs 58 = .ok (.aload_n 0, 1) := by decide +kernel
theorem dX12_setsAs_59 : decode cX12_setsAs 59 = .ok (.getfield 367, 3) := by decide +kernel
theorem dX12_setsAs_62 : decode cX12_setsAs 62 = .ok (.iadd, 1) := by decide +kernel
theorem dX12_setsAs_63 : decode cX12_setsAs 63 = .ok (.ireturn, 1) := by decide +kernel
theorem dX12_sitsAs_0 : decode cX12_sitsAs 0 = .ok (.iload_n 1, 1) := by decide +kernel
theorem dX12_sitsAs_1 : decode cX12_sitsAs 1 = .ok (.iconst 3, 1) := by decide +kernel
theorem dX12_sitsAs_2 : decode cX12_sitsAs 2 = .ok (.if_icmp .eq 8, 3) := by decide +kernel
theorem dX12_sitsAs_5 : decode cX12_sitsAs 5 = .ok (.iload_n 1, 1) := by decide +kernel
theorem dX12_sitsAs_6 : decode cX12_sitsAs 6 = .ok (.iconst 5, 1) := by decide +kernel
theorem dX12_sitsAs_7 : decode cX12_sitsAs 7 = .ok (.if_icmp .ne 18, 3) := by decide +kernel
theorem dX12_sitsAs_10 : decode cX12_sitsAs 10 = .ok (.aload_n 0, 1) := by decide +kernel
theorem dX12_sitsAs_11 : decode cX12_sitsAs 11 = .ok (.bipush 41, 2) := by decide +kernel
theorem dX12_sitsAs_13 : decode cX12_sitsAs 13 = .ok (.invokevirtual 361, 3) := by decide +kernel
theorem dX12_sitsAs_16 : decode cX12_sitsAs 16 = .ok (.aload_n 0, 1) := by decide +kernel
theorem dX12_sitsAs_17 : decode cX12_sitsAs 17 = .ok (.iconst 2, 1) := by decide +kernel
theorem dX12_sitsAs_18 : decode cX12_sitsAs 18 = .ok (.iload_n 2, 1) := by decide +kernel
theorem dX12_sitsAs_19 : decode cX12_sitsAs 19 = .ok (.iconst 1, 1) := by decide +kernel
theorem dX12_sitsAs_20 : decode cX12_sitsAs 20 = .ok (.iadd, 1) := by decide +kernel
theorem dX12_sitsAs_21 : decode cX12_sitsAs 21 = .ok (.invokevirtual 370, 3) := by decide +kernel
theorem dX12_sitsAs_24 : decode cX12_sitsAs 24 = .ok (.ireturn, 1) := by decide +kernel
theorem dX12_sitsAs_25 : decode cX12_sitsAs 25 = .ok (.iload_n 1, 1) := by decide +kernel
theorem dX12_sitsAs_26 : decode cX12_sitsAs 26 = .ok (.iconst 2, 1) := by decide +kernel
theorem dX12_sitsAs_27 : decode cX12_sitsAs 27 = .ok (.if_icmp .ne 17, 3) := by decide +kernel
theorem dX12_sitsAs_30 : decode cX12_sitsAs 30 = .ok (.aload_n 0, 1) := by decide +kernel
theorem dX12_sitsAs_31 : decode cX12_sitsAs 31 = .ok (.bipush 30, 2) := by decide +kernel
theorem dX12_sitsAs_33 : decode cX12_sitsAs 33 = .ok (.invokevirtual 361, 3) := by decide +kernel
theorem dX12_sitsAs_36 : decode cX12_sitsAs 36 = .ok (.aload_n 0, 1) := by decide +kernel
theorem dX12_sitsAs_37 : decode cX12_sitsAs 37 = .ok (.iconst 0, 1) := by decide +kernel
theorem dX12_sitsAs_38 : decode cX12_sitsAs 38 = .ok (.iload_n 2, 1) := by decide +kernel
theorem dX12_sitsAs_39 : decode cX12_sitsAs 39 = .ok (.invokevirtual 370, 3) := by decide +kernel
theorem dX12_sitsAs_42 : decode cX12_sitsAs 42 = .ok (.ineg, 1) := by decide +kernel
theorem dX12_sitsAs_43 : decode cX12_sitsAs 43 = .ok (.ireturn, 1) := by decide +kernel
theorem dX12_sitsAs_44 : decode cX12_sitsAs 44 = .ok (.iload_n 1, 1) := by decide +kernel
theorem dX12_sitsAs_45 : decode cX12_sitsAs 45 = .ok (.bipush 7, 2) := by decide +kernel
theorem dX12_sitsAs_47 : decode cX12_sitsAs 47 = .ok (.if_icmp .ne 28, 3) := by decide +kernel
theorem dX12_sitsAs_50 : decode cX12_sitsAs 50 = .ok (.aload_n 0, 1) := by decide +kernel
theorem dX12_sitsAs_51 : decode cX12_sitsAs 51 = .ok (.bipush 80, 2) := by decide +kernel
theorem dX12_sitsAs_53 : decode cX12_sitsAs 53 = .ok (.invokevirtual 361, 3) := by decide +kernel
theorem dX12_sitsAs_56 : decode cX12_sitsAs 56 = .ok (.aload_n 0, 1) := by decide +kernel
theorem dX12_sitsAs_57 : decode cX12_sitsAs 57 = .ok (.iconst 4, 1) := by decide +kernel
theorem dX12_sitsAs_58 : decode cX12_sitsAs 58 = .ok (.iload_n 2, 1) := by decide +kernel
theorem dX12_sitsAs_59 : decode cX12_sitsAs 59 = .ok (.invokevirtual 370, 3) := by decide +kernel
theorem dX12_sitsAs_62 : decode cX12_sitsAs 62 = .ok (.istore_n 3, 1) := by decide +kernel
theorem dX12_sitsAs_63 : decode cX12_sitsAs 63 = .ok (.iload_n 3, 1) := by decide +kernel
theorem dX12_sitsAs_64 : decode cX12_sitsAs 64 = .ok (.aload_n 0, 1) := by decide +kernel
theorem dX12_sitsAs_65 : decode cX12_sitsAs 65 = .ok (.aload_n 0, 1) := by decide +kernel
theorem dX12_sitsAs_66 : decode cX12_sitsAs 66 = .ok (.getfield 373, 3) := by decide +kernel
theorem dX12_sitsAs_69 : decode cX12_sitsAs 69 = .ok (.iconst 2, 1) := by decide +kernel
theorem dX12_sitsAs_70 : decode cX12_sitsAs 70 = .ok (.invokevirtual 376, 3) := by decide +kernel
theorem dX12_sitsAs_73 : decode cX12_sitsAs 73 = .ok (.iadd, 1) := by decide +kernel
theorem dX12_sitsAs_74 : decode cX12_sitsAs 74 = .ok (.ireturn, 1) := by decide +kernel
theorem dX12_sitsAs_75 : decode cX12_sitsAs 75 = .ok (.aload_n 0, 1) := by decide +kernel
theorem dX12_sitsAs_76 : decode cX12_sitsAs 76 = .ok (.bipush 10, 2) := by decide +kernel
theorem dX12_sitsAs_78 : decode cX12_sitsAs 78 = .ok (.invokevirtual 361, 3) := by decide +kernel
theorem dX12_sitsAs_81 : decode cX12_sitsAs 81 = .ok (.aload_n 0, 1) := by decide +kernel
theorem dX12_sitsAs_82 : decode cX12_sitsAs 82 = .ok (.aload_n 0, 1) := by decide +kernel
theorem dX12_sitsAs_83 : decode cX12_sitsAs 83 = .ok (.getfield 373, 3) := by decide +kernel
theorem dX12_sitsAs_86 : decode cX12_sitsAs 86 = .ok (.iload_n 2, 1) := by decide +kernel
theorem dX12_sitsAs_87 : decode cX12_sitsAs 87 = .ok (.invokevirtual 364, 3) := by decide +kernel
theorem dX12_sitsAs_90 : decode cX12_sitsAs 90 = .ok (.iconst 2, 1) := by decide +kernel
theorem dX12_sitsAs_91 : decode cX12_sitsAs 91 = .ok (.imul, 1) := by decide +kernel
theorem dX12_sitsAs_92 : decode cX12_sitsAs 92 = .ok (.ireturn, 1) := by decide +kernel
theorem dX12_slipsAs_0 : decode cX12_slipsAs 0 = .ok (.iload_n 1, 1) := by decide +kernel
theorem dX12_slipsAs_1 : decode cX12_slipsAs 1 = .ok (.iconst 3, 1) := by decide +kernel
theorem dX12_slipsAs_2 : decode cX12_slipsAs 2 = .ok (.if_icmp .eq 8, 3) := by decide +kernel
theorem dX12_slipsAs_5 : decode cX12_slipsAs 5 = .ok (.iload_n 1, 1) := by decide +kernel
theorem dX12_slipsAs_6 : decode cX12_slipsAs 6 = .ok (.iconst 5, 1) := by decide +kernel
theorem dX12_slipsAs_7 : decode cX12_slipsAs 7 = .ok (.if_icmp .ne 18, 3) := by decide +kernel
theorem dX12_slipsAs_10 : decode cX12_slipsAs 10 = .ok (.aload_n 0, 1) := by decide +kernel
theorem dX12_slipsAs_11 : decode cX12_slipsAs 11 = .ok (.bipush 40, 2) := by decide +kernel
theorem dX12_slipsAs_13 : decode cX12_slipsAs 13 = .ok (.invokevirtual 361, 3) := by decide +kernel
theorem dX12_slipsAs_16 : decode cX12_slipsAs 16 = .ok (.aload_n 0, 1) := by decide +kernel
theorem dX12_slipsAs_17 : decode cX12_slipsAs 17 = .ok (.iconst 2, 1) := by decide +kernel
theorem dX12_slipsAs_18 : decode cX12_slipsAs 18 = .ok (.iload_n 2, 1) := by decide +kernel
theorem dX12_slipsAs_19 : decode cX12_slipsAs 19 = .ok (.invokevirtual 376, 3) := by decide +kernel
theorem dX12_slipsAs_22 : decode cX12_slipsAs 22 = .ok (.iconst 3, 1) := by decide +kernel
theorem dX12_slipsAs_23 : decode cX12_slipsAs 23 = .ok (.imul, 1) := by decide +kernel
theorem dX12_slipsAs_24 : decode cX12_slipsAs 24 = .ok (.ireturn, 1) := by decide +kernel
theorem dX12_slipsAs_25 : decode cX12_slipsAs 25 = .ok (.iload_n 1, 1) := by decide +kernel
theorem dX12_slipsAs_26 : decode cX12_slipsAs 26 = .ok (.iconst 4, 1) := by decide +kernel
theorem dX12_slipsAs_27 : decode cX12_slipsAs 27 = .ok (.if_icmp .eq 9, 3) := by decide +kernel
theorem dX12_slipsAs_30 : decode cX12_slipsAs 30 = .ok (.iload_n 1, 1) := by decide +kernel
theorem dX12_slipsAs_31 : decode cX12_slipsAs 31 = .ok (.bipush 7, 2) := by decide +kernel
theorem dX12_slipsAs_33 : decode cX12_slipsAs 33 = .ok (.if_icmp .ne 28, 3) := by decide +kernel
theorem dX12_slipsAs_36 : decode cX12_slipsAs 36 = .ok (.aload_n 0, 1) := by decide +kernel
theorem dX12_slipsAs_37 : decode cX12_slipsAs 37 = .ok (.bipush 50, 2) := by decide +kernel
theorem dX12_slipsAs_39 : decode cX12_slipsAs 39 = .ok (.invokevirtual 361, 3) := by decide +kernel
theorem dX12_slipsAs_42 : decode cX12_slipsAs 42 = .ok (.aload_n 0, 1) := by decide +kernel
theorem dX12_slipsAs_43 : decode cX12_slipsAs 43 = .ok (.iconst 1, 1) := by decide +kernel
theorem dX12_slipsAs_44 : decode cX12_slipsAs 44 = .ok (.iload_n 2, 1) := by decide +kernel
theorem dX12_slipsAs_45 : decode cX12_slipsAs 45 = .ok (.invokevirtual 376, 3) := by decide +kernel
theorem dX12_slipsAs_48 : decode cX12_slipsAs 48 = .ok (.istore_n 3, 1) := by decide +kernel
theorem dX12_slipsAs_49 : decode cX12_slipsAs 49 = .ok (.iload_n 3, 1) := by decide +kernel
theorem dX12_slipsAs_50 : decode cX12_slipsAs 50 = .ok (.aload_n 0, 1) := by decide +kernel
theorem dX12_slipsAs_51 : decode cX12_slipsAs 51 = .ok (.aload_n 0, 1) := by decide +kernel
theorem dX12_slipsAs_52 : decode cX12_slipsAs 52 = .ok (.getfield 373, 3) := by decide +kernel
theorem dX12_slipsAs_55 : decode cX12_slipsAs 55 = .ok (.iconst 2, 1) := by decide +kernel
theorem dX12_slipsAs_56 : decode cX12_slipsAs 56 = .ok (.invokevirtual 364, 3) := by decide +kernel
theorem dX12_slipsAs_59 : decode cX12_slipsAs 59 = .ok (.isub, 1) := by decide +kernel
theorem dX12_slipsAs_60 : decode cX12_slipsAs 60 = .ok (.ireturn, 1) := by decide +kernel
theorem dX12_slipsAs_61 : decode cX12_slipsAs 61 = .ok (.aload_n 0, 1) := by decide +kernel
theorem dX12_slipsAs_62 : decode cX12_slipsAs 62 = .ok (.bipush 11, 2) := by decide +kernel
theorem dX12_slipsAs_64 : decode cX12_slipsAs 64 = .ok (.invokevirtual 361, 3) := by decide +kernel
theorem dX12_slipsAs_67 : decode cX12_slipsAs 67 = .ok (.iload_n 2, 1) := by decide +kernel
theorem dX12_slipsAs_68 : decode cX12_slipsAs 68 = .ok (.aload_n 0, 1) := by decide +kernel
theorem dX12_slipsAs_69 : decode cX12_slipsAs 69 = .ok (.getfield 367, 3) := by decide +kernel
theorem dX12_slipsAs_72 : decode cX12_slipsAs 72 = .ok (.ixor, 1) := by decide +kernel
theorem dX12_slipsAs_73 : decode cX12_slipsAs 73 = .ok (.ireturn, 1) := by decide +kernel
theorem dX12_tellsAs_0 : decode cX12_tellsAs 0 = .ok (.iload_n 1, 1) := by decide +kernel
theorem dX12_tellsAs_1 : decode cX12_tellsAs 1 = .ok (.iconst 5, 1) := by decide +kernel
theorem dX12_tellsAs_2 : decode cX12_tellsAs 2 = .ok (.if_icmp .ne 18, 3) := by decide +kernel
theorem dX12_tellsAs_5 : decode cX12_tellsAs 5 = .ok (.aload_n 0, 1) := by decide +kernel
theorem dX12_tellsAs_6 : decode cX12_tellsAs 6 = .ok (.bipush 60, 2) := by decide +kernel
theorem dX12_tellsAs_8 : decode cX12_tellsAs 8 = .ok (.invokevirtual 361, 3) := by decide +kernel
theorem dX12_tellsAs_11 : decode cX12_tellsAs 11 = .ok (.aload_n 0, 1) := by decide +kernel
theorem dX12_tellsAs_12 : decode cX12_tellsAs 12 = .ok (.iconst 3, 1) := by decide +kernel
theorem dX12_tellsAs_13 : decode cX12_tellsAs 13 = .ok (.iload_n 2, 1) := by decide +kernel
theorem dX12_tellsAs_14 : decode cX12_tellsAs 14 = .ok (.invokevirtual 379, 3) := by decide +kernel
theorem dX12_tellsAs_17 : decode cX12_tellsAs 17 = .ok (.iconst 5, 1) := by decide +kernel
theorem dX12_tellsAs_18 : decode cX12_tellsAs 18 = .ok (.ixor, 1) := by decide +kernel
theorem dX12_tellsAs_19 : decode cX12_tellsAs 19 = .ok (.ireturn, 1) := by decide +kernel
theorem dX12_tellsAs_20 : decode cX12_tellsAs 20 = .ok (.iload_n 1, 1) := by decide +kernel
theorem dX12_tellsAs_21 : decode cX12_tellsAs 21 = .ok (.bipush 7, 2) := by decide +kernel
theorem dX12_tellsAs_23 : decode cX12_tellsAs 23 = .ok (.if_icmp .ne 18, 3) := by decide +kernel
theorem dX12_tellsAs_26 : decode cX12_tellsAs 26 = .ok (.aload_n 0, 1) := by decide +kernel
theorem dX12_tellsAs_27 : decode cX12_tellsAs 27 = .ok (.bipush 81, 2) := by decide +kernel
theorem dX12_tellsAs_29 : decode cX12_tellsAs 29 = .ok (.invokevirtual 361, 3) := by decide +kernel
theorem dX12_tellsAs_32 : decode cX12_tellsAs 32 = .ok (.aload_n 0, 1) := by decide +kernel
theorem dX12_tellsAs_33 : decode cX12_tellsAs 33 = .ok (.iconst 4, 1) := by decide +kernel
theorem dX12_tellsAs_34 : decode cX12_tellsAs 34 = .ok (.iload_n 2, 1) := by decide +kernel
theorem dX12_tellsAs_35 : decode cX12_tellsAs 35 = .ok (.invokevirtual 379, 3) := by decide +kernel
theorem dX12_tellsAs_38 : decode cX12_tellsAs 38 = .ok (.iconst 1, 1) := by decide +kernel
theorem dX12_tellsAs_39 : decode cX12_tellsAs 39 = .ok (.isub, 1) := by decide +kernel
theorem dX12_tellsAs_40 : decode cX12_tellsAs 40 = .ok (.ireturn, 1) := by decide +kernel
theorem dX12_tellsAs_41 : decode cX12_tellsAs 41 = .ok (.aload_n 0, 1) := by decide +kernel
theorem dX12_tellsAs_42 : decode cX12_tellsAs 42 = .ok (.iconst 2, 1) := by decide +kernel
theorem dX12_tellsAs_43 : decode cX12_tellsAs 43 = .ok (.invokevirtual 361, 3) := by decide +kernel
theorem dX12_tellsAs_46 : decode cX12_tellsAs 46 = .ok (.aload_n 0, 1) := by decide +kernel
theorem dX12_tellsAs_47 : decode cX12_tellsAs 47 = .ok (.aload_n 0, 1) := by decide +kernel
theorem dX12_tellsAs_48 : decode cX12_tellsAs 48 = .ok (.getfield 373, 3) := by decide +kernel
theorem dX12_tellsAs_51 : decode cX12_tellsAs 51 = .ok (.iload_n 2, 1) := by decide +kernel
theorem dX12_tellsAs_52 : decode cX12_tellsAs 52 = .ok (.invokevirtual 370, 3) := by decide +kernel
theorem dX12_tellsAs_55 : decode cX12_tellsAs 55 = .ok (.istore_n 3, 1) := by decide +kernel
theorem dX12_tellsAs_56 : decode cX12_tellsAs 56 = .ok (.iload_n 3, 1) := by decide +kernel
theorem dX12_tellsAs_57 : decode cX12_tellsAs 57 = .ok (.aload_n 0, 1) := by decide +kernel
theorem dX12_tellsAs_58 : decode cX12_tellsAs 58 = .ok (.aload_n 0, 1) := by decide +kernel
theorem dX12_tellsAs_59 : decode cX12_tellsAs 59 = .ok (.getfield 373, 3) := by decide +kernel
theorem dX12_tellsAs_62 : decode cX12_tellsAs 62 = .ok (.iconst 1, 1) := by decide +kernel
theorem dX12_tellsAs_63 : decode cX12_tellsAs 63 = .ok (.invokevirtual 376, 3) := by decide +kernel
theorem dX12_tellsAs_66 : decode cX12_tellsAs 66 = .ok (.isub, 1) := by decide +kernel
theorem dX12_tellsAs_67 : decode cX12_tellsAs 67 = .ok (.ireturn, 1) := by decide +kernel
theorem dX12_act_0 : decode cX12_act 0 = .ok (.aload_n 0, 1) := by decide +kernel
theorem dX12_act_1 : decode cX12_act 1 = .ok (.iconst 0, 1) := by decide +kernel
theorem dX12_act_2 : decode cX12_act 2 = .ok (.putfield 358, 3) := by decide +kernel
theorem dX12_act_5 : decode cX12_act 5 = .ok (.aload_n 0, 1) := by decide +kernel
theorem dX12_act_6 : decode cX12_act 6 = .ok (.iload_n 1, 1) := by decide +kernel
theorem dX12_act_7 : decode cX12_act 7 = .ok (.invokevirtual 382, 3) := by decide +kernel
theorem dX12_act_10 : decode cX12_act 10 = .ok (.ifCond .ne 5, 3) := by decide +kernel
theorem dX12_act_13 : decode cX12_act 13 = .ok (.iconst 0, 1) := by decide +kernel
theorem dX12_act_14 : decode cX12_act 14 = .ok (.ireturn, 1) := by decide +kernel
theorem dX12_act_15 : decode cX12_act 15 = .ok (.aload_n 0, 1) := by decide +kernel
theorem dX12_act_16 : decode cX12_act 16 = .ok (.aload_n 0, 1) := by decide +kernel
theorem dX12_act_17 : decode cX12_act 17 = .ok (.getfield 68, 3) := by decide +kernel
theorem dX12_act_20 : decode cX12_act 20 = .ok (.iload_n 1, 1) := by decide +kernel
theorem dX12_act_21 : decode cX12_act 21 = .ok (.iaload, 1) := by decide +kernel
theorem dX12_act_22 : decode cX12_act 22 = .ok (.putfield 373, 3) := by decide +kernel
theorem dX12_act_25 : decode cX12_act 25 = .ok (.aload_n 0, 1) := by decide +kernel
theorem dX12_act_26 : decode cX12_act 26 = .ok (.iload_n 1, 1) := by decide +kernel
theorem dX12_act_27 : decode cX12_act 27 = .ok (.putfield 367, 3) := by decide +kernel
theorem dX12_act_30 : decode cX12_act 30 = .ok (.iload_n 2, 1) := by decide +kernel
theorem dX12_act_31 : decode cX12_act 31 = .ok (.tableswitch 69 0 3 #[29, 39, 49, 59], 29) := by decide +kernel
theorem dX12_act_60 : decode cX12_act 60 = .ok (.aload_n 0, 1) := by decide +kernel
theorem dX12_act_61 : decode cX12_act 61 = .ok (.aload_n 0, 1) := by decide +kernel
theorem dX12_act_62 : decode cX12_act 62 = .ok (.getfield 373, 3) := by decide +kernel
theorem dX12_act_65 : decode cX12_act 65 = .ok (.iload_n 3, 1) := by decide +kernel
theorem dX12_act_66 : decode cX12_act 66 = .ok (.invokevirtual 364, 3) := by decide +kernel
theorem dX12_act_69 : decode cX12_act 69 = .ok (.ireturn, 1) := by decide +kernel
theorem dX12_act_70 : decode cX12_act 70 = .ok (.aload_n 0, 1) := by decide +kernel
theorem dX12_act_71 : decode cX12_act 71 = .ok (.aload_n 0, 1) := by decide +kernel
theorem dX12_act_72 : decode cX12_act 72 = .ok (.getfield 373, 3) := by decide +kernel
theorem dX12_act_75 : decode cX12_act 75 = .ok (.iload_n 3, 1) := by decide +kernel
theorem dX12_act_76 : decode cX12_act 76 = .ok (.invokevirtual 370, 3) := by decide +kernel
theorem dX12_act_79 : decode cX12_act 79 = .ok (.ireturn, 1) := by decide +kernel
theorem dX12_act_80 : decode cX12_act 80 = .ok (.aload_n 0, 1) := by decide +kernel
theorem dX12_act_81 : decode cX12_act 81 = .ok (.aload_n 0, 1) := by decide +kernel
theorem dX12_act_82 : decode cX12_act 82 = .ok (.getfield 373, 3) := by decide +kernel
theorem dX12_act_85 : decode cX12_act 85 = .ok (.iload_n 3, 1) := by decide +kernel
theorem dX12_act_86 : decode cX12_act 86 = .ok (.invokevirtual 376, 3) := by decide +kernel
theorem dX12_act_89 : decode cX12_act 89 = .ok (.ireturn, 1) := by decide +kernel
theorem dX12_act_90 : decode cX12_act 90 = .ok (.aload_n 0, 1) := by decide +kernel
theorem dX12_act_91 : decode cX12_act 91 = .ok (.aload_n 0, 1) := by decide +kernel
theorem dX12_act_92 : decode cX12_act 92 = .ok (.getfield 373, 3) := by decide +kernel
theorem dX12_act_95 : decode cX12_act 95 = .ok (.iload_n 3, 1) := by decide +kernel
theorem dX12_act_96 : decode cX12_act 96 = .ok (.invokevirtual 379, 3) := by decide +kernel
theorem dX12_act_99 : decode cX12_act 99 = .ok (.ireturn, 1) := by decide +kernel
theorem dX12_act_100 : decode cX12_act 100 = .ok (.iconst 0, 1) := by decide +kernel
theorem dX12_act_101 : decode cX12_act 101 = .ok (.ireturn, 1) := by decide +kernel
theorem dX12_trace_0 : decode cX12_trace 0 = .ok (.iload_n 1, 1) := by decide +kernel
theorem dX12_trace_1 : decode cX12_trace 1 = .ok (.ifCond .lt 26, 3) := by decide +kernel
theorem dX12_trace_4 : decode cX12_trace 4 = .ok (.iload_n 1, 1) := by decide +kernel
theorem dX12_trace_5 : decode cX12_trace 5 = .ok (.aload_n 0, 1) := by decide +kernel
theorem dX12_trace_6 : decode cX12_trace 6 = .ok (.getfield 358, 3) := by decide +kernel
theorem dX12_trace_9 : decode cX12_trace 9 = .ok (.if_icmp .ge 18, 3) := by decide +kernel
theorem dX12_trace_12 : decode cX12_trace 12 = .ok (.iload_n 1, 1) := by decide +kernel
theorem dX12_trace_13 : decode cX12_trace 13 = .ok (.bipush 24, 2) := by decide +kernel
theorem dX12_trace_15 : decode cX12_trace 15 = .ok (.if_icmp .ge 12, 3) := by decide +kernel
theorem dX12_trace_18 : decode cX12_trace 18 = .ok (.aload_n 0, 1) := by decide +kernel
theorem dX12_trace_19 : decode cX12_trace 19 = .ok (.getfield 71, 3) := by decide +kernel
theorem dX12_trace_22 : decode cX12_trace 22 = .ok (.iload_n 1, 1) := by decide +kernel
theorem dX12_trace_23 : decode cX12_trace 23 = .ok (.iaload, 1) := by decide +kernel
theorem dX12_trace_24 : decode cX12_trace 24 = .ok (.goto 4, 3) := by decide +kernel
theorem dX12_trace_27 : decode cX12_trace 27 = .ok (.iconst (-1), 1) := by decide +kernel
theorem dX12_trace_28 : decode cX12_trace 28 = .ok (.ireturn, 1) := by decide +kernel
theorem dX12_isShelf_0 : decode cX12_isShelf 0 = .ok (.iload_n 0, 1) := by decide +kernel
theorem dX12_isShelf_1 : decode cX12_isShelf 1 = .ok (.i2l, 1) := by decide +kernel
theorem dX12_isShelf_2 : decode cX12_isShelf 2 = .ok (.lconst 0, 1) := by decide +kernel
theorem dX12_isShelf_3 : decode cX12_isShelf 3 = .ok (.ldc2_w 385, 3) := by decide +kernel
theorem dX12_isShelf_6 : decode cX12_isShelf 6 = .ok (.invokestatic 109, 3) := by decide +kernel
theorem dX12_isShelf_9 : decode cX12_isShelf 9 = .ok (.ireturn, 1) := by decide +kernel
theorem dX12_keep_0 : decode cX12_keep 0 = .ok (.iload_n 1, 1) := by decide +kernel
theorem dX12_keep_1 : decode cX12_keep 1 = .ok (.invokestatic 127, 3) := by decide +kernel
theorem dX12_keep_4 : decode cX12_keep 4 = .ok (.ifCond .eq 16, 3) := by decide +kernel
theorem dX12_keep_7 : decode cX12_keep 7 = .ok (.iload_n 2, 1) := by decide +kernel
theorem dX12_keep_8 : decode cX12_keep 8 = .ok (.iconst (-1), 1) := by decide +kernel
theorem dX12_keep_9 : decode cX12_keep 9 = .ok (.if_icmp .eq 13, 3) := by decide +kernel
theorem dX12_keep_12 : decode cX12_keep 12 = .ok (.aload_n 0, 1) := by decide +kernel
theorem dX12_keep_13 : decode cX12_keep 13 = .ok (.iload_n 2, 1) := by decide +kernel
theorem dX12_keep_14 : decode cX12_keep 14 = .ok (.invokevirtual 382, 3) := by decide +kernel
theorem dX12_keep_17 : decode cX12_keep 17 = .ok (.ifCond .ne 5, 3) := by decide +kernel
theorem dX12_keep_20 : decode cX12_keep 20 = .ok (.iconst (-1), 1) := by decide +kernel
theorem dX12_keep_21 : decode cX12_keep 21 = .ok (.ireturn, 1) := by decide +kernel
theorem dX12_keep_22 : decode cX12_keep 22 = .ok (.aload_n 0, 1) := by decide +kernel
theorem dX12_keep_23 : decode cX12_keep 23 = .ok (.getfield 74, 3) := by decide +kernel
theorem dX12_keep_26 : decode cX12_keep 26 = .ok (.iload_n 1, 1) := by decide +kernel
theorem dX12_keep_27 : decode cX12_keep 27 = .ok (.iload_n 2, 1) := by decide +kernel
theorem dX12_keep_28 : decode cX12_keep 28 = .ok (.iastore, 1) := by decide +kernel
theorem dX12_keep_29 : decode cX12_keep 29 = .ok (.aload_n 0, 1) := by decide +kernel
theorem dX12_keep_30 : decode cX12_keep 30 = .ok (.getfield 77, 3) := by decide +kernel
theorem dX12_keep_33 : decode cX12_keep 33 = .ok (.iload_n 1, 1) := by decide +kernel
theorem dX12_keep_34 : decode cX12_keep 34 = .ok (.iconst 0, 1) := by decide +kernel
theorem dX12_keep_35 : decode cX12_keep 35 = .ok (.iastore, 1) := by decide +kernel
theorem dX12_keep_36 : decode cX12_keep 36 = .ok (.iconst 1, 1) := by decide +kernel
theorem dX12_keep_37 : decode cX12_keep 37 = .ok (.ireturn, 1) := by decide +kernel
theorem dX12_row_0 : decode cX12_row 0 = .ok (.iload_n 1, 1) := by decide +kernel
theorem dX12_row_1 : decode cX12_row 1 = .ok (.invokestatic 127, 3) := by decide +kernel
theorem dX12_row_4 : decode cX12_row 4 = .ok (.ifCond .eq 21, 3) := by decide +kernel
theorem dX12_row_7 : decode cX12_row 7 = .ok (.iload_n 2, 1) := by decide +kernel
theorem dX12_row_8 : decode cX12_row 8 = .ok (.i2l, 1) := by decide +kernel
theorem dX12_row_9 : decode cX12_row 9 = .ok (.lconst 0, 1) := by decide +kernel
theorem dX12_row_10 : decode cX12_row 10 = .ok (.ldc2_w 387, 3) := by decide +kernel
theorem dX12_row_13 : decode cX12_row 13 = .ok (.invokestatic 109, 3) := by decide +kernel
theorem dX12_row_16 : decode cX12_row 16 = .ok (.ifCond .eq 9, 3) := by decide +kernel
theorem dX12_row_19 : decode cX12_row 19 = .ok (.iload_n 3, 1) := by decide +kernel
theorem dX12_row_20 : decode cX12_row 20 = .ok (.bipush 60, 2) := by decide +kernel
theorem dX12_row_22 : decode cX12_row 22 = .ok (.if_icmp .le 5, 3) := by decide +kernel
theorem dX12_row_25 : decode cX12_row 25 = .ok (.iconst (-1), 1) := by decide +kernel
theorem dX12_row_26 : decode cX12_row 26 = .ok (.ireturn, 1) := by decide +kernel
theorem dX12_row_27 : decode cX12_row 27 = .ok (.iload_n 3, 1) := by decide +kernel
theorem dX12_row_28 : decode cX12_row 28 = .ok (.ifCond .ge 6, 3) := by decide +kernel
theorem dX12_row_31 : decode cX12_row 31 = .ok (.bipush (-14), 2) := by decide +kernel
theorem dX12_row_33 : decode cX12_row 33 = .ok (.ireturn, 1) := by decide +kernel
theorem dX12_row_34 : decode cX12_row 34 = .ok (.aload_n 0, 1) := by decide +kernel
theorem dX12_row_35 : decode cX12_row 35 = .ok (.getfield 74, 3) := by decide +kernel
theorem dX12_row_38 : decode cX12_row 38 = .ok (.iload_n 1, 1) := by decide +kernel
theorem dX12_row_39 : decode cX12_row 39 = .ok (.bipush 50, 2) := by decide +kernel
theorem dX12_row_41 : decode cX12_row 41 = .ok (.iload_n 2, 1) := by decide +kernel
theorem dX12_row_42 : decode cX12_row 42 = .ok (.iadd, 1) := by decide +kernel
theorem dX12_row_43 : decode cX12_row 43 = .ok (.iastore, 1) := by decide +kernel
theorem dX12_row_44 : decode cX12_row 44 = .ok (.aload_n 0, 1) := by decide +kernel
theorem dX12_row_45 : decode cX12_row 45 = .ok (.getfield 77, 3) := by decide +kernel
theorem dX12_row_48 : decode cX12_row 48 = .ok (.iload_n 1, 1) := by decide +kernel
theorem dX12_row_49 : decode cX12_row 49 = .ok (.iload_n 3, 1) := by decide +kernel
theorem dX12_row_50 : decode cX12_row 50 = .ok (.iastore, 1) := by decide +kernel
theorem dX12_row_51 : decode cX12_row 51 = .ok (.bipush 60, 2) := by decide +kernel
theorem dX12_row_53 : decode cX12_row 53 = .ok (.iload_n 1, 1) := by decide +kernel
theorem dX12_row_54 : decode cX12_row 54 = .ok (.imul, 1) := by decide +kernel
theorem dX12_row_55 : decode cX12_row 55 = .ok (.istore 4, 2) := by decide +kernel
theorem dX12_row_57 : decode cX12_row 57 = .ok (.iload 4, 2) := by decide +kernel
theorem dX12_row_59 : decode cX12_row 59 = .ok (.bipush 60, 2) := by decide +kernel
theorem dX12_row_61 : decode cX12_row 61 = .ok (.iload_n 1, 1) := by decide +kernel
theorem dX12_row_62 : decode cX12_row 62 = .ok (.imul, 1) := by decide +kernel
theorem dX12_row_63 : decode cX12_row 63 = .ok (.bipush 60, 2) := by decide +kernel
theorem dX12_row_65 : decode cX12_row 65 = .ok (.iadd, 1) := by decide +kernel
theorem dX12_row_66 : decode cX12_row 66 = .ok (.if_icmp .ge 17, 3) := by decide +kernel
theorem dX12_row_69 : decode cX12_row 69 = .ok (.aload_n 0, 1) := by decide +kernel
theorem dX12_row_70 : decode cX12_row 70 = .ok (.getfield 80, 3) := by decide +kernel
theorem dX12_row_73 : decode cX12_row 73 = .ok (.iload 4, 2) := by decide +kernel
theorem dX12_row_75 : decode cX12_row 75 = .ok (.lconst 0, 1) := by decide +kernel
theorem dX12_row_76 : decode cX12_row 76 = .ok (.lastore, 1) := by decide +kernel
theorem dX12_row_77 : decode cX12_row 77 = .ok (.iinc 4 1, 3) := by decide +kernel
theorem dX12_row_80 : decode cX12_row 80 = .ok (.goto (-23), 3) := by decide +kernel
theorem dX12_row_83 : decode cX12_row 83 = .ok (.iconst 1, 1) := by decide +kernel
theorem dX12_row_84 : decode cX12_row 84 = .ok (.ireturn, 1) := by decide +kernel
theorem dX12_refusal_0 : decode cX12_refusal 0 = .ok (.iload_n 1, 1) := by decide +kernel
theorem dX12_refusal_1 : decode cX12_refusal 1 = .ok (.invokestatic 127, 3) := by decide +kernel
theorem dX12_refusal_4 : decode cX12_refusal 4 = .ok (.ifCond .ne 5, 3) := by decide +kernel
theorem dX12_refusal_7 : decode cX12_refusal 7 = .ok (.iconst (-1), 1) := by decide +kernel
theorem dX12_refusal_8 : decode cX12_refusal 8 = .ok (.ireturn, 1) := by decide +kernel
theorem dX12_refusal_9 : decode cX12_refusal 9 = .ok (.aload_n 0, 1) := by decide +kernel
theorem dX12_refusal_10 : decode cX12_refusal 10 = .ok (.getfield 74, 3) := by decide +kernel
theorem dX12_refusal_13 : decode cX12_refusal 13 = .ok (.iload_n 1, 1) := by decide +kernel
theorem dX12_refusal_14 : decode cX12_refusal 14 = .ok (.iaload, 1) := by decide +kernel
theorem dX12_refusal_15 : decode cX12_refusal 15 = .ok (.ifCond .ge 6, 3) := by decide +kernel
theorem dX12_refusal_18 : decode cX12_refusal 18 = .ok (.bipush (-11), 2) := by decide +kernel
theorem dX12_refusal_20 : decode cX12_refusal 20 = .ok (.ireturn, 1) := by decide +kernel
theorem dX12_refusal_21 : decode cX12_refusal 21 = .ok (.aload_n 0, 1) := by decide +kernel
theorem dX12_refusal_22 : decode cX12_refusal 22 = .ok (.getfield 74, 3) := by decide +kernel
theorem dX12_refusal_25 : decode cX12_refusal 25 = .ok (.iload_n 1, 1) := by decide +kernel
theorem dX12_refusal_26 : decode cX12_refusal 26 = .ok (.iaload, 1) := by decide +kernel
theorem dX12_refusal_27 : decode cX12_refusal 27 = .ok (.bipush 50, 2) := by decide +kernel
theorem dX12_refusal_29 : decode cX12_refusal 29 = .ok (.if_icmp .ge 6, 3) := by decide +kernel
theorem dX12_refusal_32 : decode cX12_refusal 32 = .ok (.bipush (-12), 2) := by decide +kernel
theorem dX12_refusal_34 : decode cX12_refusal 34 = .ok (.ireturn, 1) := by decide +kernel
theorem dX12_refusal_35 : decode cX12_refusal 35 = .ok (.iload_n 2, 1) := by decide +kernel
theorem dX12_refusal_36 : decode cX12_refusal 36 = .ok (.ifCond .lt 17, 3) := by decide +kernel
theorem dX12_refusal_39 : decode cX12_refusal 39 = .ok (.iload_n 2, 1) := by decide +kernel
theorem dX12_refusal_40 : decode cX12_refusal 40 = .ok (.aload_n 0, 1) := by decide +kernel
theorem dX12_refusal_41 : decode cX12_refusal 41 = .ok (.getfield 77, 3) := by decide +kernel
theorem dX12_refusal_44 : decode cX12_refusal 44 = .ok (.iload_n 1, 1) := by decide +kernel
theorem dX12_refusal_45 : decode cX12_refusal 45 = .ok (.iaload, 1) := by decide +kernel
theorem dX12_refusal_46 : decode cX12_refusal 46 = .ok (.if_icmp .ge 7, 3) := by decide +kernel
theorem dX12_refusal_49 : decode cX12_refusal 49 = .ok (.iconst 0, 1) := by decide +kernel
theorem dX12_refusal_50 : decode cX12_refusal 50 = .ok (.goto 5, 3) := by decide +kernel
theorem dX12_refusal_53 : decode cX12_refusal 53 = .ok (.bipush (-13), 2) := by decide +kernel
theorem dX12_refusal_55 : decode cX12_refusal 55 = .ok (.ireturn, 1) := by decide +kernel
theorem dX12_asSort_0 : decode cX12_asSort 0 = .ok (.iload_n 0, 1) := by decide +kernel
theorem dX12_asSort_1 : decode cX12_asSort 1 = .ok (.ifCond .ne 10, 3) := by decide +kernel
theorem dX12_asSort_4 : decode cX12_asSort 4 = .ok (.lload_n 1, 1) := by decide +kernel
theorem dX12_asSort_5 : decode cX12_asSort 5 = .ok (.l2i, 1) := by decide +kernel
theorem dX12_asSort_6 : decode cX12_asSort 6 = .ok (.i2b, 1) := by decide +kernel
theorem dX12_asSort_7 : decode cX12_asSort 7 = .ok (.i2l, 1) := by decide +kernel
theorem dX12_asSort_8 : decode cX12_asSort 8 = .ok (.goto 46, 3) := by decide +kernel
theorem dX12_asSort_11 : decode cX12_asSort 11 = .ok (.iload_n 0, 1) := by decide +kernel
theorem dX12_asSort_12 : decode cX12_asSort 12 = .ok (.iconst 1, 1) := by decide +kernel
theorem dX12_asSort_13 : decode cX12_asSort 13 = .ok (.if_icmp .ne 10, 3) := by decide +kernel
theorem dX12_asSort_16 : decode cX12_asSort 16 = .ok (.lload_n 1, 1) := by decide +kernel
theorem dX12_asSort_17 : decode cX12_asSort 17 = .ok (.l2i, 1) := by decide +kernel
theorem dX12_asSort_18 : decode cX12_asSort 18 = .ok (.i2s, 1) := by decide +kernel
theorem dX12_asSort_19 : decode cX12_asSort 19 = .ok (.i2l, 1) := by decide +kernel
theorem dX12_asSort_20 : decode cX12_asSort 20 = .ok (.goto 34, 3) := by decide +kernel
theorem dX12_asSort_23 : decode cX12_asSort 23 = .ok (.iload_n 0, 1) := by decide +kernel
theorem dX12_asSort_24 : decode cX12_asSort 24 = .ok (.iconst 2, 1) := by decide +kernel
theorem dX12_asSort_25 : decode cX12_asSort 25 = .ok (.if_icmp .ne 9, 3) := by decide +kernel
theorem dX12_asSort_28 : decode cX12_asSort 28 = .ok (.lload_n 1, 1) := by decide +kernel
theorem dX12_asSort_29 : decode cX12_asSort 29 = .ok (.l2i, 1) := by decide +kernel
theorem dX12_asSort_30 : decode cX12_asSort 30 = .ok (.i2l, 1) := by decide +kernel
theorem dX12_asSort_31 : decode cX12_asSort 31 = .ok (.goto 23, 3) := by decide +kernel
theorem dX12_asSort_34 : decode cX12_asSort 34 = .ok (.iload_n 0, 1) := by decide +kernel
theorem dX12_asSort_35 : decode cX12_asSort 35 = .ok (.iconst 4, 1) := by decide +kernel
theorem dX12_asSort_36 : decode cX12_asSort 36 = .ok (.if_icmp .ne 17, 3) := by decide +kernel
theorem dX12_asSort_39 : decode cX12_asSort 39 = .ok (.lload_n 1, 1) := by decide +kernel
theorem dX12_asSort_40 : decode cX12_asSort 40 = .ok (.lconst 0, 1) := by decide +kernel
theorem dX12_asSort_41 : decode cX12_asSort 41 = .ok (.lcmp, 1) := by decide +kernel
theorem dX12_asSort_42 : decode cX12_asSort 42 = .ok (.ifCond .eq 7, 3) := by decide +kernel
theorem dX12_asSort_45 : decode cX12_asSort 45 = .ok (.lconst 1, 1) := by decide +kernel
theorem dX12_asSort_46 : decode cX12_asSort 46 = .ok (.goto 8, 3) := by decide +kernel
theorem dX12_asSort_49 : decode cX12_asSort 49 = .ok (.lconst 0, 1) := by decide +kernel
theorem dX12_asSort_50 : decode cX12_asSort 50 = .ok (.goto 4, 3) := by decide +kernel
theorem dX12_asSort_53 : decode cX12_asSort 53 = .ok (.lload_n 1, 1) := by decide +kernel
theorem dX12_asSort_54 : decode cX12_asSort 54 = .ok (.lreturn, 1) := by decide +kernel
theorem dX12_put_0 : decode cX12_put 0 = .ok (.aload_n 0, 1) := by decide +kernel
theorem dX12_put_1 : decode cX12_put 1 = .ok (.iload_n 1, 1) := by decide +kernel
theorem dX12_put_2 : decode cX12_put 2 = .ok (.iload_n 2, 1) := by decide +kernel
theorem dX12_put_3 : decode cX12_put 3 = .ok (.invokevirtual 389, 3) := by decide +kernel
theorem dX12_put_6 : decode cX12_put 6 = .ok (.istore 5, 2) := by decide +kernel
theorem dX12_put_8 : decode cX12_put 8 = .ok (.iload 5, 2) := by decide +kernel
theorem dX12_put_10 : decode cX12_put 10 = .ok (.ifCond .ne 27, 3) := by decide +kernel
theorem dX12_put_13 : decode cX12_put 13 = .ok (.aload_n 0, 1) := by decide +kernel
theorem dX12_put_14 : decode cX12_put 14 = .ok (.getfield 80, 3) := by decide +kernel
theorem dX12_put_17 : decode cX12_put 17 = .ok (.bipush 60, 2) := by decide +kernel
theorem dX12_put_19 : decode cX12_put 19 = .ok (.iload_n 1, 1) := by decide +kernel
theorem dX12_put_20 : decode cX12_put 20 = .ok (.imul, 1) := by decide +kernel
theorem dX12_put_21 : decode cX12_put 21 = .ok (.iload_n 2, 1) := by decide +kernel
theorem dX12_put_22 : decode cX12_put 22 = .ok (.iadd, 1) := by decide +kernel
theorem dX12_put_23 : decode cX12_put 23 = .ok (.aload_n 0, 1) := by decide +kernel
theorem dX12_put_24 : decode cX12_put 24 = .ok (.getfield 74, 3) := by decide +kernel
theorem dX12_put_27 : decode cX12_put 27 = .ok (.iload_n 1, 1) := by decide +kernel
theorem dX12_put_28 : decode cX12_put 28 = .ok (.iaload, 1) := by decide +kernel
theorem dX12_put_29 : decode cX12_put 29 = .ok (.bipush 50, 2) := by decide +kernel
theorem dX12_put_31 : decode cX12_put 31 = .ok (.isub, 1) := by decide +kernel
theorem dX12_put_32 : decode cX12_put 32 = .ok (.lload_n 3, 1) := by decide +kernel
theorem dX12_put_33 : decode cX12_put 33 = .ok (.invokestatic 392, 3) := by decide +kernel
theorem dX12_put_36 : decode cX12_put 36 = .ok (.lastore, 1) := by decide +kernel
theorem dX12_put_37 : decode cX12_put 37 = .ok (.iload 5, 2) := by decide +kernel
theorem dX12_put_39 : decode cX12_put 39 = .ok (.ifCond .ne 7, 3) := by decide +kernel
theorem dX12_put_42 : decode cX12_put 42 = .ok (.iconst 1, 1) := by decide +kernel
theorem dX12_put_43 : decode cX12_put 43 = .ok (.goto 5, 3) := by decide +kernel
theorem dX12_put_46 : decode cX12_put 46 = .ok (.iload 5, 2) := by decide +kernel
theorem dX12_put_48 : decode cX12_put 48 = .ok (.ireturn, 1) := by decide +kernel
theorem dX12_element_0 : decode cX12_element 0 = .ok (.aload_n 0, 1) := by decide +kernel
theorem dX12_element_1 : decode cX12_element 1 = .ok (.iload_n 1, 1) := by decide +kernel
theorem dX12_element_2 : decode cX12_element 2 = .ok (.iload_n 2, 1) := by decide +kernel
theorem dX12_element_3 : decode cX12_element 3 = .ok (.invokevirtual 389, 3) := by decide +kernel
theorem dX12_element_6 : decode cX12_element 6 = .ok (.ifCond .eq 9, 3) := by decide +kernel
theorem dX12_element_9 : decode cX12_element 9 = .ok (.ldc2_w 398, 3) := by decide +kernel
theorem dX12_element_12 : decode cX12_element 12 = .ok (.goto 14, 3) := by decide +kernel
theorem dX12_element_15 : decode cX12_element 15 = .ok (.aload_n 0, 1) := by decide +kernel
theorem dX12_element_16 : decode cX12_element 16 = .ok (.getfield 80, 3) := by decide +kernel
theorem dX12_element_19 : decode cX12_element 19 = .ok (.bipush 60, 2) := by decide +kernel
theorem dX12_element_21 : decode cX12_element 21 = .ok (.iload_n 1, 1) := by decide +kernel
theorem dX12_element_22 : decode cX12_element 22 = .ok (.imul, 1) := by decide +kernel
theorem dX12_element_23 : decode cX12_element 23 = .ok (.iload_n 2, 1) := by decide +kernel
theorem dX12_element_24 : decode cX12_element 24 = .ok (.iadd, 1) := by decide +kernel
theorem dX12_element_25 : decode cX12_element 25 = .ok (.laload, 1) := by decide +kernel
theorem dX12_element_26 : decode cX12_element 26 = .ok (.lreturn, 1) := by decide +kernel
theorem dX12_shift_0 : decode cX12_shift 0 = .ok (.iload_n 1, 1) := by decide +kernel
theorem dX12_shift_1 : decode cX12_shift 1 = .ok (.invokestatic 127, 3) := by decide +kernel
theorem dX12_shift_4 : decode cX12_shift 4 = .ok (.ifCond .eq 10, 3) := by decide +kernel
theorem dX12_shift_7 : decode cX12_shift 7 = .ok (.iload_n 3, 1) := by decide +kernel
theorem dX12_shift_8 : decode cX12_shift 8 = .ok (.invokestatic 127, 3) := by decide +kernel
theorem dX12_shift_11 : decode cX12_shift 11 = .ok (.ifCond .ne 5, 3) := by decide +kernel
theorem dX12_shift_14 : decode cX12_shift 14 = .ok (.iconst (-1), 1) := by decide +kernel
theorem dX12_shift_15 : decode cX12_shift 15 = .ok (.ireturn, 1) := by decide +kernel
theorem dX12_shift_16 : decode cX12_shift 16 = .ok (.aload_n 0, 1) := by decide +kernel
theorem dX12_shift_17 : decode cX12_shift 17 = .ok (.getfield 74, 3) := by decide +kernel
theorem dX12_shift_20 : decode cX12_shift 20 = .ok (.iload_n 1, 1) := by decide +kernel
theorem dX12_shift_21 : decode cX12_shift 21 = .ok (.iaload, 1) := by decide +kernel
theorem dX12_shift_22 : decode cX12_shift 22 = .ok (.ifCond .lt 12, 3) := by decide +kernel
theorem dX12_shift_25 : decode cX12_shift 25 = .ok (.aload_n 0, 1) := by decide +kernel
theorem dX12_shift_26 : decode cX12_shift 26 = .ok (.getfield 74, 3) := by decide +kernel
theorem dX12_shift_29 : decode cX12_shift 29 = .ok (.iload_n 3, 1) := by decide +kernel
theorem dX12_shift_30 : decode cX12_shift 30 = .ok (.iaload, 1) := by decide +kernel
theorem dX12_shift_31 : decode cX12_shift 31 = .ok (.ifCond .ge 6, 3) := by decide +kernel
theorem dX12_shift_34 : decode cX12_shift 34 = .ok (.bipush (-11), 2) := by decide +kernel
theorem dX12_shift_36 : decode cX12_shift 36 = .ok (.ireturn, 1) := by decide +kernel
theorem dX12_shift_37 : decode cX12_shift 37 = .ok (.aload_n 0, 1) := by decide +kernel
theorem dX12_shift_38 : decode cX12_shift 38 = .ok (.getfield 74, 3) := by decide +kernel
theorem dX12_shift_41 : decode cX12_shift 41 = .ok (.iload_n 1, 1) := by decide +kernel
theorem dX12_shift_42 : decode cX12_shift 42 = .ok (.iaload, 1) := by decide +kernel
theorem dX12_shift_43 : decode cX12_shift 43 = .ok (.bipush 50, 2) := by decide +kernel
theorem dX12_shift_45 : decode cX12_shift 45 = .ok (.if_icmp .lt 18, 3) := by decide +kernel
theorem dX12_shift_48 : decode cX12_shift 48 = .ok (.aload_n 0, 1) := by decide +kernel
theorem dX12_shift_49 : decode cX12_shift 49 = .ok (.getfield 74, 3) := by decide +kernel
theorem dX12_shift_52 : decode cX12_shift 52 = .ok (.iload_n 1, 1) := by decide +kernel
theorem dX12_shift_53 : decode cX12_shift 53 = .ok (.iaload, 1) := by decide +kernel
theorem dX12_shift_54 : decode cX12_shift 54 = .ok (.aload_n 0, 1) := by decide +kernel
theorem dX12_shift_55 : decode cX12_shift 55 = .ok (.getfield 74, 3) := by decide +kernel
theorem dX12_shift_58 : decode cX12_shift 58 = .ok (.iload_n 3, 1) := by decide +kernel
theorem dX12_shift_59 : decode cX12_shift 59 = .ok (.iaload, 1) := by decide +kernel
theorem dX12_shift_60 : decode cX12_shift 60 = .ok (.if_icmp .eq 6, 3) := by decide +kernel
theorem dX12_shift_63 : decode cX12_shift 63 = .ok (.bipush (-12), 2) := by decide +kernel
theorem dX12_shift_65 : decode cX12_shift 65 = .ok (.ireturn, 1) := by decide +kernel
theorem dX12_shift_66 : decode cX12_shift 66 = .ok (.iload 5, 2) := by decide +kernel
theorem dX12_shift_68 : decode cX12_shift 68 = .ok (.ifCond .lt 39, 3) := by decide +kernel
theorem dX12_shift_71 : decode cX12_shift 71 = .ok (.iload_n 2, 1) := by decide +kernel
theorem dX12_shift_72 : decode cX12_shift 72 = .ok (.ifCond .lt 35, 3) := by decide +kernel
theorem dX12_shift_75 : decode cX12_shift 75 = .ok (.iload 4, 2) := by decide +kernel
theorem dX12_shift_77 : decode cX12_shift 77 = .ok (.ifCond .lt 30, 3) := by decide +kernel
theorem dX12_shift_80 : decode cX12_shift 80 = .ok (.iload_n 2, 1) := by decide +kernel
theorem dX12_shift_81 : decode cX12_shift 81 = .ok (.aload_n 0, 1) := by decide +kernel
theorem dX12_shift_82 : decode cX12_shift 82 = .ok (.getfield 77, 3) := by decide +kernel
theorem dX12_shift_85 : decode cX12_shift 85 = .ok (.iload_n 1, 1) := by decide +kernel
theorem dX12_shift_86 : decode cX12_shift 86 = .ok (.iaload, 1) := by decide +kernel
theorem dX12_shift_87 : decode cX12_shift 87 = .ok (.iload 5, 2) := by decide +kernel
theorem dX12_shift_89 : decode cX12_shift 89 = .ok (.isub, 1) := by decide +kernel
theorem dX12_shift_90 : decode cX12_shift 90 = .ok (.if_icmp .gt 17, 3) := by decide +kernel
theorem dX12_shift_93 : decode cX12_shift 93 = .ok (.iload 4, 2) := by decide +kernel
theorem dX12_shift_95 : decode cX12_shift 95 = .ok (.aload_n 0, 1) := by decide +kernel
theorem dX12_shift_96 : decode cX12_shift 96 = .ok (.getfield 77, 3) := by decide +kernel
theorem dX12_shift_99 : decode cX12_shift 99 = .ok (.iload_n 3, 1) := by decide +kernel
theorem dX12_shift_100 : decode cX12_shift 100 = .ok (.iaload, 1) := by decide +kernel
theorem dX12_shift_101 : decode cX12_shift 101 = .ok (.iload 5, 2) := by decide +kernel
theorem dX12_shift_103 : decode cX12_shift 103 = .ok (.isub, 1) := by decide +kernel
theorem dX12_shift_104 : decode cX12_shift 104 = .ok (.if_icmp .le 6, 3) := by decide +kernel
theorem dX12_shift_107 : decode cX12_shift 107 = .ok (.bipush (-13), 2) := by decide +kernel
theorem dX12_shift_109 : decode cX12_shift 109 = .ok (.ireturn, 1) := by decide +kernel
theorem dX12_shift_110 : decode cX12_shift 110 = .ok (.iconst 0, 1) := by decide +kernel
theorem dX12_shift_111 : decode cX12_shift 111 = .ok (.istore 6, 2) := by decide +kernel
theorem dX12_shift_113 : decode cX12_shift 113 = .ok (.iload 6, 2) := by decide +kernel
theorem dX12_shift_115 : decode cX12_shift 115 = .ok (.iload 5, 2) := by decide +kernel
theorem dX12_shift_117 : decode cX12_shift 117 = .ok (.if_icmp .ge 30, 3) := by decide +kernel
theorem dX12_shift_120 : decode cX12_shift 120 = .ok (.aload_n 0, 1) := by decide +kernel
theorem dX12_shift_121 : decode cX12_shift 121 = .ok (.getfield 84, 3) := by decide +kernel
theorem dX12_shift_124 : decode cX12_shift 124 = .ok (.iload 6, 2) := by decide +kernel
theorem dX12_shift_126 : decode cX12_shift 126 = .ok (.aload_n 0, 1) := by decide +kernel
theorem dX12_shift_127 : decode cX12_shift 127 = .ok (.getfield 80, 3) := by decide +kernel
theorem dX12_shift_130 : decode cX12_shift 130 = .ok (.bipush 60, 2) := by decide +kernel
theorem dX12_shift_132 : decode cX12_shift 132 = .ok (.iload_n 1, 1) := by decide +kernel
theorem dX12_shift_133 : decode cX12_shift 133 = .ok (.imul, 1) := by decide +kernel
theorem dX12_shift_134 : decode cX12_shift 134 = .ok (.iload_n 2, 1) := by decide +kernel
theorem dX12_shift_135 : decode cX12_shift 135 = .ok (.iadd, 1) := by decide +kernel
theorem dX12_shift_136 : decode cX12_shift 136 = .ok (.iload 6, 2) := by decide +kernel
theorem dX12_shift_138 : decode cX12_shift 138 = .ok (.iadd, 1) := by decide +kernel
theorem dX12_shift_139 : decode cX12_shift 139 = .ok (.laload, 1) := by decide +kernel
theorem dX12_shift_140 : decode cX12_shift 140 = .ok (.lastore, 1) := by decide +kernel
theorem dX12_shift_141 : decode cX12_shift 141 = .ok (.iinc 6 1, 3) := by decide +kernel
theorem dX12_shift_144 : decode cX12_shift 144 = .ok (.goto (-31), 3) := by decide +kernel
theorem dX12_shift_147 : decode cX12_shift 147 = .ok (.iconst 0, 1) := by decide +kernel
theorem dX12_shift_148 : decode cX12_shift 148 = .ok (.istore 6, 2) := by decide +kernel
theorem dX12_shift_150 : decode cX12_shift 150 = .ok (.iload 6, 2) := by decide +kernel
theorem dX12_shift_152 : decode cX12_shift 152 = .ok (.iload 5, 2) := by decide +kernel
theorem dX12_shift_154 : decode cX12_shift 154 = .ok (.if_icmp .ge 31, 3) := by decide +kernel
theorem dX12_shift_157 : decode cX12_shift 157 = .ok (.aload_n 0, 1) := by decide +kernel
theorem dX12_shift_158 : decode cX12_shift 158 = .ok (.getfield 80, 3) := by decide +kernel
theorem dX12_shift_161 : decode cX12_shift 161 = .ok (.bipush 60, 2) := by decide +kernel
theorem dX12_shift_163 : decode cX12_shift 163 = .ok (.iload_n 3, 1) := by decide +kernel
theorem dX12_shift_164 : decode cX12_shift 164 = .ok (.imul, 1) := by decide +kernel
theorem dX12_shift_165 : decode cX12_shift 165 = .ok (.iload 4, 2) := by decide +kernel
theorem dX12_shift_167 : decode cX12_shift 167 = .ok (.iadd, 1) := by decide +kernel
theorem dX12_shift_168 : decode cX12_shift 168 = .ok (.iload 6, 2) := by decide +kernel
theorem dX12_shift_170 : decode cX12_shift 170 = .ok (.iadd, 1) := by decide +kernel
theorem dX12_shift_171 : decode cX12_shift 171 = .ok (.aload_n 0, 1) := by decide +kernel
theorem dX12_shift_172 : decode cX12_shift 172 = .ok (.getfield 84, 3) := by decide +kernel
theorem dX12_shift_175 : decode cX12_shift 175 = .ok (.iload 6, 2) := by decide +kernel
theorem dX12_shift_177 : decode cX12_shift 177 = .ok (.laload, 1) := by decide +kernel
theorem dX12_shift_178 : decode cX12_shift 178 = .ok (.lastore, 1) := by decide +kernel
theorem dX12_shift_179 : decode cX12_shift 179 = .ok (.iinc 6 1, 3) := by decide +kernel
theorem dX12_shift_182 : decode cX12_shift 182 = .ok (.goto (-32), 3) := by decide +kernel
theorem dX12_shift_185 : decode cX12_shift 185 = .ok (.iload 5, 2) := by decide +kernel
theorem dX12_shift_187 : decode cX12_shift 187 = .ok (.ireturn, 1) := by decide +kernel
theorem dX12_taken_0 : decode cX12_taken 0 = .ok (.iload_n 1, 1) := by decide +kernel
theorem dX12_taken_1 : decode cX12_taken 1 = .ok (.invokestatic 127, 3) := by decide +kernel
theorem dX12_taken_4 : decode cX12_taken 4 = .ok (.ifCond .eq 15, 3) := by decide +kernel
theorem dX12_taken_7 : decode cX12_taken 7 = .ok (.iload_n 2, 1) := by decide +kernel
theorem dX12_taken_8 : decode cX12_taken 8 = .ok (.i2l, 1) := by decide +kernel
theorem dX12_taken_9 : decode cX12_taken 9 = .ok (.lconst 0, 1) := by decide +kernel
theorem dX12_taken_10 : decode cX12_taken 10 = .ok (.ldc2_w 133, 3) := by decide +kernel
theorem dX12_taken_13 : decode cX12_taken 13 = .ok (.invokestatic 109, 3) := by decide +kernel
theorem dX12_taken_16 : decode cX12_taken 16 = .ok (.ifCond .ne 5, 3) := by decide +kernel
theorem dX12_taken_19 : decode cX12_taken 19 = .ok (.iconst (-1), 1) := by decide +kernel
theorem dX12_taken_20 : decode cX12_taken 20 = .ok (.ireturn, 1) := by decide +kernel
theorem dX12_taken_21 : decode cX12_taken 21 = .ok (.aload_n 0, 1) := by decide +kernel
theorem dX12_taken_22 : decode cX12_taken 22 = .ok (.getfield 74, 3) := by decide +kernel
theorem dX12_taken_25 : decode cX12_taken 25 = .ok (.iload_n 1, 1) := by decide +kernel
theorem dX12_taken_26 : decode cX12_taken 26 = .ok (.iaload, 1) := by decide +kernel
theorem dX12_taken_27 : decode cX12_taken 27 = .ok (.ifCond .ge 6, 3) := by decide +kernel
theorem dX12_taken_30 : decode cX12_taken 30 = .ok (.bipush (-11), 2) := by decide +kernel
theorem dX12_taken_32 : decode cX12_taken 32 = .ok (.ireturn, 1) := by decide +kernel
theorem dX12_taken_33 : decode cX12_taken 33 = .ok (.aload_n 0, 1) := by decide +kernel
theorem dX12_taken_34 : decode cX12_taken 34 = .ok (.getfield 74, 3) := by decide +kernel
theorem dX12_taken_37 : decode cX12_taken 37 = .ok (.iload_n 1, 1) := by decide +kernel
theorem dX12_taken_38 : decode cX12_taken 38 = .ok (.iaload, 1) := by decide +kernel
theorem dX12_taken_39 : decode cX12_taken 39 = .ok (.bipush 50, 2) := by decide +kernel
theorem dX12_taken_41 : decode cX12_taken 41 = .ok (.if_icmp .lt 6, 3) := by decide +kernel
theorem dX12_taken_44 : decode cX12_taken 44 = .ok (.bipush (-12), 2) := by decide +kernel
theorem dX12_taken_46 : decode cX12_taken 46 = .ok (.ireturn, 1) := by decide +kernel
theorem dX12_taken_47 : decode cX12_taken 47 = .ok (.aload_n 0, 1) := by decide +kernel
theorem dX12_taken_48 : decode cX12_taken 48 = .ok (.aload_n 0, 1) := by decide +kernel
theorem dX12_taken_49 : decode cX12_taken 49 = .ok (.getfield 74, 3) := by decide +kernel
theorem dX12_taken_52 : decode cX12_taken 52 = .ok (.iload_n 1, 1) := by decide +kernel
theorem dX12_taken_53 : decode cX12_taken 53 = .ok (.iaload, 1) := by decide +kernel
theorem dX12_taken_54 : decode cX12_taken 54 = .ok (.invokevirtual 400, 3) := by decide +kernel
theorem dX12_taken_57 : decode cX12_taken 57 = .ok (.istore_n 3, 1) := by decide +kernel
theorem dX12_taken_58 : decode cX12_taken 58 = .ok (.iload_n 3, 1) := by decide +kernel
theorem dX12_taken_59 : decode cX12_taken 59 = .ok (.iload_n 2, 1) := by decide +kernel
theorem dX12_taken_60 : decode cX12_taken 60 = .ok (.if_icmp .eq 15, 3) := by decide +kernel
theorem dX12_taken_63 : decode cX12_taken 63 = .ok (.iload_n 3, 1) := by decide +kernel
theorem dX12_taken_64 : decode cX12_taken 64 = .ok (.ifCond .le 11, 3) := by decide +kernel
theorem dX12_taken_67 : decode cX12_taken 67 = .ok (.iload_n 3, 1) := by decide +kernel
theorem dX12_taken_68 : decode cX12_taken 68 = .ok (.invokestatic 403, 3) := by decide +kernel
theorem dX12_taken_71 : decode cX12_taken 71 = .ok (.istore_n 3, 1) := by decide +kernel
theorem dX12_taken_72 : decode cX12_taken 72 = .ok (.goto (-14), 3) := by decide +kernel
theorem dX12_taken_75 : decode cX12_taken 75 = .ok (.iload_n 3, 1) := by decide +kernel
theorem dX12_taken_76 : decode cX12_taken 76 = .ok (.iload_n 2, 1) := by decide +kernel
theorem dX12_taken_77 : decode cX12_taken 77 = .ok (.if_icmp .ne 16, 3) := by decide +kernel
theorem dX12_taken_80 : decode cX12_taken 80 = .ok (.aload_n 0, 1) := by decide +kernel
theorem dX12_taken_81 : decode cX12_taken 81 = .ok (.aload_n 0, 1) := by decide +kernel
theorem dX12_taken_82 : decode cX12_taken 82 = .ok (.getfield 74, 3) := by decide +kernel
theorem dX12_taken_85 : decode cX12_taken 85 = .ok (.iload_n 1, 1) := by decide +kernel
theorem dX12_taken_86 : decode cX12_taken 86 = .ok (.iaload, 1) := by decide +kernel
theorem dX12_taken_87 : decode cX12_taken 87 = .ok (.invokevirtual 400, 3) := by decide +kernel
theorem dX12_taken_90 : decode cX12_taken 90 = .ok (.goto 5, 3) := by decide +kernel
theorem dX12_taken_93 : decode cX12_taken 93 = .ok (.bipush (-12), 2) := by decide +kernel
theorem dX12_taken_95 : decode cX12_taken 95 = .ok (.ireturn, 1) := by decide +kernel
theorem dX12_count_0 : decode cX12_count 0 = .ok (.iload_n 1, 1) := by decide +kernel
theorem dX12_count_1 : decode cX12_count 1 = .ok (.tableswitch 60 0 4 #[35, 40, 45, 50, 55], 35) := by decide +kernel
theorem dX12_count_36 : decode cX12_count 36 = .ok (.aload_n 0, 1) := by decide +kernel
theorem dX12_count_37 : decode cX12_count 37 = .ok (.getfield 106, 3) := by decide +kernel
theorem dX12_count_40 : decode cX12_count 40 = .ok (.ireturn, 1) := by decide +kernel
theorem dX12_count_41 : decode cX12_count 41 = .ok (.aload_n 0, 1) := by decide +kernel
theorem dX12_count_42 : decode cX12_count 42 = .ok (.getfield 156, 3) := by decide +kernel
theorem dX12_count_45 : decode cX12_count 45 = .ok (.ireturn, 1) := by decide +kernel
theorem dX12_count_46 : decode cX12_count 46 = .ok (.aload_n 0, 1) := by decide +kernel
theorem dX12_count_47 : decode cX12_count 47 = .ok (.getfield 100, 3) := by decide +kernel
theorem dX12_count_50 : decode cX12_count 50 = .ok (.ireturn, 1) := by decide +kernel
theorem dX12_count_51 : decode cX12_count 51 = .ok (.aload_n 0, 1) := by decide +kernel
theorem dX12_count_52 : decode cX12_count 52 = .ok (.getfield 355, 3) := by decide +kernel
theorem dX12_count_55 : decode cX12_count 55 = .ok (.ireturn, 1) := by decide +kernel
theorem dX12_count_56 : decode cX12_count 56 = .ok (.aload_n 0, 1) := by decide +kernel
theorem dX12_count_57 : decode cX12_count 57 = .ok (.getfield 358, 3) := by decide +kernel
theorem dX12_count_60 : decode cX12_count 60 = .ok (.ireturn, 1) := by decide +kernel
theorem dX12_count_61 : decode cX12_count 61 = .ok (.iconst (-1), 1) := by decide +kernel
theorem dX12_count_62 : decode cX12_count 62 = .ok (.ireturn, 1) := by decide +kernel
theorem dJ6_bitCount_0f7a4_0 : decode cJ6_bitCount_0f7a4 0 = .ok (.iload_n 0, 1) := by decide +kernel
theorem dJ6_bitCount_0f7a4_1 : decode cJ6_bitCount_0f7a4 1 = .ok (.iload_n 0, 1) := by decide +kernel
theorem dJ6_bitCount_0f7a4_2 : decode cJ6_bitCount_0f7a4 2 = .ok (.iconst 1, 1) := by decide +kernel
theorem dJ6_bitCount_0f7a4_3 : decode cJ6_bitCount_0f7a4 3 = .ok (.iushr, 1) := by decide +kernel
theorem dJ6_bitCount_0f7a4_4 : decode cJ6_bitCount_0f7a4 4 = .ok (.ldc_w 265, 3) := by decide +kernel
theorem dJ6_bitCount_0f7a4_7 : decode cJ6_bitCount_0f7a4 7 = .ok (.iand, 1) := by decide +kernel
theorem dJ6_bitCount_0f7a4_8 : decode cJ6_bitCount_0f7a4 8 = .ok (.isub, 1) := by decide +kernel
theorem dJ6_bitCount_0f7a4_9 : decode cJ6_bitCount_0f7a4 9 = .ok (.istore_n 0, 1) := by decide +kernel
theorem dJ6_bitCount_0f7a4_10 : decode cJ6_bitCount_0f7a4 10 = .ok (.iload_n 0, 1) := by decide +kernel
theorem dJ6_bitCount_0f7a4_11 : decode cJ6_bitCount_0f7a4 11 = .ok (.ldc_w 266, 3) := by decide +kernel
theorem dJ6_bitCount_0f7a4_14 : decode cJ6_bitCount_0f7a4 14 = .ok (.iand, 1) := by decide +kernel
theorem dJ6_bitCount_0f7a4_15 : decode cJ6_bitCount_0f7a4 15 = .ok (.iload_n 0, 1) := by decide +kernel
theorem dJ6_bitCount_0f7a4_16 : decode cJ6_bitCount_0f7a4 16 = .ok (.iconst 2, 1) := by decide +kernel
theorem dJ6_bitCount_0f7a4_17 : decode cJ6_bitCount_0f7a4 17 = .ok (.iushr, 1) := by decide +kernel
theorem dJ6_bitCount_0f7a4_18 : decode cJ6_bitCount_0f7a4 18 = .ok (.ldc_w 266, 3) := by decide +kernel
theorem dJ6_bitCount_0f7a4_21 : decode cJ6_bitCount_0f7a4 21 = .ok (.iand, 1) := by decide +kernel
theorem dJ6_bitCount_0f7a4_22 : decode cJ6_bitCount_0f7a4 22 = .ok (.iadd, 1) := by decide +kernel
theorem dJ6_bitCount_0f7a4_23 : decode cJ6_bitCount_0f7a4 23 = .ok (.istore_n 0, 1) := by decide +kernel
theorem dJ6_bitCount_0f7a4_24 : decode cJ6_bitCount_0f7a4 24 = .ok (.iload_n 0, 1) := by decide +kernel
theorem dJ6_bitCount_0f7a4_25 : decode cJ6_bitCount_0f7a4 25 = .ok (.iload_n 0, 1) := by decide +kernel
theorem dJ6_bitCount_0f7a4_26 : decode cJ6_bitCount_0f7a4 26 = .ok (.iconst 4, 1) := by decide +kernel
theorem dJ6_bitCount_0f7a4_27 : decode cJ6_bitCount_0f7a4 27 = .ok (.iushr, 1) := by decide +kernel
theorem dJ6_bitCount_0f7a4_28 : decode cJ6_bitCount_0f7a4 28 = .ok (.iadd, 1) := by decide +kernel
theorem dJ6_bitCount_0f7a4_29 : decode cJ6_bitCount_0f7a4 29 = .ok (.ldc_w 267, 3) := by decide +kernel
theorem dJ6_bitCount_0f7a4_32 : decode cJ6_bitCount_0f7a4 32 = .ok (.iand, 1) := by decide +kernel
theorem dJ6_bitCount_0f7a4_33 : decode cJ6_bitCount_0f7a4 33 = .ok (.istore_n 0, 1) := by decide +kernel
theorem dJ6_bitCount_0f7a4_34 : decode cJ6_bitCount_0f7a4 34 = .ok (.iload_n 0, 1) := by decide +kernel
theorem dJ6_bitCount_0f7a4_35 : decode cJ6_bitCount_0f7a4 35 = .ok (.iload_n 0, 1) := by decide +kernel
theorem dJ6_bitCount_0f7a4_36 : decode cJ6_bitCount_0f7a4 36 = .ok (.bipush 8, 2) := by decide +kernel
theorem dJ6_bitCount_0f7a4_38 : decode cJ6_bitCount_0f7a4 38 = .ok (.iushr, 1) := by decide +kernel
theorem dJ6_bitCount_0f7a4_39 : decode cJ6_bitCount_0f7a4 39 = .ok (.iadd, 1) := by decide +kernel
theorem dJ6_bitCount_0f7a4_40 : decode cJ6_bitCount_0f7a4 40 = .ok (.istore_n 0, 1) := by decide +kernel
theorem dJ6_bitCount_0f7a4_41 : decode cJ6_bitCount_0f7a4 41 = .ok (.iload_n 0, 1) := by decide +kernel
theorem dJ6_bitCount_0f7a4_42 : decode cJ6_bitCount_0f7a4 42 = .ok (.iload_n 0, 1) := by decide +kernel
theorem dJ6_bitCount_0f7a4_43 : decode cJ6_bitCount_0f7a4 43 = .ok (.bipush 16, 2) := by decide +kernel
theorem dJ6_bitCount_0f7a4_45 : decode cJ6_bitCount_0f7a4 45 = .ok (.iushr, 1) := by decide +kernel
theorem dJ6_bitCount_0f7a4_46 : decode cJ6_bitCount_0f7a4 46 = .ok (.iadd, 1) := by decide +kernel
theorem dJ6_bitCount_0f7a4_47 : decode cJ6_bitCount_0f7a4 47 = .ok (.istore_n 0, 1) := by decide +kernel
theorem dJ6_bitCount_0f7a4_48 : decode cJ6_bitCount_0f7a4 48 = .ok (.iload_n 0, 1) := by decide +kernel
theorem dJ6_bitCount_0f7a4_49 : decode cJ6_bitCount_0f7a4 49 = .ok (.bipush 63, 2) := by decide +kernel
theorem dJ6_bitCount_0f7a4_51 : decode cJ6_bitCount_0f7a4 51 = .ok (.iand, 1) := by decide +kernel
theorem dJ6_bitCount_0f7a4_52 : decode cJ6_bitCount_0f7a4 52 = .ok (.ireturn, 1) := by decide +kernel
abbrev vwCl : List vw_C := [(RX0, TX0, 5), (RX1, TX1, 5), (RX2, TX2, 6), (RX3, TX3, 6), (RX4, TX4, 11), (RX5, TX5, 10), (RX6, TX6, 3), (RX7, TX7, 4), (RX8, TX8, 13), (RX9, TX9, 3), (RX10, TX10, 4), (RX11, TX11, 10), (RX12, TX12, 55)]
