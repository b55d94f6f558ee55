/-! names of the classes' methods that are walked, out of the printed names -/
theorem goodIn_r {big : List Cond} (ws : List Cond) (ps : List Nat) (hp : ws = ps.filterMap (fun i => big[i]?)) (h : ws.all goodWord = true) : GoodIn big ws := by
  intro w hw
  have h1 := List.all_eq_true.mp h w hw
  rw [hp] at hw
  obtain ⟨i, -, hi⟩ := List.mem_filterMap.mp hw
  have hm : w ∈ big := by first | exact List.mem_of_getElem? hi | exact List.getElem?_mem hi
  exact ⟨hm, good_of_word h1⟩
theorem goodIn_app {big a b : List Cond} (ha : GoodIn big a) (hb : GoodIn big b) : GoodIn big (a ++ b) := fun w h => (List.mem_append.mp h).elim (ha w) (hb w)
def RX0 : String := "SetAgain$Chair"
def TX0 : u_T := fun k => match k with
  | 0 => ("SetAgain$Chair", "told", "[I", true)
  | 1 => ("SetAgain$Chair", "stands", "[I", true)
  | 2 => ("SetAgain$Chair", "law", "LSetAgain$Law;", true)
  | 3 => ("SetAgain$Chair", "sitters", "I", false)
  | _ => ("SetAgain$Chair", "lost", "[I", true)
def tyX0 : Nat → FieldType := fun k => match k with
  | 0 => .array .int
  | 1 => .array .int
  | 2 => .object "SetAgain$Law"
  | 3 => .int
  | _ => .array .int
abbrev wsX00 : List Cond := u_ws RX0 TX0 5
theorem nmX0 : ∀ a, a < 5 → ∀ b, b < 5 → a ≠ b → (TX0 a).2.1 ≠ (TX0 b).2.1 := by decide +kernel
theorem tyX0_ok : ∀ k, k < 5 → parseFieldDescriptor (TX0 k).2.2.1 = some (tyX0 k) := by decide +kernel
abbrev cX0_init : ByteArray := prog_2_method_1_code
def yX0_init : MethodName := ⟨RX0, "<init>", "()V"⟩
abbrev cX0_has : ByteArray := prog_2_method_2_code
def yX0_has : MethodName := ⟨RX0, "has", "(I)Z"⟩
abbrev cX0_placeOf : ByteArray := prog_2_method_3_code
def yX0_placeOf : MethodName := ⟨RX0, "placeOf", "(II)I"⟩
abbrev cX0_comes : ByteArray := prog_2_method_4_code
def yX0_comes : MethodName := ⟨RX0, "comes", "(IIII)I"⟩
abbrev cX0_becomes : ByteArray := prog_2_method_5_code
def yX0_becomes : MethodName := ⟨RX0, "becomes", "(II)V"⟩
abbrev cX0_numberOf : ByteArray := prog_2_method_6_code
def yX0_numberOf : MethodName := ⟨RX0, "numberOf", "(II)I"⟩
abbrev cX0_priceOf : ByteArray := prog_2_method_7_code
def yX0_priceOf : MethodName := ⟨RX0, "priceOf", "(I)I"⟩
abbrev cX0_fetch : ByteArray := prog_2_method_8_code
def yX0_fetch : MethodName := ⟨RX0, "fetch", "()I"⟩
abbrev cX0_slipped : ByteArray := prog_2_method_9_code
def yX0_slipped : MethodName := ⟨RX0, "slipped", "(II)I"⟩
abbrev cX0_turned : ByteArray := prog_2_method_10_code
def yX0_turned : MethodName := ⟨RX0, "turned", "(IIII)I"⟩
abbrev cX0_lossAt : ByteArray := prog_2_method_11_code
def yX0_lossAt : MethodName := ⟨RX0, "lossAt", "(III)I"⟩
abbrev cX0_forgetAll : ByteArray := prog_2_method_12_code
def yX0_forgetAll : MethodName := ⟨RX0, "forgetAll", "()V"⟩
abbrev cX0_forget : ByteArray := prog_2_method_13_code
def yX0_forget : MethodName := ⟨RX0, "forget", "(I)V"⟩
def RX1 : String := "SetAgain$Changes"
def TX1 : u_T := fun k => match k with
  | 0 => ("SetAgain$Changes", "places", "[I", true)
  | 1 => ("SetAgain$Changes", "before", "[I", true)
  | 2 => ("SetAgain$Changes", "after", "[I", true)
  | 3 => ("SetAgain$Changes", "done", "I", false)
  | _ => ("SetAgain$Changes", "kept", "I", false)
def tyX1 : Nat → FieldType := fun k => match k with
  | 0 => .array .int
  | 1 => .array .int
  | 2 => .array .int
  | 3 => .int
  | _ => .int
abbrev wsX10 : List Cond := u_ws RX1 TX1 5
theorem nmX1 : ∀ a, a < 5 → ∀ b, b < 5 → a ≠ b → (TX1 a).2.1 ≠ (TX1 b).2.1 := by decide +kernel
theorem tyX1_ok : ∀ k, k < 5 → parseFieldDescriptor (TX1 k).2.2.1 = some (tyX1 k) := by decide +kernel
abbrev cX1_init : ByteArray := prog_3_method_1_code
def yX1_init : MethodName := ⟨RX1, "<init>", "()V"⟩
abbrev cX1_comes : ByteArray := prog_3_method_2_code
def yX1_comes : MethodName := ⟨RX1, "comes", "(III)V"⟩
abbrev cX1_dropOldest : ByteArray := prog_3_method_3_code
def yX1_dropOldest : MethodName := ⟨RX1, "dropOldest", "()V"⟩
def RX2 : String := "SetAgain$Deed"
def TX2 : u_T := fun k => match k with
  | 0 => ("SetAgain$Deed", "chair", "LSetAgain$Chair;", true)
  | 1 => ("SetAgain$Deed", "habits", "LSetAgain$Habits;", true)
  | 2 => ("SetAgain$Deed", "told", "[I", true)
  | 3 => ("SetAgain$Deed", "keptTold", "[I", true)
  | 4 => ("SetAgain$Deed", "keptStands", "[I", true)
  | _ => ("SetAgain$Deed", "kept", "Z", false)
def tyX2 : Nat → FieldType := fun k => match k with
  | 0 => .object "SetAgain$Chair"
  | 1 => .object "SetAgain$Habits"
  | 2 => .array .int
  | 3 => .array .int
  | 4 => .array .int
  | _ => .boolean
abbrev wsX20 : List Cond := u_ws RX2 TX2 6
theorem nmX2 : ∀ a, a < 6 → ∀ b, b < 6 → a ≠ b → (TX2 a).2.1 ≠ (TX2 b).2.1 := by decide +kernel
theorem tyX2_ok : ∀ k, k < 6 → parseFieldDescriptor (TX2 k).2.2.1 = some (tyX2 k) := by decide +kernel
abbrev cX2_init : ByteArray := prog_4_method_1_code
def yX2_init : MethodName := ⟨RX2, "<init>", "(LSetAgain$Chair;LSetAgain$Habits;)V"⟩
abbrev cX2_comes : ByteArray := prog_4_method_2_code
def yX2_comes : MethodName := ⟨RX2, "comes", "(I)I"⟩
abbrev cX2_turns : ByteArray := prog_4_method_3_code
def yX2_turns : MethodName := ⟨RX2, "turns", "(II)I"⟩
abbrev cX2_allSlip : ByteArray := prog_4_method_4_code
def yX2_allSlip : MethodName := ⟨RX2, "allSlip", "()I"⟩
abbrev cX2_keepImage : ByteArray := prog_4_method_5_code
def yX2_keepImage : MethodName := ⟨RX2, "keepImage", "()I"⟩
abbrev cX2_layBack : ByteArray := prog_4_method_6_code
def yX2_layBack : MethodName := ⟨RX2, "layBack", "()I"⟩
def RX3 : String := "SetAgain$Desks"
def TX3 : u_T := fun k => match k with
  | 0 => ("SetAgain$Desks", "kinds", "[I", true)
  | 1 => ("SetAgain$Desks", "trace", "[I", true)
  | 2 => ("SetAgain$Desks", "kept", "I", false)
  | 3 => ("SetAgain$Desks", "ran", "I", false)
  | 4 => ("SetAgain$Desks", "kind", "I", false)
  | _ => ("SetAgain$Desks", "number", "I", false)
def tyX3 : Nat → FieldType := fun k => match k with
  | 0 => .array .int
  | 1 => .array .int
  | 2 => .int
  | 3 => .int
  | 4 => .int
  | _ => .int
abbrev wsX30 : List Cond := u_ws RX3 TX3 6
theorem nmX3 : ∀ a, a < 6 → ∀ b, b < 6 → a ≠ b → (TX3 a).2.1 ≠ (TX3 b).2.1 := by decide +kernel
theorem tyX3_ok : ∀ k, k < 6 → parseFieldDescriptor (TX3 k).2.2.1 = some (tyX3 k) := by decide +kernel
abbrev cX3_init : ByteArray := prog_5_method_1_code
def yX3_init : MethodName := ⟨RX3, "<init>", "()V"⟩
abbrev cX3_comes : ByteArray := prog_5_method_2_code
def yX3_comes : MethodName := ⟨RX3, "comes", "(I)I"⟩
abbrev cX3_takenFor : ByteArray := prog_5_method_3_code
def yX3_takenFor : MethodName := ⟨RX3, "takenFor", "(II)I"⟩
abbrev cX3_acts : ByteArray := prog_5_method_4_code
def yX3_acts : MethodName := ⟨RX3, "acts", "(III)I"⟩
abbrev cX3_does : ByteArray := prog_5_method_5_code
def yX3_does : MethodName := ⟨RX3, "does", "(IIII)I"⟩
abbrev cX3_ownerOf : ByteArray := prog_5_method_6_code
def yX3_ownerOf : MethodName := ⟨RX3, "ownerOf", "(II)I"⟩
abbrev cX3_runs : ByteArray := prog_5_method_7_code
def yX3_runs : MethodName := ⟨RX3, "runs", "(IIII)I"⟩
def RX4 : String := "SetAgain$Habits"
def TX4 : u_T := fun k => match k with
  | 0 => ("SetAgain$Habits", "chair", "LSetAgain$Chair;", true)
  | 1 => ("SetAgain$Habits", "week", "LSetAgain$Week;", true)
  | 2 => ("SetAgain$Habits", "stand", "[I", true)
  | 3 => ("SetAgain$Habits", "turns", "[I", true)
  | 4 => ("SetAgain$Habits", "spared", "[I", true)
  | 5 => ("SetAgain$Habits", "losses", "I", false)
  | 6 => ("SetAgain$Habits", "costs", "I", false)
  | 7 => ("SetAgain$Habits", "tried", "I", false)
  | 8 => ("SetAgain$Habits", "triedNear", "I", false)
  | 9 => ("SetAgain$Habits", "leaver", "I", false)
  | _ => ("SetAgain$Habits", "left", "I", false)
def tyX4 : Nat → FieldType := fun k => match k with
  | 0 => .object "SetAgain$Chair"
  | 1 => .object "SetAgain$Week"
  | 2 => .array .int
  | 3 => .array .int
  | 4 => .array .int
  | 5 => .int
  | 6 => .int
  | 7 => .int
  | 8 => .int
  | 9 => .int
  | _ => .int
abbrev wsX40 : List Cond := u_ws RX4 TX4 11
theorem nmX4 : ∀ a, a < 11 → ∀ b, b < 11 → a ≠ b → (TX4 a).2.1 ≠ (TX4 b).2.1 := by decide +kernel
theorem tyX4_ok : ∀ k, k < 11 → parseFieldDescriptor (TX4 k).2.2.1 = some (tyX4 k) := by decide +kernel
abbrev cX4_init : ByteArray := prog_6_method_1_code
def yX4_init : MethodName := ⟨RX4, "<init>", "(LSetAgain$Chair;LSetAgain$Week;)V"⟩
abbrev cX4_begin : ByteArray := prog_6_method_2_code
def yX4_begin : MethodName := ⟨RX4, "begin", "()V"⟩
abbrev cX4_standAsNow : ByteArray := prog_6_method_3_code
def yX4_standAsNow : MethodName := ⟨RX4, "standAsNow", "()V"⟩
abbrev cX4_live : ByteArray := prog_6_method_4_code
def yX4_live : MethodName := ⟨RX4, "live", "(I)V"⟩
abbrev cX4_pass : ByteArray := prog_6_method_5_code
def yX4_pass : MethodName := ⟨RX4, "pass", "(I)V"⟩
abbrev cX4_comes : ByteArray := prog_6_method_6_code
def yX4_comes : MethodName := ⟨RX4, "comes", "(I)V"⟩
abbrev cX4_leaves : ByteArray := prog_6_method_7_code
def yX4_leaves : MethodName := ⟨RX4, "leaves", "()V"⟩
abbrev cX4_turnTo : ByteArray := prog_6_method_8_code
def yX4_turnTo : MethodName := ⟨RX4, "turnTo", "(II)I"⟩
abbrev cX4_slip : ByteArray := prog_6_method_9_code
def yX4_slip : MethodName := ⟨RX4, "slip", "()V"⟩
abbrev cX4_allTurns : ByteArray := prog_6_method_10_code
def yX4_allTurns : MethodName := ⟨RX4, "allTurns", "()I"⟩
abbrev cX4_bestNear : ByteArray := prog_6_method_11_code
def yX4_bestNear : MethodName := ⟨RX4, "bestNear", "(II)I"⟩
abbrev cX4_bestMemories : ByteArray := prog_6_method_12_code
def yX4_bestMemories : MethodName := ⟨RX4, "bestMemories", "(II)I"⟩
abbrev cX4_sparedBy : ByteArray := prog_6_method_13_code
def yX4_sparedBy : MethodName := ⟨RX4, "sparedBy", "(I)I"⟩
abbrev cX4_savedByMarks : ByteArray := prog_6_method_14_code
def yX4_savedByMarks : MethodName := ⟨RX4, "savedByMarks", "()I"⟩
abbrev cX4_moreByWilful : ByteArray := prog_6_method_15_code
def yX4_moreByWilful : MethodName := ⟨RX4, "moreByWilful", "(II)I"⟩
abbrev cX4_drawWeeks : ByteArray := prog_6_method_16_code
def yX4_drawWeeks : MethodName := ⟨RX4, "drawWeeks", "(II)I"⟩
def RX5 : String := "SetAgain$Law"
def TX5 : u_T := fun k => match k with
  | 0 => ("SetAgain$Law", "tape", "[I", true)
  | 1 => ("SetAgain$Law", "length", "I", false)
  | 2 => ("SetAgain$Law", "holds", "Z", false)
  | 3 => ("SetAgain$Law", "draft", "[I", true)
  | 4 => ("SetAgain$Law", "code", "[I", true)
  | 5 => ("SetAgain$Law", "stack", "[I", true)
  | 6 => ("SetAgain$Law", "at", "I", false)
  | 7 => ("SetAgain$Law", "fault", "I", false)
  | 8 => ("SetAgain$Law", "drafted", "I", false)
  | _ => ("SetAgain$Law", "coded", "I", false)
def tyX5 : Nat → FieldType := fun k => match k with
  | 0 => .array .int
  | 1 => .int
  | 2 => .boolean
  | 3 => .array .int
  | 4 => .array .int
  | 5 => .array .int
  | 6 => .int
  | 7 => .int
  | 8 => .int
  | _ => .int
abbrev wsX50 : List Cond := u_ws RX5 TX5 10
theorem nmX5 : ∀ a, a < 10 → ∀ b, b < 10 → a ≠ b → (TX5 a).2.1 ≠ (TX5 b).2.1 := by decide +kernel
theorem tyX5_ok : ∀ k, k < 10 → parseFieldDescriptor (TX5 k).2.2.1 = some (tyX5 k) := by decide +kernel
abbrev cX5_init : ByteArray := prog_7_method_1_code
def yX5_init : MethodName := ⟨RX5, "<init>", "()V"⟩
abbrev cX5_takes : ByteArray := prog_7_method_2_code
def yX5_takes : MethodName := ⟨RX5, "takes", "(I)I"⟩
abbrev cX5_isRead : ByteArray := prog_7_method_3_code
def yX5_isRead : MethodName := ⟨RX5, "isRead", "()I"⟩
abbrev cX5_lines : ByteArray := prog_7_method_4_code
def yX5_lines : MethodName := ⟨RX5, "lines", "()V"⟩
abbrev cX5_line : ByteArray := prog_7_method_5_code
def yX5_line : MethodName := ⟨RX5, "line", "()V"⟩
abbrev cX5_either : ByteArray := prog_7_method_6_code
def yX5_either : MethodName := ⟨RX5, "either", "(I)V"⟩
abbrev cX5_both : ByteArray := prog_7_method_7_code
def yX5_both : MethodName := ⟨RX5, "both", "(I)V"⟩
abbrev cX5_compared : ByteArray := prog_7_method_8_code
def yX5_compared : MethodName := ⟨RX5, "compared", "(I)V"⟩
abbrev cX5_sum : ByteArray := prog_7_method_9_code
def yX5_sum : MethodName := ⟨RX5, "sum", "(I)V"⟩
abbrev cX5_product : ByteArray := prog_7_method_10_code
def yX5_product : MethodName := ⟨RX5, "product", "(I)V"⟩
abbrev cX5_operand : ByteArray := prog_7_method_11_code
def yX5_operand : MethodName := ⟨RX5, "operand", "(I)V"⟩
abbrev cX5_opened : ByteArray := prog_7_method_12_code
def yX5_opened : MethodName := ⟨RX5, "opened", "(II)V"⟩
abbrev cX5_number : ByteArray := prog_7_method_13_code
def yX5_number : MethodName := ⟨RX5, "number", "()V"⟩
abbrev cX5_isDigit : ByteArray := prog_7_method_14_code
def yX5_isDigit : MethodName := ⟨RX5, "isDigit", "(I)Z"⟩
abbrev cX5_isName : ByteArray := prog_7_method_15_code
def yX5_isName : MethodName := ⟨RX5, "isName", "(I)Z"⟩
abbrev cX5_next : ByteArray := prog_7_method_16_code
def yX5_next : MethodName := ⟨RX5, "next", "()I"⟩
abbrev cX5_fail : ByteArray := prog_7_method_17_code
def yX5_fail : MethodName := ⟨RX5, "fail", "()V"⟩
abbrev cX5_write : ByteArray := prog_7_method_18_code
def yX5_write : MethodName := ⟨RX5, "write", "(I)V"⟩
abbrev cX5_valueOf : ByteArray := prog_7_method_19_code
def yX5_valueOf : MethodName := ⟨RX5, "valueOf", "(IIII)I"⟩
abbrev cX5_operands : ByteArray := prog_7_method_20_code
def yX5_operands : MethodName := ⟨RX5, "operands", "(I)I"⟩
abbrev cX5_named : ByteArray := prog_7_method_21_code
def yX5_named : MethodName := ⟨RX5, "named", "(IIIII)I"⟩
abbrev cX5_worked : ByteArray := prog_7_method_22_code
def yX5_worked : MethodName := ⟨RX5, "worked", "(III)I"⟩
def RX6 : String := "SetAgain$Seen"
def TX6 : u_T := fun k => match k with
  | 0 => ("SetAgain$Seen", "chair", "LSetAgain$Chair;", true)
  | 1 => ("SetAgain$Seen", "row", "LSetAgain$Shelf;", false)
  | _ => ("SetAgain$Seen", "part", "I", false)
def tyX6 : Nat → FieldType := fun k => match k with
  | 0 => .object "SetAgain$Chair"
  | 1 => .object "SetAgain$Shelf"
  | _ => .int
abbrev wsX60 : List Cond := u_ws RX6 TX6 3
theorem nmX6 : ∀ a, a < 3 → ∀ b, b < 3 → a ≠ b → (TX6 a).2.1 ≠ (TX6 b).2.1 := by decide +kernel
theorem tyX6_ok : ∀ k, k < 3 → parseFieldDescriptor (TX6 k).2.2.1 = some (tyX6 k) := by decide +kernel
abbrev cX6_init : ByteArray := prog_8_method_1_code
def yX6_init : MethodName := ⟨RX6, "<init>", "(LSetAgain$Chair;)V"⟩
abbrev cX6_mayHaveSat : ByteArray := prog_8_method_2_code
def yX6_mayHaveSat : MethodName := ⟨RX6, "mayHaveSat", "(LSetAgain$Shelf;II)I"⟩
abbrev cX6_reachedAhead : ByteArray := prog_8_method_3_code
def yX6_reachedAhead : MethodName := ⟨RX6, "reachedAhead", "(I)J"⟩
abbrev cX6_fittingBehind : ByteArray := prog_8_method_4_code
def yX6_fittingBehind : MethodName := ⟨RX6, "fittingBehind", "(I)J"⟩
abbrev cX6_asSeen : ByteArray := prog_8_method_5_code
def yX6_asSeen : MethodName := ⟨RX6, "asSeen", "(I)J"⟩
abbrev cX6_allBehind : ByteArray := prog_8_method_6_code
def yX6_allBehind : MethodName := ⟨RX6, "allBehind", "(JI)J"⟩
abbrev cX6_allAhead : ByteArray := prog_8_method_7_code
def yX6_allAhead : MethodName := ⟨RX6, "allAhead", "(J)J"⟩
abbrev cX6_behindShift : ByteArray := prog_8_method_8_code
def yX6_behindShift : MethodName := ⟨RX6, "behindShift", "(II)I"⟩
def RX7 : String := "SetAgain$Shelf"
def TX7 : u_T := fun k => match k with
  | 0 => ("SetAgain$Shelf", "elements", "[J", true)
  | 1 => ("SetAgain$Shelf", "sort", "I", false)
  | 2 => ("SetAgain$Shelf", "length", "I", false)
  | _ => ("SetAgain$Shelf", "desk", "I", false)
def tyX7 : Nat → FieldType := fun k => match k with
  | 0 => .array .long
  | 1 => .int
  | 2 => .int
  | _ => .int
abbrev wsX70 : List Cond := u_ws RX7 TX7 4
theorem nmX7 : ∀ a, a < 4 → ∀ b, b < 4 → a ≠ b → (TX7 a).2.1 ≠ (TX7 b).2.1 := by decide +kernel
theorem tyX7_ok : ∀ k, k < 4 → parseFieldDescriptor (TX7 k).2.2.1 = some (tyX7 k) := by decide +kernel
abbrev cX7_init : ByteArray := prog_9_method_1_code
def yX7_init : MethodName := ⟨RX7, "<init>", "()V"⟩
abbrev cX7_takesDesk : ByteArray := prog_9_method_2_code
def yX7_takesDesk : MethodName := ⟨RX7, "takesDesk", "(I)V"⟩
abbrev cX7_takesRow : ByteArray := prog_9_method_3_code
def yX7_takesRow : MethodName := ⟨RX7, "takesRow", "(II)V"⟩
abbrev cX7_isRow : ByteArray := prog_9_method_4_code
def yX7_isRow : MethodName := ⟨RX7, "isRow", "()Z"⟩
abbrev cX7_hasPlaces : ByteArray := prog_9_method_5_code
def yX7_hasPlaces : MethodName := ⟨RX7, "hasPlaces", "(II)Z"⟩
abbrev cX7_cut : ByteArray := prog_9_method_6_code
def yX7_cut : MethodName := ⟨RX7, "cut", "(J)J"⟩
def RX8 : String := "SetAgain$Still"
def TX8 : u_T := fun k => match k with
  | 0 => ("SetAgain$Still", "chair", "LSetAgain$Chair;", true)
  | 1 => ("SetAgain$Still", "week", "LSetAgain$Week;", true)
  | 2 => ("SetAgain$Still", "weight", "[I", true)
  | 3 => ("SetAgain$Still", "wanted", "[Z", true)
  | 4 => ("SetAgain$Still", "ones", "[I", true)
  | 5 => ("SetAgain$Still", "sums", "[I", true)
  | 6 => ("SetAgain$Still", "leasts", "[I", true)
  | 7 => ("SetAgain$Still", "group", "[I", true)
  | 8 => ("SetAgain$Still", "bestGroup", "[I", true)
  | 9 => ("SetAgain$Still", "sitting", "I", false)
  | 10 => ("SetAgain$Still", "free", "I", false)
  | 11 => ("SetAgain$Still", "least", "I", false)
  | _ => ("SetAgain$Still", "found", "Z", false)
def tyX8 : Nat → FieldType := fun k => match k with
  | 0 => .object "SetAgain$Chair"
  | 1 => .object "SetAgain$Week"
  | 2 => .array .int
  | 3 => .array .boolean
  | 4 => .array .int
  | 5 => .array .int
  | 6 => .array .int
  | 7 => .array .int
  | 8 => .array .int
  | 9 => .int
  | 10 => .int
  | 11 => .int
  | _ => .boolean
abbrev wsX80 : List Cond := u_ws RX8 TX8 13
theorem nmX8 : ∀ a, a < 13 → ∀ b, b < 13 → a ≠ b → (TX8 a).2.1 ≠ (TX8 b).2.1 := by decide +kernel
theorem tyX8_ok : ∀ k, k < 13 → parseFieldDescriptor (TX8 k).2.2.1 = some (tyX8 k) := by decide +kernel
abbrev cX8_init : ByteArray := prog_10_method_1_code
def yX8_init : MethodName := ⟨RX8, "<init>", "(LSetAgain$Chair;LSetAgain$Week;)V"⟩
abbrev cX8_allLosses : ByteArray := prog_10_method_2_code
def yX8_allLosses : MethodName := ⟨RX8, "allLosses", "(II)I"⟩
abbrev cX8_worstLoss : ByteArray := prog_10_method_3_code
def yX8_worstLoss : MethodName := ⟨RX8, "worstLoss", "(II)I"⟩
abbrev cX8_bestOf : ByteArray := prog_10_method_4_code
def yX8_bestOf : MethodName := ⟨RX8, "bestOf", "(II)I"⟩
abbrev cX8_middleWant : ByteArray := prog_10_method_5_code
def yX8_middleWant : MethodName := ⟨RX8, "middleWant", "(I)I"⟩
abbrev cX8_weighWants : ByteArray := prog_10_method_6_code
def yX8_weighWants : MethodName := ⟨RX8, "weighWants", "(I)I"⟩
abbrev cX8_parted : ByteArray := prog_10_method_7_code
def yX8_parted : MethodName := ⟨RX8, "parted", "(III)I"⟩
abbrev cX8_gather : ByteArray := prog_10_method_8_code
def yX8_gather : MethodName := ⟨RX8, "gather", "()V"⟩
abbrev cX8_sumGroups : ByteArray := prog_10_method_9_code
def yX8_sumGroups : MethodName := ⟨RX8, "sumGroups", "(I)V"⟩
abbrev cX8_sumGroupsUpTo : ByteArray := prog_10_method_10_code
def yX8_sumGroupsUpTo : MethodName := ⟨RX8, "sumGroupsUpTo", "(IIZ)V"⟩
abbrev cX8_part : ByteArray := prog_10_method_11_code
def yX8_part : MethodName := ⟨RX8, "part", "(I)V"⟩
abbrev cX8_weigh : ByteArray := prog_10_method_12_code
def yX8_weigh : MethodName := ⟨RX8, "weigh", "()V"⟩
abbrev cX8_chairOf : ByteArray := prog_10_method_13_code
def yX8_chairOf : MethodName := ⟨RX8, "chairOf", "(I)I"⟩
def RX9 : String := "SetAgain$Turning"
def TX9 : u_T := fun k => match k with
  | 0 => ("SetAgain$Turning", "chair", "LSetAgain$Chair;", true)
  | 1 => ("SetAgain$Turning", "week", "LSetAgain$Week;", true)
  | _ => ("SetAgain$Turning", "ahead", "[I", true)
def tyX9 : Nat → FieldType := fun k => match k with
  | 0 => .object "SetAgain$Chair"
  | 1 => .object "SetAgain$Week"
  | _ => .array .int
abbrev wsX90 : List Cond := u_ws RX9 TX9 3
theorem nmX9 : ∀ a, a < 3 → ∀ b, b < 3 → a ≠ b → (TX9 a).2.1 ≠ (TX9 b).2.1 := by decide +kernel
theorem tyX9_ok : ∀ k, k < 3 → parseFieldDescriptor (TX9 k).2.2.1 = some (tyX9 k) := by decide +kernel
abbrev cX9_init : ByteArray := prog_11_method_1_code
def yX9_init : MethodName := ⟨RX9, "<init>", "(LSetAgain$Chair;LSetAgain$Week;)V"⟩
abbrev cX9_shiftByShift : ByteArray := prog_11_method_2_code
def yX9_shiftByShift : MethodName := ⟨RX9, "shiftByShift", "(II)I"⟩
abbrev cX9_pay : ByteArray := prog_11_method_3_code
def yX9_pay : MethodName := ⟨RX9, "pay", "(IZ)V"⟩
abbrev cX9_unturned : ByteArray := prog_11_method_4_code
def yX9_unturned : MethodName := ⟨RX9, "unturned", "(III)I"⟩
abbrev cX9_spread : ByteArray := prog_11_method_5_code
def yX9_spread : MethodName := ⟨RX9, "spread", "(II)V"⟩
abbrev cX9_leastSetting : ByteArray := prog_11_method_6_code
def yX9_leastSetting : MethodName := ⟨RX9, "leastSetting", "(III)I"⟩
abbrev cX9_oneTurning : ByteArray := prog_11_method_7_code
def yX9_oneTurning : MethodName := ⟨RX9, "oneTurning", "(II)I"⟩
def RX10 : String := "SetAgain$Week"
def TX10 : u_T := fun k => match k with
  | 0 => ("SetAgain$Week", "sitters", "[I", true)
  | 1 => ("SetAgain$Week", "times", "[I", true)
  | 2 => ("SetAgain$Week", "length", "I", false)
  | _ => ("SetAgain$Week", "sat", "I", false)
def tyX10 : Nat → FieldType := fun k => match k with
  | 0 => .array .int
  | 1 => .array .int
  | 2 => .int
  | _ => .int
abbrev wsX100 : List Cond := u_ws RX10 TX10 4
theorem nmX10 : ∀ a, a < 4 → ∀ b, b < 4 → a ≠ b → (TX10 a).2.1 ≠ (TX10 b).2.1 := by decide +kernel
theorem tyX10_ok : ∀ k, k < 4 → parseFieldDescriptor (TX10 k).2.2.1 = some (tyX10 k) := by decide +kernel
abbrev cX10_init : ByteArray := prog_12_method_1_code
def yX10_init : MethodName := ⟨RX10, "<init>", "()V"⟩
abbrev cX10_reads : ByteArray := prog_12_method_2_code
def yX10_reads : MethodName := ⟨RX10, "reads", "(LSetAgain$Shelf;I)V"⟩
def RX11 : String := "SetAgain"
def TX11 : u_T := fun k => match k with
  | 0 => ("SetAgain", "chair", "LSetAgain$Chair;", true)
  | 1 => ("SetAgain", "week", "LSetAgain$Week;", true)
  | 2 => ("SetAgain", "habits", "LSetAgain$Habits;", true)
  | 3 => ("SetAgain", "still", "LSetAgain$Still;", true)
  | 4 => ("SetAgain", "turning", "LSetAgain$Turning;", true)
  | 5 => ("SetAgain", "seen", "LSetAgain$Seen;", true)
  | 6 => ("SetAgain", "deed", "LSetAgain$Deed;", true)
  | 7 => ("SetAgain", "changes", "LSetAgain$Changes;", true)
  | 8 => ("SetAgain", "desks", "LSetAgain$Desks;", true)
  | _ => ("SetAgain", "shelves", "[LSetAgain$Shelf;", true)
def tyX11 : Nat → FieldType := fun k => match k with
  | 0 => .object "SetAgain$Chair"
  | 1 => .object "SetAgain$Week"
  | 2 => .object "SetAgain$Habits"
  | 3 => .object "SetAgain$Still"
  | 4 => .object "SetAgain$Turning"
  | 5 => .object "SetAgain$Seen"
  | 6 => .object "SetAgain$Deed"
  | 7 => .object "SetAgain$Changes"
  | 8 => .object "SetAgain$Desks"
  | _ => .array (.object "SetAgain$Shelf")
abbrev wsX110 : List Cond := u_ws RX11 TX11 10
theorem nmX11 : ∀ a, a < 10 → ∀ b, b < 10 → a ≠ b → (TX11 a).2.1 ≠ (TX11 b).2.1 := by decide +kernel
theorem tyX11_ok : ∀ k, k < 10 → parseFieldDescriptor (TX11 k).2.2.1 = some (tyX11 k) := by decide +kernel
abbrev cX11_init : ByteArray := prog_1_method_1_code
def yX11_init : MethodName := ⟨RX11, "<init>", "()V"⟩
abbrev cX11_sitter : ByteArray := prog_1_method_2_code
def yX11_sitter : MethodName := ⟨RX11, "sitter", "(II)I"⟩
abbrev cX11_sitters : ByteArray := prog_1_method_3_code
def yX11_sitters : MethodName := ⟨RX11, "sitters", "(III)I"⟩
abbrev cX11_mend : ByteArray := prog_1_method_4_code
def yX11_mend : MethodName := ⟨RX11, "mend", "(III)I"⟩
abbrev cX11_of : ByteArray := prog_1_method_5_code
def yX11_of : MethodName := ⟨RX11, "of", "(II)I"⟩
abbrev cX11_feed : ByteArray := prog_1_method_6_code
def yX11_feed : MethodName := ⟨RX11, "feed", "(I)I"⟩
abbrev cX11_law : ByteArray := prog_1_method_7_code
def yX11_law : MethodName := ⟨RX11, "law", "()I"⟩
abbrev cX11_loss : ByteArray := prog_1_method_8_code
def yX11_loss : MethodName := ⟨RX11, "loss", "(III)I"⟩
abbrev cX11_never : ByteArray := prog_1_method_9_code
def yX11_never : MethodName := ⟨RX11, "never", "(III)I"⟩
abbrev cX11_best : ByteArray := prog_1_method_10_code
def yX11_best : MethodName := ⟨RX11, "best", "(III)I"⟩
abbrev cX11_middle : ByteArray := prog_1_method_11_code
def yX11_middle : MethodName := ⟨RX11, "middle", "(II)I"⟩
abbrev cX11_shifts : ByteArray := prog_1_method_12_code
def yX11_shifts : MethodName := ⟨RX11, "shifts", "(III)I"⟩
abbrev cX11_once : ByteArray := prog_1_method_13_code
def yX11_once : MethodName := ⟨RX11, "once", "(III)I"⟩
abbrev cX11_week : ByteArray := prog_1_method_14_code
def yX11_week : MethodName := ⟨RX11, "week", "(II)I"⟩
abbrev cX11_stands : ByteArray := prog_1_method_15_code
def yX11_stands : MethodName := ⟨RX11, "stands", "(III)I"⟩
abbrev cX11_pays : ByteArray := prog_1_method_16_code
def yX11_pays : MethodName := ⟨RX11, "pays", "(III)I"⟩
abbrev cX11_memories : ByteArray := prog_1_method_17_code
def yX11_memories : MethodName := ⟨RX11, "memories", "(III)I"⟩
abbrev cX11_marked : ByteArray := prog_1_method_18_code
def yX11_marked : MethodName := ⟨RX11, "marked", "(I)I"⟩
abbrev cX11_chairs : ByteArray := prog_1_method_19_code
def yX11_chairs : MethodName := ⟨RX11, "chairs", "(III)I"⟩
abbrev cX11_wilful : ByteArray := prog_1_method_20_code
def yX11_wilful : MethodName := ⟨RX11, "wilful", "(III)I"⟩
abbrev cX11_who : ByteArray := prog_1_method_21_code
def yX11_who : MethodName := ⟨RX11, "who", "(III)I"⟩
abbrev cX11_judge : ByteArray := prog_1_method_22_code
def yX11_judge : MethodName := ⟨RX11, "judge", "(II)I"⟩
abbrev cX11_drawn : ByteArray := prog_1_method_23_code
def yX11_drawn : MethodName := ⟨RX11, "drawn", "(IIII)I"⟩
abbrev cX11_sit : ByteArray := prog_1_method_24_code
def yX11_sit : MethodName := ⟨RX11, "sit", "(I)I"⟩
abbrev cX11_set : ByteArray := prog_1_method_25_code
def yX11_set : MethodName := ⟨RX11, "set", "(II)I"⟩
abbrev cX11_night : ByteArray := prog_1_method_26_code
def yX11_night : MethodName := ⟨RX11, "night", "()I"⟩
abbrev cX11_led : ByteArray := prog_1_method_27_code
def yX11_led : MethodName := ⟨RX11, "led", "(I)I"⟩
abbrev cX11_image : ByteArray := prog_1_method_28_code
def yX11_image : MethodName := ⟨RX11, "image", "()I"⟩
abbrev cX11_back : ByteArray := prog_1_method_29_code
def yX11_back : MethodName := ⟨RX11, "back", "()I"⟩
abbrev cX11_undo : ByteArray := prog_1_method_30_code
def yX11_undo : MethodName := ⟨RX11, "undo", "()I"⟩
abbrev cX11_redo : ByteArray := prog_1_method_31_code
def yX11_redo : MethodName := ⟨RX11, "redo", "()I"⟩
abbrev cX11_body : ByteArray := prog_1_method_32_code
def yX11_body : MethodName := ⟨RX11, "body", "(I)I"⟩
abbrev cX11_act : ByteArray := prog_1_method_33_code
def yX11_act : MethodName := ⟨RX11, "act", "(III)I"⟩
abbrev cX11_trace : ByteArray := prog_1_method_34_code
def yX11_trace : MethodName := ⟨RX11, "trace", "(I)I"⟩
abbrev cX11_keep : ByteArray := prog_1_method_35_code
def yX11_keep : MethodName := ⟨RX11, "keep", "(II)I"⟩
abbrev cX11_row : ByteArray := prog_1_method_36_code
def yX11_row : MethodName := ⟨RX11, "row", "(III)I"⟩
abbrev cX11_put : ByteArray := prog_1_method_37_code
def yX11_put : MethodName := ⟨RX11, "put", "(IIJ)I"⟩
abbrev cX11_element : ByteArray := prog_1_method_38_code
def yX11_element : MethodName := ⟨RX11, "element", "(II)J"⟩
abbrev cX11_shift : ByteArray := prog_1_method_39_code
def yX11_shift : MethodName := ⟨RX11, "shift", "(IIIII)I"⟩
abbrev cX11_taken : ByteArray := prog_1_method_40_code
def yX11_taken : MethodName := ⟨RX11, "taken", "(II)I"⟩
abbrev cX11_count : ByteArray := prog_1_method_41_code
def yX11_count : MethodName := ⟨RX11, "count", "(I)I"⟩
abbrev cX11_isPart : ByteArray := prog_1_method_42_code
def yX11_isPart : MethodName := ⟨RX11, "isPart", "(I)Z"⟩
abbrev cX11_isSetting : ByteArray := prog_1_method_43_code
def yX11_isSetting : MethodName := ⟨RX11, "isSetting", "(I)Z"⟩
abbrev cX11_isShelf : ByteArray := prog_1_method_44_code
def yX11_isShelf : MethodName := ⟨RX11, "isShelf", "(I)Z"⟩
abbrev cX11_isKind : ByteArray := prog_1_method_45_code
def yX11_isKind : MethodName := ⟨RX11, "isKind", "(I)Z"⟩
abbrev cX11_fits : ByteArray := prog_1_method_46_code
def yX11_fits : MethodName := ⟨RX11, "fits", "(II)Z"⟩
abbrev cX11_refusalOf : ByteArray := prog_1_method_47_code
def yX11_refusalOf : MethodName := ⟨RX11, "refusalOf", "(I)I"⟩
abbrev cX11_readWeek : ByteArray := prog_1_method_48_code
def yX11_readWeek : MethodName := ⟨RX11, "readWeek", "(I)I"⟩
abbrev cX11_refusalAt : ByteArray := prog_1_method_49_code
def yX11_refusalAt : MethodName := ⟨RX11, "refusalAt", "(II)I"⟩
abbrev cX11_fromRow : ByteArray := prog_1_method_50_code
def yX11_fromRow : MethodName := ⟨RX11, "fromRow", "(LSetAgain$Shelf;II)I"⟩
abbrev cX11_comesFrom : ByteArray := prog_1_method_51_code
def yX11_comesFrom : MethodName := ⟨RX11, "comesFrom", "(LSetAgain$Shelf;I)Z"⟩
abbrev cX11_firstUnlike : ByteArray := prog_1_method_52_code
def yX11_firstUnlike : MethodName := ⟨RX11, "firstUnlike", "(LSetAgain$Shelf;I)I"⟩
def RX12 : String := "SetAgainModel"
def TX12 : u_T := fun k => match k with
  | 0 => ("SetAgainModel", "may", "[I", true)
  | 1 => ("SetAgainModel", "changeAt", "[I", true)
  | 2 => ("SetAgainModel", "changeWas", "[I", true)
  | 3 => ("SetAgainModel", "changeIs", "[I", true)
  | 4 => ("SetAgainModel", "keptMany", "I", false)
  | 5 => ("SetAgainModel", "done", "I", false)
  | 6 => ("SetAgainModel", "sitters", "I", false)
  | 7 => ("SetAgainModel", "stands", "[I", true)
  | 8 => ("SetAgainModel", "tape", "[I", true)
  | 9 => ("SetAgainModel", "tapeMany", "I", false)
  | 10 => ("SetAgainModel", "text", "[I", true)
  | 11 => ("SetAgainModel", "textMany", "I", false)
  | 12 => ("SetAgainModel", "base", "I", false)
  | 13 => ("SetAgainModel", "at", "I", false)
  | 14 => ("SetAgainModel", "ends", "I", false)
  | 15 => ("SetAgainModel", "fault", "I", false)
  | 16 => ("SetAgainModel", "opened", "I", false)
  | 17 => ("SetAgainModel", "names", "[I", true)
  | 18 => ("SetAgainModel", "lossIn", "[I", true)
  | 19 => ("SetAgainModel", "leastFrom", "[I", true)
  | 20 => ("SetAgainModel", "nearOf", "I", false)
  | 21 => ("SetAgainModel", "nearIs", "I", false)
  | 22 => ("SetAgainModel", "memorySet", "I", false)
  | 23 => ("SetAgainModel", "isMarked", "Z", false)
  | 24 => ("SetAgainModel", "wilfulOf", "I", false)
  | 25 => ("SetAgainModel", "wilfulTo", "I", false)
  | 26 => ("SetAgainModel", "isIll", "[Z", true)
  | 27 => ("SetAgainModel", "stand1", "[I", true)
  | 28 => ("SetAgainModel", "standBehind", "[I", true)
  | 29 => ("SetAgainModel", "turnsAll", "I", false)
  | 30 => ("SetAgainModel", "lossesAll", "I", false)
  | 31 => ("SetAgainModel", "turnCosts", "I", false)
  | 32 => ("SetAgainModel", "lossAt", "[I", true)
  | 33 => ("SetAgainModel", "chairOf", "[I", true)
  | 34 => ("SetAgainModel", "bestChair", "[I", true)
  | 35 => ("SetAgainModel", "leastChairs", "I", false)
  | 36 => ("SetAgainModel", "canStand", "[Z", true)
  | 37 => ("SetAgainModel", "canGoOn", "[Z", true)
  | 38 => ("SetAgainModel", "ledShifts", "I", false)
  | 39 => ("SetAgainModel", "ledTurns", "I", false)
  | 40 => ("SetAgainModel", "ledLosses", "I", false)
  | 41 => ("SetAgainModel", "ledDearest", "I", false)
  | 42 => ("SetAgainModel", "ledWho", "I", false)
  | 43 => ("SetAgainModel", "isKept", "Z", false)
  | 44 => ("SetAgainModel", "image", "[I", true)
  | 45 => ("SetAgainModel", "bodies", "I", false)
  | 46 => ("SetAgainModel", "bodyKind", "[I", true)
  | 47 => ("SetAgainModel", "trace", "[I", true)
  | 48 => ("SetAgainModel", "ran", "I", false)
  | 49 => ("SetAgainModel", "ownKind", "I", false)
  | 50 => ("SetAgainModel", "ownNumber", "I", false)
  | 51 => ("SetAgainModel", "shelf", "[I", true)
  | 52 => ("SetAgainModel", "many", "[I", true)
  | 53 => ("SetAgainModel", "items", "[J", true)
  | _ => ("SetAgainModel", "carried", "[J", true)
def tyX12 : Nat → FieldType := fun k => match k with
  | 0 => .array .int
  | 1 => .array .int
  | 2 => .array .int
  | 3 => .array .int
  | 4 => .int
  | 5 => .int
  | 6 => .int
  | 7 => .array .int
  | 8 => .array .int
  | 9 => .int
  | 10 => .array .int
  | 11 => .int
  | 12 => .int
  | 13 => .int
  | 14 => .int
  | 15 => .int
  | 16 => .int
  | 17 => .array .int
  | 18 => .array .int
  | 19 => .array .int
  | 20 => .int
  | 21 => .int
  | 22 => .int
  | 23 => .boolean
  | 24 => .int
  | 25 => .int
  | 26 => .array .boolean
  | 27 => .array .int
  | 28 => .array .int
  | 29 => .int
  | 30 => .int
  | 31 => .int
  | 32 => .array .int
  | 33 => .array .int
  | 34 => .array .int
  | 35 => .int
  | 36 => .array .boolean
  | 37 => .array .boolean
  | 38 => .int
  | 39 => .int
  | 40 => .int
  | 41 => .int
  | 42 => .int
  | 43 => .boolean
  | 44 => .array .int
  | 45 => .int
  | 46 => .array .int
  | 47 => .array .int
  | 48 => .int
  | 49 => .int
  | 50 => .int
  | 51 => .array .int
  | 52 => .array .int
  | 53 => .array .long
  | _ => .array .long
abbrev wsX120 : List Cond := u_ws RX12 TX12 55
theorem nmX12 : ∀ a, a < 55 → ∀ b, b < 55 → a ≠ b → (TX12 a).2.1 ≠ (TX12 b).2.1 := by decide +kernel
theorem tyX12_ok : ∀ k, k < 55 → parseFieldDescriptor (TX12 k).2.2.1 = some (tyX12 k) := by decide +kernel
abbrev cX12_within : ByteArray := prog_14_method_1_code
def yX12_within : MethodName := ⟨RX12, "within", "(JJJ)Z"⟩
abbrev cX12_sizeOf : ByteArray := prog_14_method_2_code
def yX12_sizeOf : MethodName := ⟨RX12, "sizeOf", "(I)I"⟩
abbrev cX12_isIn : ByteArray := prog_14_method_3_code
def yX12_isIn : MethodName := ⟨RX12, "isIn", "(II)Z"⟩
abbrev cX12_bitsOf : ByteArray := prog_14_method_4_code
def yX12_bitsOf : MethodName := ⟨RX12, "bitsOf", "(I)I"⟩
abbrev cX12_init : ByteArray := prog_14_method_5_code
def yX12_init : MethodName := ⟨RX12, "<init>", "()V"⟩
abbrev cX12_becomes : ByteArray := prog_14_method_6_code
def yX12_becomes : MethodName := ⟨RX12, "becomes", "(II)I"⟩
abbrev cX12_undo : ByteArray := prog_14_method_7_code
def yX12_undo : MethodName := ⟨RX12, "undo", "()I"⟩
abbrev cX12_redo : ByteArray := prog_14_method_8_code
def yX12_redo : MethodName := ⟨RX12, "redo", "()I"⟩
abbrev cX12_isSitter : ByteArray := prog_14_method_9_code
def yX12_isSitter : MethodName := ⟨RX12, "isSitter", "(J)Z"⟩
abbrev cX12_isPart : ByteArray := prog_14_method_10_code
def yX12_isPart : MethodName := ⟨RX12, "isPart", "(I)Z"⟩
abbrev cX12_isSetting : ByteArray := prog_14_method_11_code
def yX12_isSetting : MethodName := ⟨RX12, "isSetting", "(J)Z"⟩
abbrev cX12_numberOf : ByteArray := prog_14_method_12_code
def yX12_numberOf : MethodName := ⟨RX12, "numberOf", "(II)I"⟩
abbrev cX12_adds : ByteArray := prog_14_method_13_code
def yX12_adds : MethodName := ⟨RX12, "adds", "(IIII)V"⟩
abbrev cX12_sitter : ByteArray := prog_14_method_14_code
def yX12_sitter : MethodName := ⟨RX12, "sitter", "(II)I"⟩
abbrev cX12_sitters : ByteArray := prog_14_method_15_code
def yX12_sitters : MethodName := ⟨RX12, "sitters", "(III)I"⟩
abbrev cX12_placeOf : ByteArray := prog_14_method_16_code
def yX12_placeOf : MethodName := ⟨RX12, "placeOf", "(II)I"⟩
abbrev cX12_mostOf : ByteArray := prog_14_method_17_code
def yX12_mostOf : MethodName := ⟨RX12, "mostOf", "(I)I"⟩
abbrev cX12_mend : ByteArray := prog_14_method_18_code
def yX12_mend : MethodName := ⟨RX12, "mend", "(III)I"⟩
abbrev cX12_of : ByteArray := prog_14_method_19_code
def yX12_of : MethodName := ⟨RX12, "of", "(II)I"⟩
abbrev cX12_feed : ByteArray := prog_14_method_20_code
def yX12_feed : MethodName := ⟨RX12, "feed", "(I)I"⟩
abbrev cX12_byteAt : ByteArray := prog_14_method_21_code
def yX12_byteAt : MethodName := ⟨RX12, "byteAt", "()I"⟩
abbrev cX12_wrong : ByteArray := prog_14_method_22_code
def yX12_wrong : MethodName := ⟨RX12, "wrong", "()I"⟩
abbrev cX12_takes : ByteArray := prog_14_method_23_code
def yX12_takes : MethodName := ⟨RX12, "takes", "(I)Z"⟩
abbrev cX12_either : ByteArray := prog_14_method_24_code
def yX12_either : MethodName := ⟨RX12, "either", "()I"⟩
abbrev cX12_both : ByteArray := prog_14_method_25_code
def yX12_both : MethodName := ⟨RX12, "both", "()I"⟩
abbrev cX12_compared : ByteArray := prog_14_method_26_code
def yX12_compared : MethodName := ⟨RX12, "compared", "()I"⟩
abbrev cX12_sums : ByteArray := prog_14_method_27_code
def yX12_sums : MethodName := ⟨RX12, "sums", "()I"⟩
abbrev cX12_product : ByteArray := prog_14_method_28_code
def yX12_product : MethodName := ⟨RX12, "product", "()I"⟩
abbrev cX12_nameOf : ByteArray := prog_14_method_29_code
def yX12_nameOf : MethodName := ⟨RX12, "nameOf", "(I)I"⟩
abbrev cX12_one : ByteArray := prog_14_method_30_code
def yX12_one : MethodName := ⟨RX12, "one", "()I"⟩
abbrev cX12_workOut : ByteArray := prog_14_method_31_code
def yX12_workOut : MethodName := ⟨RX12, "workOut", "(II)I"⟩
abbrev cX12_law : ByteArray := prog_14_method_32_code
def yX12_law : MethodName := ⟨RX12, "law", "()I"⟩
abbrev cX12_lossOf : ByteArray := prog_14_method_33_code
def yX12_lossOf : MethodName := ⟨RX12, "lossOf", "(III)I"⟩
abbrev cX12_loss : ByteArray := prog_14_method_34_code
def yX12_loss : MethodName := ⟨RX12, "loss", "(III)I"⟩
abbrev cX12_bytesIs : ByteArray := prog_14_method_35_code
def yX12_bytesIs : MethodName := ⟨RX12, "bytesIs", "(I)I"⟩
abbrev cX12_shiftsOf : ByteArray := prog_14_method_36_code
def yX12_shiftsOf : MethodName := ⟨RX12, "shiftsOf", "(I)I"⟩
abbrev cX12_whoSits : ByteArray := prog_14_method_37_code
def yX12_whoSits : MethodName := ⟨RX12, "whoSits", "(II)I"⟩
abbrev cX12_anySits : ByteArray := prog_14_method_38_code
def yX12_anySits : MethodName := ⟨RX12, "anySits", "(I)Z"⟩
abbrev cX12_neverOf : ByteArray := prog_14_method_39_code
def yX12_neverOf : MethodName := ⟨RX12, "neverOf", "(III)I"⟩
abbrev cX12_worstOf : ByteArray := prog_14_method_40_code
def yX12_worstOf : MethodName := ⟨RX12, "worstOf", "(III)I"⟩
abbrev cX12_never : ByteArray := prog_14_method_41_code
def yX12_never : MethodName := ⟨RX12, "never", "(III)I"⟩
abbrev cX12_best : ByteArray := prog_14_method_42_code
def yX12_best : MethodName := ⟨RX12, "best", "(III)I"⟩
abbrev cX12_weightOf : ByteArray := prog_14_method_43_code
def yX12_weightOf : MethodName := ⟨RX12, "weightOf", "(I)I"⟩
abbrev cX12_weightTo : ByteArray := prog_14_method_44_code
def yX12_weightTo : MethodName := ⟨RX12, "weightTo", "(III)I"⟩
abbrev cX12_isWanted : ByteArray := prog_14_method_45_code
def yX12_isWanted : MethodName := ⟨RX12, "isWanted", "(III)Z"⟩
abbrev cX12_middle : ByteArray := prog_14_method_46_code
def yX12_middle : MethodName := ⟨RX12, "middle", "(II)I"⟩
abbrev cX12_asksLosses : ByteArray := prog_14_method_47_code
def yX12_asksLosses : MethodName := ⟨RX12, "asksLosses", "(II)V"⟩
abbrev cX12_slipped : ByteArray := prog_14_method_48_code
def yX12_slipped : MethodName := ⟨RX12, "slipped", "(II)I"⟩
abbrev cX12_costBy : ByteArray := prog_14_method_49_code
def yX12_costBy : MethodName := ⟨RX12, "costBy", "(IIII)I"⟩
abbrev cX12_shifts : ByteArray := prog_14_method_50_code
def yX12_shifts : MethodName := ⟨RX12, "shifts", "(III)I"⟩
abbrev cX12_once : ByteArray := prog_14_method_51_code
def yX12_once : MethodName := ⟨RX12, "once", "(III)I"⟩
abbrev cX12_nearBy : ByteArray := prog_14_method_52_code
def yX12_nearBy : MethodName := ⟨RX12, "nearBy", "(I)I"⟩
abbrev cX12_priceOf : ByteArray := prog_14_method_53_code
def yX12_priceOf : MethodName := ⟨RX12, "priceOf", "(I)I"⟩
abbrev cX12_turnsTo : ByteArray := prog_14_method_54_code
def yX12_turnsTo : MethodName := ⟨RX12, "turnsTo", "(III)V"⟩
abbrev cX12_comes : ByteArray := prog_14_method_55_code
def yX12_comes : MethodName := ⟨RX12, "comes", "(I)V"⟩
abbrev cX12_beginsWeek : ByteArray := prog_14_method_56_code
def yX12_beginsWeek : MethodName := ⟨RX12, "beginsWeek", "()V"⟩
abbrev cX12_weekOf : ByteArray := prog_14_method_57_code
def yX12_weekOf : MethodName := ⟨RX12, "weekOf", "(I)I"⟩
abbrev cX12_week : ByteArray := prog_14_method_58_code
def yX12_week : MethodName := ⟨RX12, "week", "(II)I"⟩
abbrev cX12_stands : ByteArray := prog_14_method_59_code
def yX12_stands : MethodName := ⟨RX12, "stands", "(III)I"⟩
abbrev cX12_pays : ByteArray := prog_14_method_60_code
def yX12_pays : MethodName := ⟨RX12, "pays", "(III)I"⟩
abbrev cX12_memories : ByteArray := prog_14_method_61_code
def yX12_memories : MethodName := ⟨RX12, "memories", "(III)I"⟩
abbrev cX12_marked : ByteArray := prog_14_method_62_code
def yX12_marked : MethodName := ⟨RX12, "marked", "(I)I"⟩
abbrev cX12_wilful : ByteArray := prog_14_method_63_code
def yX12_wilful : MethodName := ⟨RX12, "wilful", "(III)I"⟩
abbrev cX12_sitsSet : ByteArray := prog_14_method_64_code
def yX12_sitsSet : MethodName := ⟨RX12, "sitsSet", "(I)I"⟩
abbrev cX12_chairLoss : ByteArray := prog_14_method_65_code
def yX12_chairLoss : MethodName := ⟨RX12, "chairLoss", "(II)I"⟩
abbrev cX12_chairsOn : ByteArray := prog_14_method_66_code
def yX12_chairsOn : MethodName := ⟨RX12, "chairsOn", "(IIII)V"⟩
abbrev cX12_chairs : ByteArray := prog_14_method_67_code
def yX12_chairs : MethodName := ⟨RX12, "chairs", "(III)I"⟩
abbrev cX12_standsBy : ByteArray := prog_14_method_68_code
def yX12_standsBy : MethodName := ⟨RX12, "standsBy", "(III)I"⟩
abbrev cX12_isSeen : ByteArray := prog_14_method_69_code
def yX12_isSeen : MethodName := ⟨RX12, "isSeen", "(III)Z"⟩
abbrev cX12_may1 : ByteArray := prog_14_method_70_code
def yX12_may1 : MethodName := ⟨RX12, "may1", "(I)Z"⟩
abbrev cX12_who : ByteArray := prog_14_method_71_code
def yX12_who : MethodName := ⟨RX12, "who", "(III)I"⟩
abbrev cX12_judge : ByteArray := prog_14_method_72_code
def yX12_judge : MethodName := ⟨RX12, "judge", "(II)I"⟩
abbrev cX12_drawn : ByteArray := prog_14_method_73_code
def yX12_drawn : MethodName := ⟨RX12, "drawn", "(IIII)I"⟩
abbrev cX12_sit : ByteArray := prog_14_method_74_code
def yX12_sit : MethodName := ⟨RX12, "sit", "(I)I"⟩
abbrev cX12_set : ByteArray := prog_14_method_75_code
def yX12_set : MethodName := ⟨RX12, "set", "(II)I"⟩
abbrev cX12_night : ByteArray := prog_14_method_76_code
def yX12_night : MethodName := ⟨RX12, "night", "()I"⟩
abbrev cX12_led : ByteArray := prog_14_method_77_code
def yX12_led : MethodName := ⟨RX12, "led", "(I)I"⟩
abbrev cX12_image : ByteArray := prog_14_method_78_code
def yX12_image : MethodName := ⟨RX12, "image", "()I"⟩
abbrev cX12_back : ByteArray := prog_14_method_79_code
def yX12_back : MethodName := ⟨RX12, "back", "()I"⟩
abbrev cX12_isBody : ByteArray := prog_14_method_80_code
def yX12_isBody : MethodName := ⟨RX12, "isBody", "(I)Z"⟩
abbrev cX12_kindOf : ByteArray := prog_14_method_81_code
def yX12_kindOf : MethodName := ⟨RX12, "kindOf", "(I)I"⟩
abbrev cX12_body : ByteArray := prog_14_method_82_code
def yX12_body : MethodName := ⟨RX12, "body", "(I)I"⟩
abbrev cX12_above : ByteArray := prog_14_method_83_code
def yX12_above : MethodName := ⟨RX12, "above", "(I)I"⟩
abbrev cX12_begins : ByteArray := prog_14_method_84_code
def yX12_begins : MethodName := ⟨RX12, "begins", "(I)V"⟩
abbrev cX12_setsAs : ByteArray := prog_14_method_85_code
def yX12_setsAs : MethodName := ⟨RX12, "setsAs", "(II)I"⟩
abbrev cX12_sitsAs : ByteArray := prog_14_method_86_code
def yX12_sitsAs : MethodName := ⟨RX12, "sitsAs", "(II)I"⟩
abbrev cX12_slipsAs : ByteArray := prog_14_method_87_code
def yX12_slipsAs : MethodName := ⟨RX12, "slipsAs", "(II)I"⟩
abbrev cX12_tellsAs : ByteArray := prog_14_method_88_code
def yX12_tellsAs : MethodName := ⟨RX12, "tellsAs", "(II)I"⟩
abbrev cX12_act : ByteArray := prog_14_method_89_code
def yX12_act : MethodName := ⟨RX12, "act", "(III)I"⟩
abbrev cX12_trace : ByteArray := prog_14_method_90_code
def yX12_trace : MethodName := ⟨RX12, "trace", "(I)I"⟩
abbrev cX12_isShelf : ByteArray := prog_14_method_91_code
def yX12_isShelf : MethodName := ⟨RX12, "isShelf", "(I)Z"⟩
abbrev cX12_keep : ByteArray := prog_14_method_92_code
def yX12_keep : MethodName := ⟨RX12, "keep", "(II)I"⟩
abbrev cX12_row : ByteArray := prog_14_method_93_code
def yX12_row : MethodName := ⟨RX12, "row", "(III)I"⟩
abbrev cX12_refusal : ByteArray := prog_14_method_94_code
def yX12_refusal : MethodName := ⟨RX12, "refusal", "(II)I"⟩
abbrev cX12_asSort : ByteArray := prog_14_method_95_code
def yX12_asSort : MethodName := ⟨RX12, "asSort", "(IJ)J"⟩
abbrev cX12_put : ByteArray := prog_14_method_96_code
def yX12_put : MethodName := ⟨RX12, "put", "(IIJ)I"⟩
abbrev cX12_element : ByteArray := prog_14_method_97_code
def yX12_element : MethodName := ⟨RX12, "element", "(II)J"⟩
abbrev cX12_shift : ByteArray := prog_14_method_98_code
def yX12_shift : MethodName := ⟨RX12, "shift", "(IIIII)I"⟩
abbrev cX12_taken : ByteArray := prog_14_method_99_code
def yX12_taken : MethodName := ⟨RX12, "taken", "(II)I"⟩
abbrev cX12_count : ByteArray := prog_14_method_100_code
def yX12_count : MethodName := ⟨RX12, "count", "(I)I"⟩
def RJ6 : String := "java/lang/Integer"
abbrev cJ6_bitCount_0f7a4 : ByteArray := prog_15_method_49_code
def yJ6_bitCount_0f7a4 : MethodName := ⟨RJ6, "bitCount", "(I)I"⟩
def wsX5_init : List Cond := .code yX5_init cX5_init 1 none :: ([.methodLink RX5 3 objectInit, .instanceMethod objectInit, .code objectInit ⟨#[0xb1]⟩ 1 none, .arrayClass .int, .fieldLink RX5 11 "SetAgain$Law" "tape" "[I", .fieldLink RX5 15 "SetAgain$Law" "draft" "[I", .fieldLink RX5 18 "SetAgain$Law" "code" "[I", .fieldLink RX5 21 "SetAgain$Law" "stack" "[I"] ++ wsX50)
def wsX0_init : List Cond := .code yX0_init cX0_init 2 none :: ([.methodLink RX0 5 objectInit, .instanceMethod objectInit, .code objectInit ⟨#[0xb1]⟩ 1 none, .arrayClass .int, .fieldLink RX0 11 "SetAgain$Chair" "told" "[I", .fieldLink RX0 15 "SetAgain$Chair" "stands" "[I", .classLink RX0 18 RX5, .instantiable RX5 10, .initialized RX5, .fieldLink RX0 21 "SetAgain$Chair" "law" "LSetAgain$Law;", .fieldLink RX0 25 "SetAgain$Chair" "lost" "[I", .instanceMethod yX5_init, .code yX5_init cX5_init 1 none, .methodLink RX5 3 objectInit, .fieldLink RX5 11 "SetAgain$Law" "tape" "[I", .fieldLink RX5 15 "SetAgain$Law" "draft" "[I", .fieldLink RX5 18 "SetAgain$Law" "code" "[I", .fieldLink RX5 21 "SetAgain$Law" "stack" "[I"] ++ wsX00 ++ wsX50)
def wsX0_has : List Cond := .code yX0_has cX0_has 2 (some .boolean) :: ([.fieldLink RX0 28 "SetAgain$Chair" "sitters" "I"] ++ wsX00)
def wsX0_placeOf : List Cond := .code yX0_placeOf cX0_placeOf 3 (some .int) :: ([.fieldLink RX0 28 "SetAgain$Chair" "sitters" "I"] ++ wsX00)
def wsX0_forget : List Cond := .code yX0_forget cX0_forget 4 none :: ([.fieldLink RX0 25 "SetAgain$Chair" "lost" "[I"] ++ wsX00)
def wsX0_comes : List Cond := .code yX0_comes cX0_comes 6 (some .int) :: ([.fieldLink RX0 28 "SetAgain$Chair" "sitters" "I", .fieldLink RX0 11 "SetAgain$Chair" "told" "[I", .methodLink RX0 32 yX0_forget, .instanceMethod yX0_forget, .selects RX0 yX0_forget yX0_forget, .initialized RX0, .code yX0_forget cX0_forget 4 none, .fieldLink RX0 25 "SetAgain$Chair" "lost" "[I"] ++ wsX00)
def wsX0_becomes : List Cond := .code yX0_becomes cX0_becomes 3 none :: ([.fieldLink RX0 11 "SetAgain$Chair" "told" "[I", .methodLink RX0 32 yX0_forget, .instanceMethod yX0_forget, .selects RX0 yX0_forget yX0_forget, .initialized RX0, .code yX0_forget cX0_forget 4 none, .fieldLink RX0 25 "SetAgain$Chair" "lost" "[I"] ++ wsX00)
def wsX0_slipped : List Cond := .code yX0_slipped cX0_slipped 3 (some .int) :: ([.fieldLink RX0 11 "SetAgain$Chair" "told" "[I", .methodLink RX0 36 Lib.Math.max.name, .static Lib.Math.max.name, .initialized "java/lang/Math", .code Lib.Math.max.name Lib.Math.max.code 2 (some .int)] ++ wsX00)
def wsX1_init : List Cond := .code yX1_init cX1_init 1 none :: ([.methodLink RX1 1 objectInit, .instanceMethod objectInit, .code objectInit ⟨#[0xb1]⟩ 1 none, .arrayClass .int, .fieldLink RX1 9 "SetAgain$Changes" "places" "[I", .fieldLink RX1 13 "SetAgain$Changes" "before" "[I", .fieldLink RX1 16 "SetAgain$Changes" "after" "[I"] ++ wsX10)
def wsX1_comes : List Cond := .code yX1_comes cX1_comes 4 none :: ([.fieldLink RX1 19 "SetAgain$Changes" "done" "I", .fieldLink RX1 9 "SetAgain$Changes" "places" "[I", .fieldLink RX1 13 "SetAgain$Changes" "before" "[I", .fieldLink RX1 16 "SetAgain$Changes" "after" "[I", .fieldLink RX1 26 "SetAgain$Changes" "kept" "I", .methodLink RX1 23 yX1_dropOldest, .instanceMethod yX1_dropOldest, .selects RX1 yX1_dropOldest yX1_dropOldest, .initialized RX1, .code yX1_dropOldest cX1_dropOldest 1 none, .methodLink RX1 29 arraycopyName, .native arraycopyName, .static arraycopyName, .initialized "java/lang/System"] ++ wsX10)
def wsX2_init : List Cond := .code yX2_init cX2_init 3 none :: ([.methodLink RX2 3 objectInit, .instanceMethod objectInit, .code objectInit ⟨#[0xb1]⟩ 1 none, .arrayClass .int, .fieldLink RX2 11 "SetAgain$Deed" "told" "[I", .fieldLink RX2 15 "SetAgain$Deed" "keptTold" "[I", .fieldLink RX2 18 "SetAgain$Deed" "keptStands" "[I", .fieldLink RX2 21 "SetAgain$Deed" "chair" "LSetAgain$Chair;", .fieldLink RX2 25 "SetAgain$Deed" "habits" "LSetAgain$Habits;"] ++ wsX20)
def wsX2_turns : List Cond := .code yX2_turns cX2_turns 4 (some .int) :: ([.fieldLink RX2 21 "SetAgain$Deed" "chair" "LSetAgain$Chair;", .fieldLink RX2 41 "SetAgain$Chair" "stands" "[I", .methodLink RX2 63 Lib.Math.abs.name, .static Lib.Math.abs.name, .initialized "java/lang/Math", .code Lib.Math.abs.name Lib.Math.abs.code 1 (some .int), .fieldLink RX2 11 "SetAgain$Deed" "told" "[I"] ++ wsX20 ++ wsX00)
def wsX2_allSlip : List Cond := .code yX2_allSlip cX2_allSlip 4 (some .int) :: ([.fieldLink RX2 21 "SetAgain$Deed" "chair" "LSetAgain$Chair;", .fieldLink RX2 41 "SetAgain$Chair" "stands" "[I", .methodLink RX2 69 yX0_slipped, .instanceMethod yX0_slipped, .selects RX0 yX0_slipped yX0_slipped, .initialized RX0, .code yX0_slipped cX0_slipped 3 (some .int), .fieldLink RX0 11 "SetAgain$Chair" "told" "[I", .methodLink RX0 36 Lib.Math.max.name, .static Lib.Math.max.name, .initialized "java/lang/Math", .code Lib.Math.max.name Lib.Math.max.code 2 (some .int)] ++ wsX20 ++ wsX00)
def wsX2_keepImage : List Cond := .code yX2_keepImage cX2_keepImage 1 (some .int) :: ([.fieldLink RX2 11 "SetAgain$Deed" "told" "[I", .fieldLink RX2 15 "SetAgain$Deed" "keptTold" "[I", .methodLink RX2 46 arraycopyName, .native arraycopyName, .static arraycopyName, .initialized "java/lang/System", .fieldLink RX2 21 "SetAgain$Deed" "chair" "LSetAgain$Chair;", .fieldLink RX2 41 "SetAgain$Chair" "stands" "[I", .fieldLink RX2 18 "SetAgain$Deed" "keptStands" "[I", .fieldLink RX2 73 "SetAgain$Deed" "kept" "Z"] ++ wsX20 ++ wsX00)
def wsX2_layBack : List Cond := .code yX2_layBack cX2_layBack 1 (some .int) :: ([.fieldLink RX2 73 "SetAgain$Deed" "kept" "Z", .fieldLink RX2 15 "SetAgain$Deed" "keptTold" "[I", .fieldLink RX2 11 "SetAgain$Deed" "told" "[I", .methodLink RX2 46 arraycopyName, .native arraycopyName, .static arraycopyName, .initialized "java/lang/System", .fieldLink RX2 18 "SetAgain$Deed" "keptStands" "[I", .fieldLink RX2 21 "SetAgain$Deed" "chair" "LSetAgain$Chair;", .fieldLink RX2 41 "SetAgain$Chair" "stands" "[I"] ++ wsX20 ++ wsX00)
def wsX3_init : List Cond := .code yX3_init cX3_init 1 none :: ([.methodLink RX3 3 objectInit, .instanceMethod objectInit, .code objectInit ⟨#[0xb1]⟩ 1 none, .arrayClass .int, .fieldLink RX3 9 "SetAgain$Desks" "kinds" "[I", .fieldLink RX3 15 "SetAgain$Desks" "trace" "[I"] ++ wsX30)
def wsX3_comes : List Cond := .code yX3_comes cX3_comes 2 (some .int) :: ([.fieldLink RX3 18 "SetAgain$Desks" "kept" "I", .fieldLink RX3 9 "SetAgain$Desks" "kinds" "[I"] ++ wsX30)
def wsX3_acts : List Cond := .code yX3_acts cX3_acts 4 (some .int) :: ([.fieldLink RX3 25 "SetAgain$Desks" "ran" "I", .fieldLink RX3 18 "SetAgain$Desks" "kept" "I", .fieldLink RX3 9 "SetAgain$Desks" "kinds" "[I", .fieldLink RX3 28 "SetAgain$Desks" "kind" "I", .fieldLink RX3 31 "SetAgain$Desks" "number" "I", .methodLink RX3 34 yX3_does, .instanceMethod yX3_does, .selects RX3 yX3_does yX3_does, .initialized RX3, .code yX3_does cX3_does 7 (some .int), .fieldLink RX3 42 "SetAgain$Desks" "OWN" "[I", .fieldLink RX3 15 "SetAgain$Desks" "trace" "[I", .fieldLink RX3 22 "SetAgain$Desks" "ABOVE" "[I", .methodLink RX3 38 yX3_ownerOf, .static yX3_ownerOf, .code yX3_ownerOf cX3_ownerOf 4 (some .int), .methodLink RX3 45 yX3_runs, .instanceMethod yX3_runs, .selects RX3 yX3_runs yX3_runs, .code yX3_runs cX3_runs 5 (some .int)] ++ wsX30)
def wsX4_init : List Cond := .code yX4_init cX4_init 3 none :: ([.methodLink RX4 3 objectInit, .instanceMethod objectInit, .code objectInit ⟨#[0xb1]⟩ 1 none, .arrayClass .int, .fieldLink RX4 9 "SetAgain$Habits" "stand" "[I", .fieldLink RX4 15 "SetAgain$Habits" "turns" "[I", .fieldLink RX4 18 "SetAgain$Habits" "spared" "[I", .fieldLink RX4 21 "SetAgain$Habits" "tried" "I", .fieldLink RX4 25 "SetAgain$Habits" "leaver" "I", .fieldLink RX4 28 "SetAgain$Habits" "chair" "LSetAgain$Chair;", .fieldLink RX4 32 "SetAgain$Habits" "week" "LSetAgain$Week;"] ++ wsX40)
def wsX5_takes : List Cond := .code yX5_takes cX5_takes 2 (some .int) :: ([.fieldLink RX5 24 "SetAgain$Law" "length" "I", .fieldLink RX5 11 "SetAgain$Law" "tape" "[I"] ++ wsX50)
def wsX5_next : List Cond := .code yX5_next cX5_next 1 (some .int) :: ([.fieldLink RX5 31 "SetAgain$Law" "fault" "I", .fieldLink RX5 28 "SetAgain$Law" "at" "I", .fieldLink RX5 24 "SetAgain$Law" "length" "I", .fieldLink RX5 11 "SetAgain$Law" "tape" "[I"] ++ wsX50)
def wsX5_write : List Cond := .code yX5_write cX5_write 2 none :: ([.fieldLink RX5 34 "SetAgain$Law" "drafted" "I", .fieldLink RX5 15 "SetAgain$Law" "draft" "[I"] ++ wsX50)
def wsX5_fail : List Cond := .code yX5_fail cX5_fail 1 none :: ([.fieldLink RX5 31 "SetAgain$Law" "fault" "I", .fieldLink RX5 28 "SetAgain$Law" "at" "I"] ++ wsX50)
def wsX5_isDigit : List Cond := .code yX5_isDigit cX5_isDigit 1 (some .boolean) :: ([])
def wsX5_isName : List Cond := .code yX5_isName cX5_isName 1 (some .boolean) :: ([])
def wsX5_both_r1 : List Cond := [Cond.fieldLink RX5 28 "SetAgain$Law" "at" "I", Cond.methodLink RX5 73 yX5_compared, Cond.instanceMethod yX5_compared, Cond.selects RX5 yX5_compared yX5_compared, Cond.initialized RX5, Cond.methodLink RX5 56 yX5_next, Cond.instanceMethod yX5_next, Cond.selects RX5 yX5_next yX5_next, Cond.code yX5_next cX5_next 1 (some .int), Cond.fieldLink RX5 31 "SetAgain$Law" "fault" "I", Cond.fieldLink RX5 24 "SetAgain$Law" "length" "I", Cond.fieldLink RX5 11 "SetAgain$Law" "tape" "[I", Cond.methodLink RX5 67 yX5_write, Cond.instanceMethod yX5_write, Cond.selects RX5 yX5_write yX5_write, Cond.code yX5_write cX5_write 2 none, Cond.fieldLink RX5 34 "SetAgain$Law" "drafted" "I", Cond.fieldLink RX5 15 "SetAgain$Law" "draft" "[I", Cond.code yX5_compared cX5_compared 3 none, Cond.methodLink RX5 76 yX5_sum, Cond.instanceMethod yX5_sum, Cond.selects RX5 yX5_sum yX5_sum, Cond.code yX5_either cX5_either 3 none, Cond.methodLink RX5 70 yX5_both]
def wsX5_both_r2 : List Cond := [Cond.instanceMethod yX5_both, Cond.selects RX5 yX5_both yX5_both, Cond.code yX5_opened cX5_opened 3 none, Cond.methodLink RX5 82 yX5_operand, Cond.instanceMethod yX5_operand, Cond.selects RX5 yX5_operand yX5_operand, Cond.methodLink RX5 63 yX5_either, Cond.instanceMethod yX5_either, Cond.selects RX5 yX5_either yX5_either, Cond.methodLink RX5 60 yX5_fail, Cond.instanceMethod yX5_fail, Cond.selects RX5 yX5_fail yX5_fail, Cond.code yX5_fail cX5_fail 1 none, Cond.code yX5_operand cX5_operand 3 none, Cond.methodLink RX5 85 yX5_isDigit, Cond.static yX5_isDigit, Cond.code yX5_isDigit cX5_isDigit 1 (some .boolean), Cond.methodLink RX5 89 yX5_number, Cond.instanceMethod yX5_number, Cond.selects RX5 yX5_number yX5_number, Cond.code yX5_number cX5_number 3 none, Cond.methodLink RX5 92 yX5_isName, Cond.static yX5_isName, Cond.code yX5_isName cX5_isName 1 (some .boolean)]
def wsX5_both_r3 : List Cond := [Cond.methodLink RX5 95 yX5_opened, Cond.instanceMethod yX5_opened, Cond.selects RX5 yX5_opened yX5_opened, Cond.code yX5_product cX5_product 4 none, Cond.code yX5_sum cX5_sum 4 none, Cond.methodLink RX5 79 yX5_product, Cond.instanceMethod yX5_product, Cond.selects RX5 yX5_product yX5_product]
def wsX5_both : List Cond := .code yX5_both cX5_both 3 none :: ((wsX5_both_r1 ++ (wsX5_both_r2 ++ wsX5_both_r3)) ++ wsX50)
def wsX5_compared_r1 : List Cond := [Cond.fieldLink RX5 28 "SetAgain$Law" "at" "I", Cond.methodLink RX5 76 yX5_sum, Cond.instanceMethod yX5_sum, Cond.selects RX5 yX5_sum yX5_sum, Cond.initialized RX5, Cond.methodLink RX5 56 yX5_next, Cond.instanceMethod yX5_next, Cond.selects RX5 yX5_next yX5_next, Cond.code yX5_next cX5_next 1 (some .int), Cond.fieldLink RX5 31 "SetAgain$Law" "fault" "I", Cond.fieldLink RX5 24 "SetAgain$Law" "length" "I", Cond.fieldLink RX5 11 "SetAgain$Law" "tape" "[I", Cond.methodLink RX5 67 yX5_write, Cond.instanceMethod yX5_write, Cond.selects RX5 yX5_write yX5_write, Cond.code yX5_write cX5_write 2 none, Cond.fieldLink RX5 34 "SetAgain$Law" "drafted" "I", Cond.fieldLink RX5 15 "SetAgain$Law" "draft" "[I", Cond.code yX5_both cX5_both 3 none, Cond.methodLink RX5 73 yX5_compared, Cond.instanceMethod yX5_compared, Cond.selects RX5 yX5_compared yX5_compared, Cond.code yX5_either cX5_either 3 none, Cond.methodLink RX5 70 yX5_both]
def wsX5_compared_r2 : List Cond := [Cond.instanceMethod yX5_both, Cond.selects RX5 yX5_both yX5_both, Cond.code yX5_opened cX5_opened 3 none, Cond.methodLink RX5 82 yX5_operand, Cond.instanceMethod yX5_operand, Cond.selects RX5 yX5_operand yX5_operand, Cond.methodLink RX5 63 yX5_either, Cond.instanceMethod yX5_either, Cond.selects RX5 yX5_either yX5_either, Cond.methodLink RX5 60 yX5_fail, Cond.instanceMethod yX5_fail, Cond.selects RX5 yX5_fail yX5_fail, Cond.code yX5_fail cX5_fail 1 none, Cond.code yX5_operand cX5_operand 3 none, Cond.methodLink RX5 85 yX5_isDigit, Cond.static yX5_isDigit, Cond.code yX5_isDigit cX5_isDigit 1 (some .boolean), Cond.methodLink RX5 89 yX5_number, Cond.instanceMethod yX5_number, Cond.selects RX5 yX5_number yX5_number, Cond.code yX5_number cX5_number 3 none, Cond.methodLink RX5 92 yX5_isName, Cond.static yX5_isName, Cond.code yX5_isName cX5_isName 1 (some .boolean)]
def wsX5_compared_r3 : List Cond := [Cond.methodLink RX5 95 yX5_opened, Cond.instanceMethod yX5_opened, Cond.selects RX5 yX5_opened yX5_opened, Cond.code yX5_product cX5_product 4 none, Cond.code yX5_sum cX5_sum 4 none, Cond.methodLink RX5 79 yX5_product, Cond.instanceMethod yX5_product, Cond.selects RX5 yX5_product yX5_product]
def wsX5_compared : List Cond := .code yX5_compared cX5_compared 3 none :: ((wsX5_compared_r1 ++ (wsX5_compared_r2 ++ wsX5_compared_r3)) ++ wsX50)
def wsX5_either_r1 : List Cond := [Cond.fieldLink RX5 28 "SetAgain$Law" "at" "I", Cond.methodLink RX5 70 yX5_both, Cond.instanceMethod yX5_both, Cond.selects RX5 yX5_both yX5_both, Cond.initialized RX5, Cond.methodLink RX5 56 yX5_next, Cond.instanceMethod yX5_next, Cond.selects RX5 yX5_next yX5_next, Cond.code yX5_next cX5_next 1 (some .int), Cond.fieldLink RX5 31 "SetAgain$Law" "fault" "I", Cond.fieldLink RX5 24 "SetAgain$Law" "length" "I", Cond.fieldLink RX5 11 "SetAgain$Law" "tape" "[I", Cond.methodLink RX5 67 yX5_write, Cond.instanceMethod yX5_write, Cond.selects RX5 yX5_write yX5_write, Cond.code yX5_write cX5_write 2 none, Cond.fieldLink RX5 34 "SetAgain$Law" "drafted" "I", Cond.fieldLink RX5 15 "SetAgain$Law" "draft" "[I", Cond.code yX5_both cX5_both 3 none, Cond.methodLink RX5 73 yX5_compared, Cond.instanceMethod yX5_compared, Cond.selects RX5 yX5_compared yX5_compared, Cond.code yX5_compared cX5_compared 3 none, Cond.methodLink RX5 76 yX5_sum]
def wsX5_either_r2 : List Cond := [Cond.instanceMethod yX5_sum, Cond.selects RX5 yX5_sum yX5_sum, Cond.code yX5_opened cX5_opened 3 none, Cond.methodLink RX5 82 yX5_operand, Cond.instanceMethod yX5_operand, Cond.selects RX5 yX5_operand yX5_operand, Cond.methodLink RX5 63 yX5_either, Cond.instanceMethod yX5_either, Cond.selects RX5 yX5_either yX5_either, Cond.methodLink RX5 60 yX5_fail, Cond.instanceMethod yX5_fail, Cond.selects RX5 yX5_fail yX5_fail, Cond.code yX5_fail cX5_fail 1 none, Cond.code yX5_operand cX5_operand 3 none, Cond.methodLink RX5 85 yX5_isDigit, Cond.static yX5_isDigit, Cond.code yX5_isDigit cX5_isDigit 1 (some .boolean), Cond.methodLink RX5 89 yX5_number, Cond.instanceMethod yX5_number, Cond.selects RX5 yX5_number yX5_number, Cond.code yX5_number cX5_number 3 none, Cond.methodLink RX5 92 yX5_isName, Cond.static yX5_isName, Cond.code yX5_isName cX5_isName 1 (some .boolean)]
def wsX5_either_r3 : List Cond := [Cond.methodLink RX5 95 yX5_opened, Cond.instanceMethod yX5_opened, Cond.selects RX5 yX5_opened yX5_opened, Cond.code yX5_product cX5_product 4 none, Cond.code yX5_sum cX5_sum 4 none, Cond.methodLink RX5 79 yX5_product, Cond.instanceMethod yX5_product, Cond.selects RX5 yX5_product yX5_product]
def wsX5_either : List Cond := .code yX5_either cX5_either 3 none :: ((wsX5_either_r1 ++ (wsX5_either_r2 ++ wsX5_either_r3)) ++ wsX50)
def wsX5_operand_r1 : List Cond := [Cond.fieldLink RX5 28 "SetAgain$Law" "at" "I", Cond.methodLink RX5 56 yX5_next, Cond.instanceMethod yX5_next, Cond.selects RX5 yX5_next yX5_next, Cond.initialized RX5, Cond.code yX5_next cX5_next 1 (some .int), Cond.fieldLink RX5 31 "SetAgain$Law" "fault" "I", Cond.fieldLink RX5 24 "SetAgain$Law" "length" "I", Cond.fieldLink RX5 11 "SetAgain$Law" "tape" "[I", Cond.methodLink RX5 85 yX5_isDigit, Cond.static yX5_isDigit, Cond.code yX5_isDigit cX5_isDigit 1 (some .boolean), Cond.methodLink RX5 89 yX5_number, Cond.instanceMethod yX5_number, Cond.selects RX5 yX5_number yX5_number, Cond.code yX5_number cX5_number 3 none, Cond.methodLink RX5 67 yX5_write, Cond.instanceMethod yX5_write, Cond.selects RX5 yX5_write yX5_write, Cond.code yX5_write cX5_write 2 none, Cond.fieldLink RX5 34 "SetAgain$Law" "drafted" "I", Cond.fieldLink RX5 15 "SetAgain$Law" "draft" "[I", Cond.methodLink RX5 92 yX5_isName, Cond.static yX5_isName]
def wsX5_operand_r2 : List Cond := [Cond.code yX5_isName cX5_isName 1 (some .boolean), Cond.methodLink RX5 60 yX5_fail, Cond.instanceMethod yX5_fail, Cond.selects RX5 yX5_fail yX5_fail, Cond.code yX5_fail cX5_fail 1 none, Cond.methodLink RX5 95 yX5_opened, Cond.instanceMethod yX5_opened, Cond.selects RX5 yX5_opened yX5_opened, Cond.code yX5_both cX5_both 3 none, Cond.methodLink RX5 73 yX5_compared, Cond.instanceMethod yX5_compared, Cond.selects RX5 yX5_compared yX5_compared, Cond.code yX5_compared cX5_compared 3 none, Cond.methodLink RX5 76 yX5_sum, Cond.instanceMethod yX5_sum, Cond.selects RX5 yX5_sum yX5_sum, Cond.code yX5_either cX5_either 3 none, Cond.methodLink RX5 70 yX5_both, Cond.instanceMethod yX5_both, Cond.selects RX5 yX5_both yX5_both, Cond.code yX5_opened cX5_opened 3 none, Cond.methodLink RX5 82 yX5_operand, Cond.instanceMethod yX5_operand, Cond.selects RX5 yX5_operand yX5_operand]
def wsX5_operand_r3 : List Cond := [Cond.methodLink RX5 63 yX5_either, Cond.instanceMethod yX5_either, Cond.selects RX5 yX5_either yX5_either, Cond.code yX5_product cX5_product 4 none, Cond.code yX5_sum cX5_sum 4 none, Cond.methodLink RX5 79 yX5_product, Cond.instanceMethod yX5_product, Cond.selects RX5 yX5_product yX5_product]
def wsX5_operand : List Cond := .code yX5_operand cX5_operand 3 none :: ((wsX5_operand_r1 ++ (wsX5_operand_r2 ++ wsX5_operand_r3)) ++ wsX50)
def wsX5_product_r1 : List Cond := [Cond.fieldLink RX5 28 "SetAgain$Law" "at" "I", Cond.methodLink RX5 82 yX5_operand, Cond.instanceMethod yX5_operand, Cond.selects RX5 yX5_operand yX5_operand, Cond.initialized RX5, Cond.methodLink RX5 56 yX5_next, Cond.instanceMethod yX5_next, Cond.selects RX5 yX5_next yX5_next, Cond.code yX5_next cX5_next 1 (some .int), Cond.fieldLink RX5 31 "SetAgain$Law" "fault" "I", Cond.fieldLink RX5 24 "SetAgain$Law" "length" "I", Cond.fieldLink RX5 11 "SetAgain$Law" "tape" "[I", Cond.methodLink RX5 67 yX5_write, Cond.instanceMethod yX5_write, Cond.selects RX5 yX5_write yX5_write, Cond.code yX5_write cX5_write 2 none, Cond.fieldLink RX5 34 "SetAgain$Law" "drafted" "I", Cond.fieldLink RX5 15 "SetAgain$Law" "draft" "[I", Cond.code yX5_both cX5_both 3 none, Cond.methodLink RX5 73 yX5_compared, Cond.instanceMethod yX5_compared, Cond.selects RX5 yX5_compared yX5_compared, Cond.code yX5_compared cX5_compared 3 none, Cond.methodLink RX5 76 yX5_sum]
def wsX5_product_r2 : List Cond := [Cond.instanceMethod yX5_sum, Cond.selects RX5 yX5_sum yX5_sum, Cond.code yX5_either cX5_either 3 none, Cond.methodLink RX5 70 yX5_both, Cond.instanceMethod yX5_both, Cond.selects RX5 yX5_both yX5_both, Cond.code yX5_opened cX5_opened 3 none, Cond.methodLink RX5 63 yX5_either, Cond.instanceMethod yX5_either, Cond.selects RX5 yX5_either yX5_either, Cond.methodLink RX5 60 yX5_fail, Cond.instanceMethod yX5_fail, Cond.selects RX5 yX5_fail yX5_fail, Cond.code yX5_fail cX5_fail 1 none, Cond.code yX5_operand cX5_operand 3 none, Cond.methodLink RX5 85 yX5_isDigit, Cond.static yX5_isDigit, Cond.code yX5_isDigit cX5_isDigit 1 (some .boolean), Cond.methodLink RX5 89 yX5_number, Cond.instanceMethod yX5_number, Cond.selects RX5 yX5_number yX5_number, Cond.code yX5_number cX5_number 3 none, Cond.methodLink RX5 92 yX5_isName, Cond.static yX5_isName]
def wsX5_product_r3 : List Cond := [Cond.code yX5_isName cX5_isName 1 (some .boolean), Cond.methodLink RX5 95 yX5_opened, Cond.instanceMethod yX5_opened, Cond.selects RX5 yX5_opened yX5_opened, Cond.code yX5_sum cX5_sum 4 none, Cond.methodLink RX5 79 yX5_product, Cond.instanceMethod yX5_product, Cond.selects RX5 yX5_product yX5_product]
def wsX5_product : List Cond := .code yX5_product cX5_product 4 none :: ((wsX5_product_r1 ++ (wsX5_product_r2 ++ wsX5_product_r3)) ++ wsX50)
def wsX5_sum_r1 : List Cond := [Cond.fieldLink RX5 28 "SetAgain$Law" "at" "I", Cond.methodLink RX5 79 yX5_product, Cond.instanceMethod yX5_product, Cond.selects RX5 yX5_product yX5_product, Cond.initialized RX5, Cond.methodLink RX5 56 yX5_next, Cond.instanceMethod yX5_next, Cond.selects RX5 yX5_next yX5_next, Cond.code yX5_next cX5_next 1 (some .int), Cond.fieldLink RX5 31 "SetAgain$Law" "fault" "I", Cond.fieldLink RX5 24 "SetAgain$Law" "length" "I", Cond.fieldLink RX5 11 "SetAgain$Law" "tape" "[I", Cond.methodLink RX5 67 yX5_write, Cond.instanceMethod yX5_write, Cond.selects RX5 yX5_write yX5_write, Cond.code yX5_write cX5_write 2 none, Cond.fieldLink RX5 34 "SetAgain$Law" "drafted" "I", Cond.fieldLink RX5 15 "SetAgain$Law" "draft" "[I", Cond.code yX5_both cX5_both 3 none, Cond.methodLink RX5 73 yX5_compared, Cond.instanceMethod yX5_compared, Cond.selects RX5 yX5_compared yX5_compared, Cond.code yX5_compared cX5_compared 3 none, Cond.methodLink RX5 76 yX5_sum]
def wsX5_sum_r2 : List Cond := [Cond.instanceMethod yX5_sum, Cond.selects RX5 yX5_sum yX5_sum, Cond.code yX5_either cX5_either 3 none, Cond.methodLink RX5 70 yX5_both, Cond.instanceMethod yX5_both, Cond.selects RX5 yX5_both yX5_both, Cond.code yX5_opened cX5_opened 3 none, Cond.methodLink RX5 82 yX5_operand, Cond.instanceMethod yX5_operand, Cond.selects RX5 yX5_operand yX5_operand, Cond.methodLink RX5 63 yX5_either, Cond.instanceMethod yX5_either, Cond.selects RX5 yX5_either yX5_either, Cond.methodLink RX5 60 yX5_fail, Cond.instanceMethod yX5_fail, Cond.selects RX5 yX5_fail yX5_fail, Cond.code yX5_fail cX5_fail 1 none, Cond.code yX5_operand cX5_operand 3 none, Cond.methodLink RX5 85 yX5_isDigit, Cond.static yX5_isDigit, Cond.code yX5_isDigit cX5_isDigit 1 (some .boolean), Cond.methodLink RX5 89 yX5_number, Cond.instanceMethod yX5_number, Cond.selects RX5 yX5_number yX5_number]
def wsX5_sum_r3 : List Cond := [Cond.code yX5_number cX5_number 3 none, Cond.methodLink RX5 92 yX5_isName, Cond.static yX5_isName, Cond.code yX5_isName cX5_isName 1 (some .boolean), Cond.methodLink RX5 95 yX5_opened, Cond.instanceMethod yX5_opened, Cond.selects RX5 yX5_opened yX5_opened, Cond.code yX5_product cX5_product 4 none]
def wsX5_sum : List Cond := .code yX5_sum cX5_sum 4 none :: ((wsX5_sum_r1 ++ (wsX5_sum_r2 ++ wsX5_sum_r3)) ++ wsX50)
def wsX5_line_r1 : List Cond := [Cond.fieldLink RX5 28 "SetAgain$Law" "at" "I", Cond.methodLink RX5 63 yX5_either, Cond.instanceMethod yX5_either, Cond.selects RX5 yX5_either yX5_either, Cond.initialized RX5, Cond.code yX5_either cX5_either 3 none, Cond.methodLink RX5 70 yX5_both, Cond.instanceMethod yX5_both, Cond.selects RX5 yX5_both yX5_both, Cond.methodLink RX5 56 yX5_next, Cond.instanceMethod yX5_next, Cond.selects RX5 yX5_next yX5_next, Cond.code yX5_next cX5_next 1 (some .int), Cond.fieldLink RX5 31 "SetAgain$Law" "fault" "I", Cond.fieldLink RX5 24 "SetAgain$Law" "length" "I", Cond.fieldLink RX5 11 "SetAgain$Law" "tape" "[I", Cond.methodLink RX5 67 yX5_write, Cond.instanceMethod yX5_write, Cond.selects RX5 yX5_write yX5_write, Cond.code yX5_write cX5_write 2 none, Cond.fieldLink RX5 34 "SetAgain$Law" "drafted" "I", Cond.fieldLink RX5 15 "SetAgain$Law" "draft" "[I", Cond.code yX5_both cX5_both 3 none, Cond.methodLink RX5 73 yX5_compared]
def wsX5_line_r2 : List Cond := [Cond.instanceMethod yX5_compared, Cond.selects RX5 yX5_compared yX5_compared, Cond.code yX5_compared cX5_compared 3 none, Cond.methodLink RX5 76 yX5_sum, Cond.instanceMethod yX5_sum, Cond.selects RX5 yX5_sum yX5_sum, Cond.code yX5_opened cX5_opened 3 none, Cond.methodLink RX5 82 yX5_operand, Cond.instanceMethod yX5_operand, Cond.selects RX5 yX5_operand yX5_operand, Cond.methodLink RX5 60 yX5_fail, Cond.instanceMethod yX5_fail, Cond.selects RX5 yX5_fail yX5_fail, Cond.code yX5_fail cX5_fail 1 none, Cond.code yX5_operand cX5_operand 3 none, Cond.methodLink RX5 85 yX5_isDigit, Cond.static yX5_isDigit, Cond.code yX5_isDigit cX5_isDigit 1 (some .boolean), Cond.methodLink RX5 89 yX5_number, Cond.instanceMethod yX5_number, Cond.selects RX5 yX5_number yX5_number, Cond.code yX5_number cX5_number 3 none, Cond.methodLink RX5 92 yX5_isName, Cond.static yX5_isName]
def wsX5_line_r3 : List Cond := [Cond.code yX5_isName cX5_isName 1 (some .boolean), Cond.methodLink RX5 95 yX5_opened, Cond.instanceMethod yX5_opened, Cond.selects RX5 yX5_opened yX5_opened, Cond.code yX5_product cX5_product 4 none, Cond.code yX5_sum cX5_sum 4 none, Cond.methodLink RX5 79 yX5_product, Cond.instanceMethod yX5_product, Cond.selects RX5 yX5_product yX5_product]
def wsX5_line : List Cond := .code yX5_line cX5_line 1 none :: ((wsX5_line_r1 ++ (wsX5_line_r2 ++ wsX5_line_r3)) ++ wsX50)
def wsX5_lines_r1 : List Cond := [Cond.fieldLink RX5 28 "SetAgain$Law" "at" "I", Cond.fieldLink RX5 24 "SetAgain$Law" "length" "I", Cond.methodLink RX5 53 yX5_line, Cond.instanceMethod yX5_line, Cond.selects RX5 yX5_line yX5_line, Cond.initialized RX5, Cond.code yX5_line cX5_line 1 none, Cond.methodLink RX5 63 yX5_either, Cond.instanceMethod yX5_either, Cond.selects RX5 yX5_either yX5_either, Cond.code yX5_either cX5_either 3 none, Cond.methodLink RX5 70 yX5_both, Cond.instanceMethod yX5_both, Cond.selects RX5 yX5_both yX5_both, Cond.methodLink RX5 56 yX5_next, Cond.instanceMethod yX5_next, Cond.selects RX5 yX5_next yX5_next, Cond.code yX5_next cX5_next 1 (some .int), Cond.fieldLink RX5 31 "SetAgain$Law" "fault" "I", Cond.fieldLink RX5 11 "SetAgain$Law" "tape" "[I", Cond.methodLink RX5 67 yX5_write, Cond.instanceMethod yX5_write, Cond.selects RX5 yX5_write yX5_write, Cond.code yX5_write cX5_write 2 none]
def wsX5_lines_r2 : List Cond := [Cond.fieldLink RX5 34 "SetAgain$Law" "drafted" "I", Cond.fieldLink RX5 15 "SetAgain$Law" "draft" "[I", Cond.code yX5_both cX5_both 3 none, Cond.methodLink RX5 73 yX5_compared, Cond.instanceMethod yX5_compared, Cond.selects RX5 yX5_compared yX5_compared, Cond.code yX5_compared cX5_compared 3 none, Cond.methodLink RX5 76 yX5_sum, Cond.instanceMethod yX5_sum, Cond.selects RX5 yX5_sum yX5_sum, Cond.code yX5_opened cX5_opened 3 none, Cond.methodLink RX5 82 yX5_operand, Cond.instanceMethod yX5_operand, Cond.selects RX5 yX5_operand yX5_operand, Cond.methodLink RX5 60 yX5_fail, Cond.instanceMethod yX5_fail, Cond.selects RX5 yX5_fail yX5_fail, Cond.code yX5_fail cX5_fail 1 none, Cond.code yX5_operand cX5_operand 3 none, Cond.methodLink RX5 85 yX5_isDigit, Cond.static yX5_isDigit, Cond.code yX5_isDigit cX5_isDigit 1 (some .boolean), Cond.methodLink RX5 89 yX5_number, Cond.instanceMethod yX5_number]
def wsX5_lines_r3 : List Cond := [Cond.selects RX5 yX5_number yX5_number, Cond.code yX5_number cX5_number 3 none, Cond.methodLink RX5 92 yX5_isName, Cond.static yX5_isName, Cond.code yX5_isName cX5_isName 1 (some .boolean), Cond.methodLink RX5 95 yX5_opened, Cond.instanceMethod yX5_opened, Cond.selects RX5 yX5_opened yX5_opened, Cond.code yX5_product cX5_product 4 none, Cond.code yX5_sum cX5_sum 4 none, Cond.methodLink RX5 79 yX5_product, Cond.instanceMethod yX5_product, Cond.selects RX5 yX5_product yX5_product]
def wsX5_lines : List Cond := .code yX5_lines cX5_lines 2 none :: ((wsX5_lines_r1 ++ (wsX5_lines_r2 ++ wsX5_lines_r3)) ++ wsX50)
def wsX5_isRead_r1 : List Cond := [Cond.fieldLink RX5 28 "SetAgain$Law" "at" "I", Cond.fieldLink RX5 31 "SetAgain$Law" "fault" "I", Cond.fieldLink RX5 34 "SetAgain$Law" "drafted" "I", Cond.fieldLink RX5 24 "SetAgain$Law" "length" "I", Cond.fieldLink RX5 15 "SetAgain$Law" "draft" "[I", Cond.fieldLink RX5 18 "SetAgain$Law" "code" "[I", Cond.methodLink RX5 40 arraycopyName, Cond.native arraycopyName, Cond.static arraycopyName, Cond.initialized "java/lang/System", Cond.fieldLink RX5 46 "SetAgain$Law" "coded" "I", Cond.fieldLink RX5 49 "SetAgain$Law" "holds" "Z", Cond.methodLink RX5 37 yX5_lines, Cond.instanceMethod yX5_lines, Cond.selects RX5 yX5_lines yX5_lines, Cond.initialized RX5, Cond.code yX5_lines cX5_lines 2 none, Cond.methodLink RX5 53 yX5_line, Cond.instanceMethod yX5_line, Cond.selects RX5 yX5_line yX5_line, Cond.code yX5_line cX5_line 1 none, Cond.methodLink RX5 63 yX5_either, Cond.instanceMethod yX5_either, Cond.selects RX5 yX5_either yX5_either]
def wsX5_isRead_r2 : List Cond := [Cond.code yX5_either cX5_either 3 none, Cond.methodLink RX5 70 yX5_both, Cond.instanceMethod yX5_both, Cond.selects RX5 yX5_both yX5_both, Cond.methodLink RX5 56 yX5_next, Cond.instanceMethod yX5_next, Cond.selects RX5 yX5_next yX5_next, Cond.code yX5_next cX5_next 1 (some .int), Cond.fieldLink RX5 11 "SetAgain$Law" "tape" "[I", Cond.methodLink RX5 67 yX5_write, Cond.instanceMethod yX5_write, Cond.selects RX5 yX5_write yX5_write, Cond.code yX5_write cX5_write 2 none, Cond.code yX5_both cX5_both 3 none, Cond.methodLink RX5 73 yX5_compared, Cond.instanceMethod yX5_compared, Cond.selects RX5 yX5_compared yX5_compared, Cond.code yX5_compared cX5_compared 3 none, Cond.methodLink RX5 76 yX5_sum, Cond.instanceMethod yX5_sum, Cond.selects RX5 yX5_sum yX5_sum, Cond.code yX5_opened cX5_opened 3 none, Cond.methodLink RX5 82 yX5_operand, Cond.instanceMethod yX5_operand]
def wsX5_isRead_r3 : List Cond := [Cond.selects RX5 yX5_operand yX5_operand, Cond.methodLink RX5 60 yX5_fail, Cond.instanceMethod yX5_fail, Cond.selects RX5 yX5_fail yX5_fail, Cond.code yX5_fail cX5_fail 1 none, Cond.code yX5_operand cX5_operand 3 none, Cond.methodLink RX5 85 yX5_isDigit, Cond.static yX5_isDigit, Cond.code yX5_isDigit cX5_isDigit 1 (some .boolean), Cond.methodLink RX5 89 yX5_number, Cond.instanceMethod yX5_number, Cond.selects RX5 yX5_number yX5_number, Cond.code yX5_number cX5_number 3 none, Cond.methodLink RX5 92 yX5_isName, Cond.static yX5_isName, Cond.code yX5_isName cX5_isName 1 (some .boolean), Cond.methodLink RX5 95 yX5_opened, Cond.instanceMethod yX5_opened, Cond.selects RX5 yX5_opened yX5_opened, Cond.code yX5_product cX5_product 4 none, Cond.code yX5_sum cX5_sum 4 none, Cond.methodLink RX5 79 yX5_product, Cond.instanceMethod yX5_product, Cond.selects RX5 yX5_product yX5_product]
def wsX5_isRead : List Cond := .code yX5_isRead cX5_isRead 1 (some .int) :: ((wsX5_isRead_r1 ++ (wsX5_isRead_r2 ++ wsX5_isRead_r3)) ++ wsX50)
def wsX6_init : List Cond := .code yX6_init cX6_init 2 none :: ([.methodLink RX6 3 objectInit, .instanceMethod objectInit, .code objectInit ⟨#[0xb1]⟩ 1 none, .fieldLink RX6 9 "SetAgain$Seen" "chair" "LSetAgain$Chair;"] ++ wsX60)
def wsX7_init : List Cond := .code yX7_init cX7_init 1 none :: ([.methodLink RX7 3 objectInit, .instanceMethod objectInit, .code objectInit ⟨#[0xb1]⟩ 1 none, .arrayClass .long, .fieldLink RX7 9 "SetAgain$Shelf" "elements" "[J", .fieldLink RX7 15 "SetAgain$Shelf" "sort" "I"] ++ wsX70)
def wsX7_takesDesk : List Cond := .code yX7_takesDesk cX7_takesDesk 2 none :: ([.fieldLink RX7 15 "SetAgain$Shelf" "sort" "I", .fieldLink RX7 19 "SetAgain$Shelf" "desk" "I"] ++ wsX70)
def wsX7_takesRow : List Cond := .code yX7_takesRow cX7_takesRow 4 none :: ([.fieldLink RX7 15 "SetAgain$Shelf" "sort" "I", .fieldLink RX7 22 "SetAgain$Shelf" "length" "I", .fieldLink RX7 9 "SetAgain$Shelf" "elements" "[J"] ++ wsX70)
def wsX8_init : List Cond := .code yX8_init cX8_init 3 none :: ([.methodLink RX8 3 objectInit, .instanceMethod objectInit, .code objectInit ⟨#[0xb1]⟩ 1 none, .arrayClass .int, .fieldLink RX8 9 "SetAgain$Still" "weight" "[I", .arrayClass .boolean, .fieldLink RX8 15 "SetAgain$Still" "wanted" "[Z", .fieldLink RX8 19 "SetAgain$Still" "ones" "[I", .fieldLink RX8 22 "SetAgain$Still" "sums" "[I", .fieldLink RX8 25 "SetAgain$Still" "leasts" "[I", .fieldLink RX8 28 "SetAgain$Still" "group" "[I", .fieldLink RX8 31 "SetAgain$Still" "bestGroup" "[I", .fieldLink RX8 34 "SetAgain$Still" "chair" "LSetAgain$Chair;", .fieldLink RX8 38 "SetAgain$Still" "week" "LSetAgain$Week;"] ++ wsX80)
def wsX9_init : List Cond := .code yX9_init cX9_init 3 none :: ([.methodLink RX9 3 objectInit, .instanceMethod objectInit, .code objectInit ⟨#[0xb1]⟩ 1 none, .arrayClass .int, .fieldLink RX9 9 "SetAgain$Turning" "ahead" "[I", .fieldLink RX9 15 "SetAgain$Turning" "chair" "LSetAgain$Chair;", .fieldLink RX9 19 "SetAgain$Turning" "week" "LSetAgain$Week;"] ++ wsX90)
def wsX10_init : List Cond := .code yX10_init cX10_init 1 none :: ([.methodLink RX10 3 objectInit, .instanceMethod objectInit, .code objectInit ⟨#[0xb1]⟩ 1 none, .arrayClass .int, .fieldLink RX10 9 "SetAgain$Week" "sitters" "[I", .fieldLink RX10 15 "SetAgain$Week" "times" "[I"] ++ wsX100)
def wsX11_init_r1 : List Cond := [Cond.methodLink RX11 3 objectInit, Cond.instanceMethod objectInit, Cond.code objectInit ⟨#[0xb1]⟩ 1 none, Cond.classLink RX11 9 RX0, Cond.instantiable RX0 5, Cond.initialized RX0, Cond.fieldLink RX11 12 "SetAgain" "chair" "LSetAgain$Chair;", Cond.classLink RX11 16 RX10, Cond.instantiable RX10 4, Cond.initialized RX10, Cond.fieldLink RX11 19 "SetAgain" "week" "LSetAgain$Week;", Cond.classLink RX11 23 RX4, Cond.instantiable RX4 11, Cond.initialized RX4, Cond.fieldLink RX11 28 "SetAgain" "habits" "LSetAgain$Habits;", Cond.classLink RX11 32 RX8, Cond.instantiable RX8 13, Cond.initialized RX8, Cond.fieldLink RX11 35 "SetAgain" "still" "LSetAgain$Still;", Cond.classLink RX11 39 RX9, Cond.instantiable RX9 3, Cond.initialized RX9, Cond.fieldLink RX11 42 "SetAgain" "turning" "LSetAgain$Turning;", Cond.classLink RX11 46 RX6]
def wsX11_init_r2 : List Cond := [Cond.instantiable RX6 3, Cond.initialized RX6, Cond.fieldLink RX11 51 "SetAgain" "seen" "LSetAgain$Seen;", Cond.classLink RX11 55 RX2, Cond.instantiable RX2 6, Cond.initialized RX2, Cond.fieldLink RX11 60 "SetAgain" "deed" "LSetAgain$Deed;", Cond.classLink RX11 64 RX1, Cond.instantiable RX1 5, Cond.initialized RX1, Cond.fieldLink RX11 67 "SetAgain" "changes" "LSetAgain$Changes;", Cond.classLink RX11 71 RX3, Cond.instantiable RX3 6, Cond.initialized RX3, Cond.fieldLink RX11 74 "SetAgain" "desks" "LSetAgain$Desks;", Cond.classLink RX11 78 RX7, Cond.fieldLink RX11 80 "SetAgain" "shelves" "[LSetAgain$Shelf;", Cond.instantiable RX7 4, Cond.initialized RX7, Cond.methodLink RX11 11 yX0_init, Cond.instanceMethod yX0_init, Cond.code yX0_init cX0_init 2 none, Cond.methodLink RX0 5 objectInit, Cond.arrayClass .int]
def wsX11_init_r3 : List Cond := [Cond.fieldLink RX0 11 "SetAgain$Chair" "told" "[I", Cond.fieldLink RX0 15 "SetAgain$Chair" "stands" "[I", Cond.classLink RX0 18 RX5, Cond.instantiable RX5 10, Cond.initialized RX5, Cond.fieldLink RX0 21 "SetAgain$Chair" "law" "LSetAgain$Law;", Cond.fieldLink RX0 25 "SetAgain$Chair" "lost" "[I", Cond.instanceMethod yX5_init, Cond.code yX5_init cX5_init 1 none, Cond.methodLink RX5 3 objectInit, Cond.fieldLink RX5 11 "SetAgain$Law" "tape" "[I", Cond.fieldLink RX5 15 "SetAgain$Law" "draft" "[I", Cond.fieldLink RX5 18 "SetAgain$Law" "code" "[I", Cond.fieldLink RX5 21 "SetAgain$Law" "stack" "[I", Cond.instanceMethod yX10_init, Cond.code yX10_init cX10_init 1 none, Cond.methodLink RX10 3 objectInit, Cond.fieldLink RX10 9 "SetAgain$Week" "sitters" "[I", Cond.fieldLink RX10 15 "SetAgain$Week" "times" "[I", Cond.methodLink RX11 25 yX4_init, Cond.instanceMethod yX4_init, Cond.code yX4_init cX4_init 3 none, Cond.methodLink RX4 3 objectInit, Cond.fieldLink RX4 9 "SetAgain$Habits" "stand" "[I"]
def wsX11_init_r4 : List Cond := [Cond.fieldLink RX4 15 "SetAgain$Habits" "turns" "[I", Cond.fieldLink RX4 18 "SetAgain$Habits" "spared" "[I", Cond.fieldLink RX4 21 "SetAgain$Habits" "tried" "I", Cond.fieldLink RX4 25 "SetAgain$Habits" "leaver" "I", Cond.fieldLink RX4 28 "SetAgain$Habits" "chair" "LSetAgain$Chair;", Cond.fieldLink RX4 32 "SetAgain$Habits" "week" "LSetAgain$Week;", Cond.methodLink RX11 34 yX8_init, Cond.instanceMethod yX8_init, Cond.code yX8_init cX8_init 3 none, Cond.methodLink RX8 3 objectInit, Cond.fieldLink RX8 9 "SetAgain$Still" "weight" "[I", Cond.arrayClass .boolean, Cond.fieldLink RX8 15 "SetAgain$Still" "wanted" "[Z", Cond.fieldLink RX8 19 "SetAgain$Still" "ones" "[I", Cond.fieldLink RX8 22 "SetAgain$Still" "sums" "[I", Cond.fieldLink RX8 25 "SetAgain$Still" "leasts" "[I", Cond.fieldLink RX8 28 "SetAgain$Still" "group" "[I", Cond.fieldLink RX8 31 "SetAgain$Still" "bestGroup" "[I", Cond.fieldLink RX8 34 "SetAgain$Still" "chair" "LSetAgain$Chair;", Cond.fieldLink RX8 38 "SetAgain$Still" "week" "LSetAgain$Week;", Cond.methodLink RX11 41 yX9_init, Cond.instanceMethod yX9_init, Cond.code yX9_init cX9_init 3 none, Cond.methodLink RX9 3 objectInit]
def wsX11_init_r5 : List Cond := [Cond.fieldLink RX9 9 "SetAgain$Turning" "ahead" "[I", Cond.fieldLink RX9 15 "SetAgain$Turning" "chair" "LSetAgain$Chair;", Cond.fieldLink RX9 19 "SetAgain$Turning" "week" "LSetAgain$Week;", Cond.methodLink RX11 48 yX6_init, Cond.instanceMethod yX6_init, Cond.code yX6_init cX6_init 2 none, Cond.methodLink RX6 3 objectInit, Cond.fieldLink RX6 9 "SetAgain$Seen" "chair" "LSetAgain$Chair;", Cond.methodLink RX11 57 yX2_init, Cond.instanceMethod yX2_init, Cond.code yX2_init cX2_init 3 none, Cond.methodLink RX2 3 objectInit, Cond.fieldLink RX2 11 "SetAgain$Deed" "told" "[I", Cond.fieldLink RX2 15 "SetAgain$Deed" "keptTold" "[I", Cond.fieldLink RX2 18 "SetAgain$Deed" "keptStands" "[I", Cond.fieldLink RX2 21 "SetAgain$Deed" "chair" "LSetAgain$Chair;", Cond.fieldLink RX2 25 "SetAgain$Deed" "habits" "LSetAgain$Habits;", Cond.instanceMethod yX1_init, Cond.code yX1_init cX1_init 1 none, Cond.methodLink RX1 1 objectInit, Cond.fieldLink RX1 9 "SetAgain$Changes" "places" "[I", Cond.fieldLink RX1 13 "SetAgain$Changes" "before" "[I", Cond.fieldLink RX1 16 "SetAgain$Changes" "after" "[I", Cond.instanceMethod yX3_init]
def wsX11_init_r6 : List Cond := [Cond.code yX3_init cX3_init 1 none, Cond.methodLink RX3 3 objectInit, Cond.fieldLink RX3 9 "SetAgain$Desks" "kinds" "[I", Cond.fieldLink RX3 15 "SetAgain$Desks" "trace" "[I", Cond.instanceMethod yX7_init, Cond.code yX7_init cX7_init 1 none, Cond.methodLink RX7 3 objectInit, Cond.arrayClass .long, Cond.fieldLink RX7 9 "SetAgain$Shelf" "elements" "[J", Cond.fieldLink RX7 15 "SetAgain$Shelf" "sort" "I"]
def wsX11_init : List Cond := .code yX11_init cX11_init 2 none :: ((wsX11_init_r1 ++ (wsX11_init_r2 ++ (wsX11_init_r3 ++ (wsX11_init_r4 ++ (wsX11_init_r5 ++ wsX11_init_r6))))) ++ wsX00 ++ wsX110 ++ wsX100 ++ wsX40 ++ wsX80 ++ wsX90 ++ wsX60 ++ wsX20 ++ wsX10 ++ wsX30 ++ wsX70 ++ wsX50)
def wsX11_isSetting : List Cond := .code yX11_isSetting cX11_isSetting 1 (some .boolean) :: ([])
def wsX11_fits : List Cond := .code yX11_fits cX11_fits 2 (some .boolean) :: ([.fieldLink RX11 314 "SetAgain" "MOST" "[I", .fieldLink RX11 317 "SetAgain" "LEAST" "[I"])
def wsX11_sitter : List Cond := .code yX11_sitter cX11_sitter 3 (some .int) :: ([.fieldLink RX11 12 "SetAgain" "chair" "LSetAgain$Chair;", .methodLink RX11 85 yX11_isSetting, .static yX11_isSetting, .initialized RX11, .code yX11_isSetting cX11_isSetting 1 (some .boolean), .methodLink RX11 89 yX11_fits, .static yX11_fits, .code yX11_fits cX11_fits 2 (some .boolean), .fieldLink RX11 314 "SetAgain" "MOST" "[I", .fieldLink RX11 317 "SetAgain" "LEAST" "[I", .methodLink RX11 93 yX0_comes, .instanceMethod yX0_comes, .selects RX0 yX0_comes yX0_comes, .initialized RX0, .code yX0_comes cX0_comes 6 (some .int), .fieldLink RX0 28 "SetAgain$Chair" "sitters" "I", .fieldLink RX0 11 "SetAgain$Chair" "told" "[I", .methodLink RX0 32 yX0_forget, .instanceMethod yX0_forget, .selects RX0 yX0_forget yX0_forget, .code yX0_forget cX0_forget 4 none, .fieldLink RX0 25 "SetAgain$Chair" "lost" "[I"] ++ wsX110 ++ wsX00)
def wsX11_isShelf : List Cond := .code yX11_isShelf cX11_isShelf 1 (some .boolean) :: ([])
def wsX11_sitters_r1 : List Cond := [Cond.fieldLink RX11 80 "SetAgain" "shelves" "[LSetAgain$Shelf;", Cond.fieldLink RX11 100 "SetAgain$Shelf" "sort" "I", Cond.methodLink RX11 97 yX11_isShelf, Cond.static yX11_isShelf, Cond.initialized RX11, Cond.code yX11_isShelf cX11_isShelf 1 (some .boolean), Cond.methodLink RX11 104 yX11_fromRow, Cond.instanceMethod yX11_fromRow, Cond.selects RX11 yX11_fromRow yX11_fromRow, Cond.code yX11_fromRow cX11_fromRow 6 (some .int), Cond.methodLink RX11 295 yX7_hasPlaces, Cond.instanceMethod yX7_hasPlaces, Cond.selects RX7 yX7_hasPlaces yX7_hasPlaces, Cond.initialized RX7, Cond.code yX7_hasPlaces cX7_hasPlaces 3 (some .boolean), Cond.fieldLink RX7 22 "SetAgain$Shelf" "length" "I", Cond.methodLink RX11 324 yX11_comesFrom, Cond.instanceMethod yX11_comesFrom, Cond.selects RX11 yX11_comesFrom yX11_comesFrom, Cond.code yX11_comesFrom cX11_comesFrom 6 (some .boolean), Cond.fieldLink RX11 281 "SetAgain$Shelf" "elements" "[J", Cond.fieldLink RX11 12 "SetAgain" "chair" "LSetAgain$Chair;", Cond.methodLink RX11 85 yX11_isSetting, Cond.static yX11_isSetting]
def wsX11_sitters_r2 : List Cond := [Cond.code yX11_isSetting cX11_isSetting 1 (some .boolean), Cond.methodLink RX11 89 yX11_fits, Cond.static yX11_fits, Cond.code yX11_fits cX11_fits 2 (some .boolean), Cond.fieldLink RX11 314 "SetAgain" "MOST" "[I", Cond.fieldLink RX11 317 "SetAgain" "LEAST" "[I", Cond.methodLink RX11 93 yX0_comes, Cond.instanceMethod yX0_comes, Cond.selects RX0 yX0_comes yX0_comes, Cond.initialized RX0, Cond.code yX0_comes cX0_comes 6 (some .int), Cond.fieldLink RX0 28 "SetAgain$Chair" "sitters" "I", Cond.fieldLink RX0 11 "SetAgain$Chair" "told" "[I", Cond.methodLink RX0 32 yX0_forget, Cond.instanceMethod yX0_forget, Cond.selects RX0 yX0_forget yX0_forget, Cond.code yX0_forget cX0_forget 4 none, Cond.fieldLink RX0 25 "SetAgain$Chair" "lost" "[I"]
def wsX11_sitters : List Cond := .code yX11_sitters cX11_sitters 5 (some .int) :: ((wsX11_sitters_r1 ++ wsX11_sitters_r2) ++ wsX110 ++ wsX70 ++ wsX00)
def wsX11_mend_r1 : List Cond := [Cond.fieldLink RX11 12 "SetAgain" "chair" "LSetAgain$Chair;", Cond.fieldLink RX11 112 "SetAgain$Chair" "told" "[I", Cond.fieldLink RX11 67 "SetAgain" "changes" "LSetAgain$Changes;", Cond.methodLink RX11 108 yX0_placeOf, Cond.instanceMethod yX0_placeOf, Cond.selects RX0 yX0_placeOf yX0_placeOf, Cond.initialized RX0, Cond.code yX0_placeOf cX0_placeOf 3 (some .int), Cond.fieldLink RX0 28 "SetAgain$Chair" "sitters" "I", Cond.methodLink RX11 89 yX11_fits, Cond.static yX11_fits, Cond.initialized RX11, Cond.code yX11_fits cX11_fits 2 (some .boolean), Cond.fieldLink RX11 314 "SetAgain" "MOST" "[I", Cond.fieldLink RX11 317 "SetAgain" "LEAST" "[I", Cond.methodLink RX11 116 yX1_comes, Cond.instanceMethod yX1_comes, Cond.selects RX1 yX1_comes yX1_comes, Cond.initialized RX1, Cond.code yX1_comes cX1_comes 4 none, Cond.fieldLink RX1 19 "SetAgain$Changes" "done" "I", Cond.fieldLink RX1 9 "SetAgain$Changes" "places" "[I", Cond.fieldLink RX1 13 "SetAgain$Changes" "before" "[I", Cond.fieldLink RX1 16 "SetAgain$Changes" "after" "[I"]
def wsX11_mend_r2 : List Cond := [Cond.fieldLink RX1 26 "SetAgain$Changes" "kept" "I", Cond.methodLink RX1 23 yX1_dropOldest, Cond.instanceMethod yX1_dropOldest, Cond.selects RX1 yX1_dropOldest yX1_dropOldest, Cond.code yX1_dropOldest cX1_dropOldest 1 none, Cond.methodLink RX1 29 arraycopyName, Cond.native arraycopyName, Cond.static arraycopyName, Cond.initialized "java/lang/System", Cond.methodLink RX11 119 yX0_becomes, Cond.instanceMethod yX0_becomes, Cond.selects RX0 yX0_becomes yX0_becomes, Cond.code yX0_becomes cX0_becomes 3 none, Cond.fieldLink RX0 11 "SetAgain$Chair" "told" "[I", Cond.methodLink RX0 32 yX0_forget, Cond.instanceMethod yX0_forget, Cond.selects RX0 yX0_forget yX0_forget, Cond.code yX0_forget cX0_forget 4 none, Cond.fieldLink RX0 25 "SetAgain$Chair" "lost" "[I"]
def wsX11_mend : List Cond := .code yX11_mend cX11_mend 6 (some .int) :: ((wsX11_mend_r1 ++ wsX11_mend_r2) ++ wsX110 ++ wsX00 ++ wsX10)
def wsX11_isPart : List Cond := .code yX11_isPart cX11_isPart 1 (some .boolean) :: ([])
def wsX11_of : List Cond := .code yX11_of cX11_of 4 (some .int) :: ([.fieldLink RX11 12 "SetAgain" "chair" "LSetAgain$Chair;", .fieldLink RX11 126 "SetAgain$Chair" "stands" "[I", .fieldLink RX11 112 "SetAgain$Chair" "told" "[I", .methodLink RX11 123 yX11_isPart, .static yX11_isPart, .initialized RX11, .code yX11_isPart cX11_isPart 1 (some .boolean), .methodLink RX11 108 yX0_placeOf, .instanceMethod yX0_placeOf, .selects RX0 yX0_placeOf yX0_placeOf, .initialized RX0, .code yX0_placeOf cX0_placeOf 3 (some .int), .fieldLink RX0 28 "SetAgain$Chair" "sitters" "I"] ++ wsX110 ++ wsX00)
def wsX11_feed : List Cond := .code yX11_feed cX11_feed 2 (some .int) :: ([.fieldLink RX11 12 "SetAgain" "chair" "LSetAgain$Chair;", .fieldLink RX11 129 "SetAgain$Chair" "law" "LSetAgain$Law;", .methodLink RX11 133 yX5_takes, .instanceMethod yX5_takes, .selects RX5 yX5_takes yX5_takes, .initialized RX5, .code yX5_takes cX5_takes 2 (some .int), .fieldLink RX5 24 "SetAgain$Law" "length" "I", .fieldLink RX5 11 "SetAgain$Law" "tape" "[I"] ++ wsX110 ++ wsX00 ++ wsX50)
def wsX11_law_r1 : List Cond := [Cond.fieldLink RX11 12 "SetAgain" "chair" "LSetAgain$Chair;", Cond.fieldLink RX11 129 "SetAgain$Chair" "law" "LSetAgain$Law;", Cond.methodLink RX11 139 yX5_isRead, Cond.instanceMethod yX5_isRead, Cond.selects RX5 yX5_isRead yX5_isRead, Cond.initialized RX5, Cond.code yX5_isRead cX5_isRead 1 (some .int), Cond.fieldLink RX5 28 "SetAgain$Law" "at" "I", Cond.fieldLink RX5 31 "SetAgain$Law" "fault" "I", Cond.fieldLink RX5 34 "SetAgain$Law" "drafted" "I", Cond.fieldLink RX5 24 "SetAgain$Law" "length" "I", Cond.fieldLink RX5 15 "SetAgain$Law" "draft" "[I", Cond.fieldLink RX5 18 "SetAgain$Law" "code" "[I", Cond.methodLink RX5 40 arraycopyName, Cond.native arraycopyName, Cond.static arraycopyName, Cond.initialized "java/lang/System", Cond.fieldLink RX5 46 "SetAgain$Law" "coded" "I", Cond.fieldLink RX5 49 "SetAgain$Law" "holds" "Z", Cond.methodLink RX5 37 yX5_lines, Cond.instanceMethod yX5_lines, Cond.selects RX5 yX5_lines yX5_lines, Cond.code yX5_lines cX5_lines 2 none, Cond.methodLink RX5 53 yX5_line]
def wsX11_law_r2 : List Cond := [Cond.instanceMethod yX5_line, Cond.selects RX5 yX5_line yX5_line, Cond.code yX5_line cX5_line 1 none, Cond.methodLink RX5 63 yX5_either, Cond.instanceMethod yX5_either, Cond.selects RX5 yX5_either yX5_either, Cond.code yX5_either cX5_either 3 none, Cond.methodLink RX5 70 yX5_both, Cond.instanceMethod yX5_both, Cond.selects RX5 yX5_both yX5_both, Cond.methodLink RX5 56 yX5_next, Cond.instanceMethod yX5_next, Cond.selects RX5 yX5_next yX5_next, Cond.code yX5_next cX5_next 1 (some .int), Cond.fieldLink RX5 11 "SetAgain$Law" "tape" "[I", Cond.methodLink RX5 67 yX5_write, Cond.instanceMethod yX5_write, Cond.selects RX5 yX5_write yX5_write, Cond.code yX5_write cX5_write 2 none, Cond.code yX5_both cX5_both 3 none, Cond.methodLink RX5 73 yX5_compared, Cond.instanceMethod yX5_compared, Cond.selects RX5 yX5_compared yX5_compared, Cond.code yX5_compared cX5_compared 3 none]
def wsX11_law_r3 : List Cond := [Cond.methodLink RX5 76 yX5_sum, Cond.instanceMethod yX5_sum, Cond.selects RX5 yX5_sum yX5_sum, Cond.code yX5_opened cX5_opened 3 none, Cond.methodLink RX5 82 yX5_operand, Cond.instanceMethod yX5_operand, Cond.selects RX5 yX5_operand yX5_operand, Cond.methodLink RX5 60 yX5_fail, Cond.instanceMethod yX5_fail, Cond.selects RX5 yX5_fail yX5_fail, Cond.code yX5_fail cX5_fail 1 none, Cond.code yX5_operand cX5_operand 3 none, Cond.methodLink RX5 85 yX5_isDigit, Cond.static yX5_isDigit, Cond.code yX5_isDigit cX5_isDigit 1 (some .boolean), Cond.methodLink RX5 89 yX5_number, Cond.instanceMethod yX5_number, Cond.selects RX5 yX5_number yX5_number, Cond.code yX5_number cX5_number 3 none, Cond.methodLink RX5 92 yX5_isName, Cond.static yX5_isName, Cond.code yX5_isName cX5_isName 1 (some .boolean), Cond.methodLink RX5 95 yX5_opened, Cond.instanceMethod yX5_opened]
def wsX11_law_r4 : List Cond := [Cond.selects RX5 yX5_opened yX5_opened, Cond.code yX5_product cX5_product 4 none, Cond.code yX5_sum cX5_sum 4 none, Cond.methodLink RX5 79 yX5_product, Cond.instanceMethod yX5_product, Cond.selects RX5 yX5_product yX5_product, Cond.methodLink RX11 143 yX0_forgetAll, Cond.instanceMethod yX0_forgetAll, Cond.selects RX0 yX0_forgetAll yX0_forgetAll, Cond.initialized RX0, Cond.code yX0_forgetAll cX0_forgetAll 2 none, Cond.methodLink RX0 32 yX0_forget, Cond.instanceMethod yX0_forget, Cond.selects RX0 yX0_forget yX0_forget, Cond.code yX0_forget cX0_forget 4 none, Cond.fieldLink RX0 25 "SetAgain$Chair" "lost" "[I"]
def wsX11_law : List Cond := .code yX11_law cX11_law 2 (some .int) :: ((wsX11_law_r1 ++ (wsX11_law_r2 ++ (wsX11_law_r3 ++ wsX11_law_r4))) ++ wsX110 ++ wsX00 ++ wsX50)
def wsX11_loss_r1 : List Cond := [Cond.fieldLink RX11 12 "SetAgain" "chair" "LSetAgain$Chair;", Cond.methodLink RX11 146 yX0_has, Cond.instanceMethod yX0_has, Cond.selects RX0 yX0_has yX0_has, Cond.initialized RX0, Cond.code yX0_has cX0_has 2 (some .boolean), Cond.fieldLink RX0 28 "SetAgain$Chair" "sitters" "I", Cond.methodLink RX11 123 yX11_isPart, Cond.static yX11_isPart, Cond.initialized RX11, Cond.code yX11_isPart cX11_isPart 1 (some .boolean), Cond.methodLink RX11 85 yX11_isSetting, Cond.static yX11_isSetting, Cond.code yX11_isSetting cX11_isSetting 1 (some .boolean), Cond.methodLink RX11 149 yX0_lossAt, Cond.instanceMethod yX0_lossAt, Cond.selects RX0 yX0_lossAt yX0_lossAt, Cond.code yX0_lossAt cX0_lossAt 9 (some .int), Cond.fieldLink RX0 25 "SetAgain$Chair" "lost" "[I", Cond.fieldLink RX0 21 "SetAgain$Chair" "law" "LSetAgain$Law;", Cond.fieldLink RX0 49 "SetAgain$Law" "holds" "Z", Cond.methodLink RX0 45 Lib.Math.abs.name, Cond.static Lib.Math.abs.name, Cond.initialized "java/lang/Math"]
def wsX11_loss_r2 : List Cond := [Cond.code Lib.Math.abs.name Lib.Math.abs.code 1 (some .int), Cond.methodLink RX0 57 Lib.Math.min.name, Cond.static Lib.Math.min.name, Cond.code Lib.Math.min.name Lib.Math.min.code 2 (some .int), Cond.methodLink RX0 36 Lib.Math.max.name, Cond.static Lib.Math.max.name, Cond.code Lib.Math.max.name Lib.Math.max.code 2 (some .int), Cond.methodLink RX0 42 yX0_numberOf, Cond.instanceMethod yX0_numberOf, Cond.selects RX0 yX0_numberOf yX0_numberOf, Cond.code yX0_numberOf cX0_numberOf 3 (some .int), Cond.fieldLink RX0 11 "SetAgain$Chair" "told" "[I", Cond.methodLink RX0 53 yX5_valueOf, Cond.instanceMethod yX5_valueOf, Cond.selects RX5 yX5_valueOf yX5_valueOf, Cond.initialized RX5, Cond.code yX5_valueOf cX5_valueOf 10 (some .int), Cond.fieldLink RX5 46 "SetAgain$Law" "coded" "I", Cond.fieldLink RX5 18 "SetAgain$Law" "code" "[I", Cond.fieldLink RX5 21 "SetAgain$Law" "stack" "[I", Cond.methodLink RX5 99 yX5_operands, Cond.static yX5_operands, Cond.code yX5_operands cX5_operands 1 (some .int), Cond.methodLink RX5 103 yX5_named]
def wsX11_loss_r3 : List Cond := [Cond.static yX5_named, Cond.code yX5_named cX5_named 5 (some .int), Cond.methodLink RX5 111 Lib.Math.abs.name, Cond.methodLink RX5 107 yX5_worked, Cond.static yX5_worked, Cond.code yX5_worked cX5_worked 3 (some .int)]
def wsX11_loss : List Cond := .code yX11_loss cX11_loss 4 (some .int) :: ((wsX11_loss_r1 ++ (wsX11_loss_r2 ++ wsX11_loss_r3)) ++ wsX110 ++ wsX00 ++ wsX50)
def wsX11_refusalOf : List Cond := .code yX11_refusalOf cX11_refusalOf 2 (some .int) :: ([.fieldLink RX11 80 "SetAgain" "shelves" "[LSetAgain$Shelf;", .fieldLink RX11 100 "SetAgain$Shelf" "sort" "I"] ++ wsX110 ++ wsX70)
def wsX11_readWeek_r1 : List Cond := [Cond.fieldLink RX11 19 "SetAgain" "week" "LSetAgain$Week;", Cond.fieldLink RX11 80 "SetAgain" "shelves" "[LSetAgain$Shelf;", Cond.fieldLink RX11 12 "SetAgain" "chair" "LSetAgain$Chair;", Cond.fieldLink RX11 310 "SetAgain$Chair" "sitters" "I", Cond.methodLink RX11 209 yX11_refusalOf, Cond.instanceMethod yX11_refusalOf, Cond.selects RX11 yX11_refusalOf yX11_refusalOf, Cond.initialized RX11, Cond.code yX11_refusalOf cX11_refusalOf 2 (some .int), Cond.fieldLink RX11 100 "SetAgain$Shelf" "sort" "I", Cond.methodLink RX11 320 yX10_reads, Cond.instanceMethod yX10_reads, Cond.selects RX10 yX10_reads yX10_reads, Cond.initialized RX10, Cond.code yX10_reads cX10_reads 5 none, Cond.fieldLink RX10 18 "SetAgain$Shelf" "length" "I", Cond.methodLink RX10 24 Lib.Math.min.name, Cond.static Lib.Math.min.name, Cond.initialized "java/lang/Math", Cond.code Lib.Math.min.name Lib.Math.min.code 2 (some .int), Cond.fieldLink RX10 30 "SetAgain$Week" "length" "I", Cond.fieldLink RX10 31 "SetAgain$Week" "sat" "I", Cond.fieldLink RX10 15 "SetAgain$Week" "times" "[I", Cond.fieldLink RX10 34 "SetAgain$Shelf" "elements" "[J"]
def wsX11_readWeek_r2 : List Cond := [Cond.fieldLink RX10 9 "SetAgain$Week" "sitters" "[I"]
def wsX11_readWeek : List Cond := .code yX11_readWeek cX11_readWeek 3 (some .int) :: ((wsX11_readWeek_r1 ++ wsX11_readWeek_r2) ++ wsX110 ++ wsX00 ++ wsX70 ++ wsX100)
def wsX11_never_r1 : List Cond := [Cond.fieldLink RX11 35 "SetAgain" "still" "LSetAgain$Still;", Cond.methodLink RX11 97 yX11_isShelf, Cond.static yX11_isShelf, Cond.initialized RX11, Cond.code yX11_isShelf cX11_isShelf 1 (some .boolean), Cond.methodLink RX11 123 yX11_isPart, Cond.static yX11_isPart, Cond.code yX11_isPart cX11_isPart 1 (some .boolean), Cond.methodLink RX11 85 yX11_isSetting, Cond.static yX11_isSetting, Cond.code yX11_isSetting cX11_isSetting 1 (some .boolean), Cond.methodLink RX11 153 yX11_readWeek, Cond.instanceMethod yX11_readWeek, Cond.selects RX11 yX11_readWeek yX11_readWeek, Cond.code yX11_readWeek cX11_readWeek 3 (some .int), Cond.fieldLink RX11 19 "SetAgain" "week" "LSetAgain$Week;", Cond.fieldLink RX11 80 "SetAgain" "shelves" "[LSetAgain$Shelf;", Cond.fieldLink RX11 12 "SetAgain" "chair" "LSetAgain$Chair;", Cond.fieldLink RX11 310 "SetAgain$Chair" "sitters" "I", Cond.methodLink RX11 209 yX11_refusalOf, Cond.instanceMethod yX11_refusalOf, Cond.selects RX11 yX11_refusalOf yX11_refusalOf, Cond.code yX11_refusalOf cX11_refusalOf 2 (some .int), Cond.fieldLink RX11 100 "SetAgain$Shelf" "sort" "I"]
def wsX11_never_r2 : List Cond := [Cond.methodLink RX11 320 yX10_reads, Cond.instanceMethod yX10_reads, Cond.selects RX10 yX10_reads yX10_reads, Cond.initialized RX10, Cond.code yX10_reads cX10_reads 5 none, Cond.fieldLink RX10 18 "SetAgain$Shelf" "length" "I", Cond.methodLink RX10 24 Lib.Math.min.name, Cond.static Lib.Math.min.name, Cond.initialized "java/lang/Math", Cond.code Lib.Math.min.name Lib.Math.min.code 2 (some .int), Cond.fieldLink RX10 30 "SetAgain$Week" "length" "I", Cond.fieldLink RX10 31 "SetAgain$Week" "sat" "I", Cond.fieldLink RX10 15 "SetAgain$Week" "times" "[I", Cond.fieldLink RX10 34 "SetAgain$Shelf" "elements" "[J", Cond.fieldLink RX10 9 "SetAgain$Week" "sitters" "[I", Cond.methodLink RX11 156 yX8_allLosses, Cond.instanceMethod yX8_allLosses, Cond.selects RX8 yX8_allLosses yX8_allLosses, Cond.initialized RX8, Cond.code yX8_allLosses cX8_allLosses 5 (some .int), Cond.fieldLink RX8 38 "SetAgain$Still" "week" "LSetAgain$Week;", Cond.fieldLink RX8 42 "SetAgain$Week" "times" "[I", Cond.fieldLink RX8 34 "SetAgain$Still" "chair" "LSetAgain$Chair;", Cond.methodLink RX8 47 yX0_lossAt]
def wsX11_never_r3 : List Cond := [Cond.instanceMethod yX0_lossAt, Cond.selects RX0 yX0_lossAt yX0_lossAt, Cond.initialized RX0, Cond.code yX0_lossAt cX0_lossAt 9 (some .int), Cond.fieldLink RX0 25 "SetAgain$Chair" "lost" "[I", Cond.fieldLink RX0 21 "SetAgain$Chair" "law" "LSetAgain$Law;", Cond.fieldLink RX0 49 "SetAgain$Law" "holds" "Z", Cond.methodLink RX0 45 Lib.Math.abs.name, Cond.static Lib.Math.abs.name, Cond.code Lib.Math.abs.name Lib.Math.abs.code 1 (some .int), Cond.methodLink RX0 57 Lib.Math.min.name, Cond.methodLink RX0 36 Lib.Math.max.name, Cond.static Lib.Math.max.name, Cond.code Lib.Math.max.name Lib.Math.max.code 2 (some .int), Cond.methodLink RX0 42 yX0_numberOf, Cond.instanceMethod yX0_numberOf, Cond.selects RX0 yX0_numberOf yX0_numberOf, Cond.code yX0_numberOf cX0_numberOf 3 (some .int), Cond.fieldLink RX0 11 "SetAgain$Chair" "told" "[I", Cond.methodLink RX0 53 yX5_valueOf, Cond.instanceMethod yX5_valueOf, Cond.selects RX5 yX5_valueOf yX5_valueOf, Cond.initialized RX5, Cond.code yX5_valueOf cX5_valueOf 10 (some .int)]
def wsX11_never_r4 : List Cond := [Cond.fieldLink RX5 46 "SetAgain$Law" "coded" "I", Cond.fieldLink RX5 18 "SetAgain$Law" "code" "[I", Cond.fieldLink RX5 21 "SetAgain$Law" "stack" "[I", Cond.methodLink RX5 99 yX5_operands, Cond.static yX5_operands, Cond.code yX5_operands cX5_operands 1 (some .int), Cond.methodLink RX5 103 yX5_named, Cond.static yX5_named, Cond.code yX5_named cX5_named 5 (some .int), Cond.methodLink RX5 111 Lib.Math.abs.name, Cond.methodLink RX5 107 yX5_worked, Cond.static yX5_worked, Cond.code yX5_worked cX5_worked 3 (some .int)]
def wsX11_never : List Cond := .code yX11_never cX11_never 5 (some .int) :: ((wsX11_never_r1 ++ (wsX11_never_r2 ++ (wsX11_never_r3 ++ wsX11_never_r4))) ++ wsX110 ++ wsX00 ++ wsX70 ++ wsX100 ++ wsX80 ++ wsX50)
def wsX11_best_r1 : List Cond := [Cond.fieldLink RX11 19 "SetAgain" "week" "LSetAgain$Week;", Cond.fieldLink RX11 159 "SetAgain$Week" "sat" "I", Cond.fieldLink RX11 35 "SetAgain" "still" "LSetAgain$Still;", Cond.methodLink RX11 97 yX11_isShelf, Cond.static yX11_isShelf, Cond.initialized RX11, Cond.code yX11_isShelf cX11_isShelf 1 (some .boolean), Cond.methodLink RX11 123 yX11_isPart, Cond.static yX11_isPart, Cond.code yX11_isPart cX11_isPart 1 (some .boolean), Cond.methodLink RX11 153 yX11_readWeek, Cond.instanceMethod yX11_readWeek, Cond.selects RX11 yX11_readWeek yX11_readWeek, Cond.code yX11_readWeek cX11_readWeek 3 (some .int), Cond.fieldLink RX11 80 "SetAgain" "shelves" "[LSetAgain$Shelf;", Cond.fieldLink RX11 12 "SetAgain" "chair" "LSetAgain$Chair;", Cond.fieldLink RX11 310 "SetAgain$Chair" "sitters" "I", Cond.methodLink RX11 209 yX11_refusalOf, Cond.instanceMethod yX11_refusalOf, Cond.selects RX11 yX11_refusalOf yX11_refusalOf, Cond.code yX11_refusalOf cX11_refusalOf 2 (some .int), Cond.fieldLink RX11 100 "SetAgain$Shelf" "sort" "I", Cond.methodLink RX11 320 yX10_reads, Cond.instanceMethod yX10_reads]
def wsX11_best_r2 : List Cond := [Cond.selects RX10 yX10_reads yX10_reads, Cond.initialized RX10, Cond.code yX10_reads cX10_reads 5 none, Cond.fieldLink RX10 18 "SetAgain$Shelf" "length" "I", Cond.methodLink RX10 24 Lib.Math.min.name, Cond.static Lib.Math.min.name, Cond.initialized "java/lang/Math", Cond.code Lib.Math.min.name Lib.Math.min.code 2 (some .int), Cond.fieldLink RX10 30 "SetAgain$Week" "length" "I", Cond.fieldLink RX10 31 "SetAgain$Week" "sat" "I", Cond.fieldLink RX10 15 "SetAgain$Week" "times" "[I", Cond.fieldLink RX10 34 "SetAgain$Shelf" "elements" "[J", Cond.fieldLink RX10 9 "SetAgain$Week" "sitters" "[I", Cond.methodLink RX11 162 yX8_bestOf, Cond.instanceMethod yX8_bestOf, Cond.selects RX8 yX8_bestOf yX8_bestOf, Cond.initialized RX8, Cond.code yX8_bestOf cX8_bestOf 7 (some .int), Cond.methodLink RX8 59 yX8_allLosses, Cond.instanceMethod yX8_allLosses, Cond.selects RX8 yX8_allLosses yX8_allLosses, Cond.code yX8_allLosses cX8_allLosses 5 (some .int), Cond.fieldLink RX8 38 "SetAgain$Still" "week" "LSetAgain$Week;", Cond.fieldLink RX8 42 "SetAgain$Week" "times" "[I"]
def wsX11_best_r3 : List Cond := [Cond.fieldLink RX8 34 "SetAgain$Still" "chair" "LSetAgain$Chair;", Cond.methodLink RX8 47 yX0_lossAt, Cond.instanceMethod yX0_lossAt, Cond.selects RX0 yX0_lossAt yX0_lossAt, Cond.initialized RX0, Cond.code yX0_lossAt cX0_lossAt 9 (some .int), Cond.fieldLink RX0 25 "SetAgain$Chair" "lost" "[I", Cond.fieldLink RX0 21 "SetAgain$Chair" "law" "LSetAgain$Law;", Cond.fieldLink RX0 49 "SetAgain$Law" "holds" "Z", Cond.methodLink RX0 45 Lib.Math.abs.name, Cond.static Lib.Math.abs.name, Cond.code Lib.Math.abs.name Lib.Math.abs.code 1 (some .int), Cond.methodLink RX0 57 Lib.Math.min.name, Cond.methodLink RX0 36 Lib.Math.max.name, Cond.static Lib.Math.max.name, Cond.code Lib.Math.max.name Lib.Math.max.code 2 (some .int), Cond.methodLink RX0 42 yX0_numberOf, Cond.instanceMethod yX0_numberOf, Cond.selects RX0 yX0_numberOf yX0_numberOf, Cond.code yX0_numberOf cX0_numberOf 3 (some .int), Cond.fieldLink RX0 11 "SetAgain$Chair" "told" "[I", Cond.methodLink RX0 53 yX5_valueOf, Cond.instanceMethod yX5_valueOf, Cond.selects RX5 yX5_valueOf yX5_valueOf]
def wsX11_best_r4 : List Cond := [Cond.initialized RX5, Cond.code yX5_valueOf cX5_valueOf 10 (some .int), Cond.fieldLink RX5 46 "SetAgain$Law" "coded" "I", Cond.fieldLink RX5 18 "SetAgain$Law" "code" "[I", Cond.fieldLink RX5 21 "SetAgain$Law" "stack" "[I", Cond.methodLink RX5 99 yX5_operands, Cond.static yX5_operands, Cond.code yX5_operands cX5_operands 1 (some .int), Cond.methodLink RX5 103 yX5_named, Cond.static yX5_named, Cond.code yX5_named cX5_named 5 (some .int), Cond.methodLink RX5 111 Lib.Math.abs.name, Cond.methodLink RX5 107 yX5_worked, Cond.static yX5_worked, Cond.code yX5_worked cX5_worked 3 (some .int), Cond.methodLink RX8 62 yX8_worstLoss, Cond.instanceMethod yX8_worstLoss, Cond.selects RX8 yX8_worstLoss yX8_worstLoss, Cond.code yX8_worstLoss cX8_worstLoss 5 (some .int), Cond.methodLink RX8 53 Lib.Math.max.name]
def wsX11_best : List Cond := .code yX11_best cX11_best 5 (some .int) :: ((wsX11_best_r1 ++ (wsX11_best_r2 ++ (wsX11_best_r3 ++ wsX11_best_r4))) ++ wsX110 ++ wsX100 ++ wsX00 ++ wsX70 ++ wsX80 ++ wsX50)
def wsX11_middle_r1 : List Cond := [Cond.fieldLink RX11 19 "SetAgain" "week" "LSetAgain$Week;", Cond.fieldLink RX11 159 "SetAgain$Week" "sat" "I", Cond.fieldLink RX11 35 "SetAgain" "still" "LSetAgain$Still;", Cond.methodLink RX11 97 yX11_isShelf, Cond.static yX11_isShelf, Cond.initialized RX11, Cond.code yX11_isShelf cX11_isShelf 1 (some .boolean), Cond.methodLink RX11 123 yX11_isPart, Cond.static yX11_isPart, Cond.code yX11_isPart cX11_isPart 1 (some .boolean), Cond.methodLink RX11 153 yX11_readWeek, Cond.instanceMethod yX11_readWeek, Cond.selects RX11 yX11_readWeek yX11_readWeek, Cond.code yX11_readWeek cX11_readWeek 3 (some .int), Cond.fieldLink RX11 80 "SetAgain" "shelves" "[LSetAgain$Shelf;", Cond.fieldLink RX11 12 "SetAgain" "chair" "LSetAgain$Chair;", Cond.fieldLink RX11 310 "SetAgain$Chair" "sitters" "I", Cond.methodLink RX11 209 yX11_refusalOf, Cond.instanceMethod yX11_refusalOf, Cond.selects RX11 yX11_refusalOf yX11_refusalOf, Cond.code yX11_refusalOf cX11_refusalOf 2 (some .int), Cond.fieldLink RX11 100 "SetAgain$Shelf" "sort" "I", Cond.methodLink RX11 320 yX10_reads, Cond.instanceMethod yX10_reads]
def wsX11_middle_r2 : List Cond := [Cond.selects RX10 yX10_reads yX10_reads, Cond.initialized RX10, Cond.code yX10_reads cX10_reads 5 none, Cond.fieldLink RX10 18 "SetAgain$Shelf" "length" "I", Cond.methodLink RX10 24 Lib.Math.min.name, Cond.static Lib.Math.min.name, Cond.initialized "java/lang/Math", Cond.code Lib.Math.min.name Lib.Math.min.code 2 (some .int), Cond.fieldLink RX10 30 "SetAgain$Week" "length" "I", Cond.fieldLink RX10 31 "SetAgain$Week" "sat" "I", Cond.fieldLink RX10 15 "SetAgain$Week" "times" "[I", Cond.fieldLink RX10 34 "SetAgain$Shelf" "elements" "[J", Cond.fieldLink RX10 9 "SetAgain$Week" "sitters" "[I", Cond.methodLink RX11 165 yX8_middleWant, Cond.instanceMethod yX8_middleWant, Cond.selects RX8 yX8_middleWant yX8_middleWant, Cond.initialized RX8, Cond.code yX8_middleWant cX8_middleWant 5 (some .int), Cond.fieldLink RX8 9 "SetAgain$Still" "weight" "[I", Cond.fieldLink RX8 15 "SetAgain$Still" "wanted" "[Z", Cond.methodLink RX8 65 yX8_weighWants, Cond.instanceMethod yX8_weighWants, Cond.selects RX8 yX8_weighWants yX8_weighWants, Cond.code yX8_weighWants cX8_weighWants 7 (some .int)]
def wsX11_middle_r3 : List Cond := [Cond.fieldLink RX8 38 "SetAgain$Still" "week" "LSetAgain$Week;", Cond.fieldLink RX8 42 "SetAgain$Week" "times" "[I", Cond.fieldLink RX8 34 "SetAgain$Still" "chair" "LSetAgain$Chair;", Cond.methodLink RX8 69 yX0_numberOf, Cond.instanceMethod yX0_numberOf, Cond.selects RX0 yX0_numberOf yX0_numberOf, Cond.initialized RX0, Cond.code yX0_numberOf cX0_numberOf 3 (some .int), Cond.fieldLink RX0 11 "SetAgain$Chair" "told" "[I"]
def wsX11_middle : List Cond := .code yX11_middle cX11_middle 4 (some .int) :: ((wsX11_middle_r1 ++ (wsX11_middle_r2 ++ wsX11_middle_r3)) ++ wsX110 ++ wsX100 ++ wsX00 ++ wsX70 ++ wsX80)
def wsX11_shifts_r1 : List Cond := [Cond.fieldLink RX11 19 "SetAgain" "week" "LSetAgain$Week;", Cond.fieldLink RX11 168 "SetAgain$Week" "length" "I", Cond.fieldLink RX11 42 "SetAgain" "turning" "LSetAgain$Turning;", Cond.methodLink RX11 97 yX11_isShelf, Cond.static yX11_isShelf, Cond.initialized RX11, Cond.code yX11_isShelf cX11_isShelf 1 (some .boolean), Cond.methodLink RX11 123 yX11_isPart, Cond.static yX11_isPart, Cond.code yX11_isPart cX11_isPart 1 (some .boolean), Cond.methodLink RX11 153 yX11_readWeek, Cond.instanceMethod yX11_readWeek, Cond.selects RX11 yX11_readWeek yX11_readWeek, Cond.code yX11_readWeek cX11_readWeek 3 (some .int), Cond.fieldLink RX11 80 "SetAgain" "shelves" "[LSetAgain$Shelf;", Cond.fieldLink RX11 12 "SetAgain" "chair" "LSetAgain$Chair;", Cond.fieldLink RX11 310 "SetAgain$Chair" "sitters" "I", Cond.methodLink RX11 209 yX11_refusalOf, Cond.instanceMethod yX11_refusalOf, Cond.selects RX11 yX11_refusalOf yX11_refusalOf, Cond.code yX11_refusalOf cX11_refusalOf 2 (some .int), Cond.fieldLink RX11 100 "SetAgain$Shelf" "sort" "I", Cond.methodLink RX11 320 yX10_reads, Cond.instanceMethod yX10_reads]
def wsX11_shifts_r2 : List Cond := [Cond.selects RX10 yX10_reads yX10_reads, Cond.initialized RX10, Cond.code yX10_reads cX10_reads 5 none, Cond.fieldLink RX10 18 "SetAgain$Shelf" "length" "I", Cond.methodLink RX10 24 Lib.Math.min.name, Cond.static Lib.Math.min.name, Cond.initialized "java/lang/Math", Cond.code Lib.Math.min.name Lib.Math.min.code 2 (some .int), Cond.fieldLink RX10 30 "SetAgain$Week" "length" "I", Cond.fieldLink RX10 31 "SetAgain$Week" "sat" "I", Cond.fieldLink RX10 15 "SetAgain$Week" "times" "[I", Cond.fieldLink RX10 34 "SetAgain$Shelf" "elements" "[J", Cond.fieldLink RX10 9 "SetAgain$Week" "sitters" "[I", Cond.methodLink RX11 171 yX9_shiftByShift, Cond.instanceMethod yX9_shiftByShift, Cond.selects RX9 yX9_shiftByShift yX9_shiftByShift, Cond.initialized RX9, Cond.code yX9_shiftByShift cX9_shiftByShift 6 (some .int), Cond.fieldLink RX9 15 "SetAgain$Turning" "chair" "LSetAgain$Chair;", Cond.fieldLink RX9 27 "SetAgain$Chair" "stands" "[I", Cond.fieldLink RX9 9 "SetAgain$Turning" "ahead" "[I", Cond.methodLink RX9 23 yX9_pay, Cond.instanceMethod yX9_pay, Cond.selects RX9 yX9_pay yX9_pay]
def wsX11_shifts_r3 : List Cond := [Cond.code yX9_pay cX9_pay 6 none, Cond.fieldLink RX9 19 "SetAgain$Turning" "week" "LSetAgain$Week;", Cond.fieldLink RX9 40 "SetAgain$Week" "length" "I", Cond.methodLink RX9 46 yX9_unturned, Cond.instanceMethod yX9_unturned, Cond.selects RX9 yX9_unturned yX9_unturned, Cond.code yX9_unturned cX9_unturned 5 (some .int), Cond.fieldLink RX9 57 "SetAgain$Week" "sitters" "[I", Cond.methodLink RX9 60 yX0_lossAt, Cond.instanceMethod yX0_lossAt, Cond.selects RX0 yX0_lossAt yX0_lossAt, Cond.initialized RX0, Cond.code yX0_lossAt cX0_lossAt 9 (some .int), Cond.fieldLink RX0 25 "SetAgain$Chair" "lost" "[I", Cond.fieldLink RX0 21 "SetAgain$Chair" "law" "LSetAgain$Law;", Cond.fieldLink RX0 49 "SetAgain$Law" "holds" "Z", Cond.methodLink RX0 45 Lib.Math.abs.name, Cond.static Lib.Math.abs.name, Cond.code Lib.Math.abs.name Lib.Math.abs.code 1 (some .int), Cond.methodLink RX0 57 Lib.Math.min.name, Cond.methodLink RX0 36 Lib.Math.max.name, Cond.static Lib.Math.max.name, Cond.code Lib.Math.max.name Lib.Math.max.code 2 (some .int), Cond.methodLink RX0 42 yX0_numberOf]
def wsX11_shifts_r4 : List Cond := [Cond.instanceMethod yX0_numberOf, Cond.selects RX0 yX0_numberOf yX0_numberOf, Cond.code yX0_numberOf cX0_numberOf 3 (some .int), Cond.fieldLink RX0 11 "SetAgain$Chair" "told" "[I", Cond.methodLink RX0 53 yX5_valueOf, Cond.instanceMethod yX5_valueOf, Cond.selects RX5 yX5_valueOf yX5_valueOf, Cond.initialized RX5, Cond.code yX5_valueOf cX5_valueOf 10 (some .int), Cond.fieldLink RX5 46 "SetAgain$Law" "coded" "I", Cond.fieldLink RX5 18 "SetAgain$Law" "code" "[I", Cond.fieldLink RX5 21 "SetAgain$Law" "stack" "[I", Cond.methodLink RX5 99 yX5_operands, Cond.static yX5_operands, Cond.code yX5_operands cX5_operands 1 (some .int), Cond.methodLink RX5 103 yX5_named, Cond.static yX5_named, Cond.code yX5_named cX5_named 5 (some .int), Cond.methodLink RX5 111 Lib.Math.abs.name, Cond.methodLink RX5 107 yX5_worked, Cond.static yX5_worked, Cond.code yX5_worked cX5_worked 3 (some .int), Cond.methodLink RX9 36 yX0_slipped, Cond.instanceMethod yX0_slipped]
def wsX11_shifts_r5 : List Cond := [Cond.selects RX0 yX0_slipped yX0_slipped, Cond.code yX0_slipped cX0_slipped 3 (some .int), Cond.methodLink RX9 49 yX0_priceOf, Cond.instanceMethod yX0_priceOf, Cond.selects RX0 yX0_priceOf yX0_priceOf, Cond.code yX0_priceOf cX0_priceOf 2 (some .int), Cond.methodLink RX9 53 yX9_spread, Cond.instanceMethod yX9_spread, Cond.selects RX9 yX9_spread yX9_spread, Cond.code yX9_spread cX9_spread 4 none, Cond.methodLink RX9 63 Lib.Math.min.name, Cond.methodLink RX9 32 yX9_leastSetting, Cond.instanceMethod yX9_leastSetting, Cond.selects RX9 yX9_leastSetting yX9_leastSetting, Cond.code yX9_leastSetting cX9_leastSetting 7 (some .int), Cond.methodLink RX9 68 Lib.Math.abs.name]
def wsX11_shifts : List Cond := .code yX11_shifts cX11_shifts 5 (some .int) :: ((wsX11_shifts_r1 ++ (wsX11_shifts_r2 ++ (wsX11_shifts_r3 ++ (wsX11_shifts_r4 ++ wsX11_shifts_r5)))) ++ wsX110 ++ wsX100 ++ wsX00 ++ wsX70 ++ wsX90 ++ wsX50)
def wsX11_once_r1 : List Cond := [Cond.fieldLink RX11 42 "SetAgain" "turning" "LSetAgain$Turning;", Cond.methodLink RX11 97 yX11_isShelf, Cond.static yX11_isShelf, Cond.initialized RX11, Cond.code yX11_isShelf cX11_isShelf 1 (some .boolean), Cond.methodLink RX11 123 yX11_isPart, Cond.static yX11_isPart, Cond.code yX11_isPart cX11_isPart 1 (some .boolean), Cond.methodLink RX11 153 yX11_readWeek, Cond.instanceMethod yX11_readWeek, Cond.selects RX11 yX11_readWeek yX11_readWeek, Cond.code yX11_readWeek cX11_readWeek 3 (some .int), Cond.fieldLink RX11 19 "SetAgain" "week" "LSetAgain$Week;", Cond.fieldLink RX11 80 "SetAgain" "shelves" "[LSetAgain$Shelf;", Cond.fieldLink RX11 12 "SetAgain" "chair" "LSetAgain$Chair;", Cond.fieldLink RX11 310 "SetAgain$Chair" "sitters" "I", Cond.methodLink RX11 209 yX11_refusalOf, Cond.instanceMethod yX11_refusalOf, Cond.selects RX11 yX11_refusalOf yX11_refusalOf, Cond.code yX11_refusalOf cX11_refusalOf 2 (some .int), Cond.fieldLink RX11 100 "SetAgain$Shelf" "sort" "I", Cond.methodLink RX11 320 yX10_reads, Cond.instanceMethod yX10_reads, Cond.selects RX10 yX10_reads yX10_reads]
def wsX11_once_r2 : List Cond := [Cond.initialized RX10, Cond.code yX10_reads cX10_reads 5 none, Cond.fieldLink RX10 18 "SetAgain$Shelf" "length" "I", Cond.methodLink RX10 24 Lib.Math.min.name, Cond.static Lib.Math.min.name, Cond.initialized "java/lang/Math", Cond.code Lib.Math.min.name Lib.Math.min.code 2 (some .int), Cond.fieldLink RX10 30 "SetAgain$Week" "length" "I", Cond.fieldLink RX10 31 "SetAgain$Week" "sat" "I", Cond.fieldLink RX10 15 "SetAgain$Week" "times" "[I", Cond.fieldLink RX10 34 "SetAgain$Shelf" "elements" "[J", Cond.fieldLink RX10 9 "SetAgain$Week" "sitters" "[I", Cond.methodLink RX11 174 yX9_oneTurning, Cond.instanceMethod yX9_oneTurning, Cond.selects RX9 yX9_oneTurning yX9_oneTurning, Cond.initialized RX9, Cond.code yX9_oneTurning cX9_oneTurning 12 (some .int), Cond.fieldLink RX9 15 "SetAgain$Turning" "chair" "LSetAgain$Chair;", Cond.fieldLink RX9 27 "SetAgain$Chair" "stands" "[I", Cond.fieldLink RX9 9 "SetAgain$Turning" "ahead" "[I", Cond.fieldLink RX9 19 "SetAgain$Turning" "week" "LSetAgain$Week;", Cond.fieldLink RX9 40 "SetAgain$Week" "length" "I", Cond.methodLink RX9 68 Lib.Math.abs.name, Cond.static Lib.Math.abs.name]
def wsX11_once_r3 : List Cond := [Cond.code Lib.Math.abs.name Lib.Math.abs.code 1 (some .int), Cond.fieldLink RX9 57 "SetAgain$Week" "sitters" "[I", Cond.methodLink RX9 23 yX9_pay, Cond.instanceMethod yX9_pay, Cond.selects RX9 yX9_pay yX9_pay, Cond.code yX9_pay cX9_pay 6 none, Cond.methodLink RX9 46 yX9_unturned, Cond.instanceMethod yX9_unturned, Cond.selects RX9 yX9_unturned yX9_unturned, Cond.code yX9_unturned cX9_unturned 5 (some .int), Cond.methodLink RX9 60 yX0_lossAt, Cond.instanceMethod yX0_lossAt, Cond.selects RX0 yX0_lossAt yX0_lossAt, Cond.initialized RX0, Cond.code yX0_lossAt cX0_lossAt 9 (some .int), Cond.fieldLink RX0 25 "SetAgain$Chair" "lost" "[I", Cond.fieldLink RX0 21 "SetAgain$Chair" "law" "LSetAgain$Law;", Cond.fieldLink RX0 49 "SetAgain$Law" "holds" "Z", Cond.methodLink RX0 45 Lib.Math.abs.name, Cond.methodLink RX0 57 Lib.Math.min.name, Cond.methodLink RX0 36 Lib.Math.max.name, Cond.static Lib.Math.max.name, Cond.code Lib.Math.max.name Lib.Math.max.code 2 (some .int), Cond.methodLink RX0 42 yX0_numberOf]
def wsX11_once_r4 : List Cond := [Cond.instanceMethod yX0_numberOf, Cond.selects RX0 yX0_numberOf yX0_numberOf, Cond.code yX0_numberOf cX0_numberOf 3 (some .int), Cond.fieldLink RX0 11 "SetAgain$Chair" "told" "[I", Cond.methodLink RX0 53 yX5_valueOf, Cond.instanceMethod yX5_valueOf, Cond.selects RX5 yX5_valueOf yX5_valueOf, Cond.initialized RX5, Cond.code yX5_valueOf cX5_valueOf 10 (some .int), Cond.fieldLink RX5 46 "SetAgain$Law" "coded" "I", Cond.fieldLink RX5 18 "SetAgain$Law" "code" "[I", Cond.fieldLink RX5 21 "SetAgain$Law" "stack" "[I", Cond.methodLink RX5 99 yX5_operands, Cond.static yX5_operands, Cond.code yX5_operands cX5_operands 1 (some .int), Cond.methodLink RX5 103 yX5_named, Cond.static yX5_named, Cond.code yX5_named cX5_named 5 (some .int), Cond.methodLink RX5 111 Lib.Math.abs.name, Cond.methodLink RX5 107 yX5_worked, Cond.static yX5_worked, Cond.code yX5_worked cX5_worked 3 (some .int), Cond.methodLink RX9 36 yX0_slipped, Cond.instanceMethod yX0_slipped]
def wsX11_once_r5 : List Cond := [Cond.selects RX0 yX0_slipped yX0_slipped, Cond.code yX0_slipped cX0_slipped 3 (some .int), Cond.methodLink RX9 49 yX0_priceOf, Cond.instanceMethod yX0_priceOf, Cond.selects RX0 yX0_priceOf yX0_priceOf, Cond.code yX0_priceOf cX0_priceOf 2 (some .int), Cond.methodLink RX9 53 yX9_spread, Cond.instanceMethod yX9_spread, Cond.selects RX9 yX9_spread yX9_spread, Cond.code yX9_spread cX9_spread 4 none, Cond.methodLink RX9 63 Lib.Math.min.name]
def wsX11_once : List Cond := .code yX11_once cX11_once 5 (some .int) :: ((wsX11_once_r1 ++ (wsX11_once_r2 ++ (wsX11_once_r3 ++ (wsX11_once_r4 ++ wsX11_once_r5)))) ++ wsX110 ++ wsX00 ++ wsX70 ++ wsX100 ++ wsX90 ++ wsX50)
def wsX11_week_r1 : List Cond := [Cond.fieldLink RX11 28 "SetAgain" "habits" "LSetAgain$Habits;", Cond.fieldLink RX11 19 "SetAgain" "week" "LSetAgain$Week;", Cond.fieldLink RX11 168 "SetAgain$Week" "length" "I", Cond.fieldLink RX11 184 "SetAgain$Habits" "losses" "I", Cond.fieldLink RX11 187 "SetAgain$Habits" "costs" "I", Cond.methodLink RX11 97 yX11_isShelf, Cond.static yX11_isShelf, Cond.initialized RX11, Cond.code yX11_isShelf cX11_isShelf 1 (some .boolean), Cond.methodLink RX11 153 yX11_readWeek, Cond.instanceMethod yX11_readWeek, Cond.selects RX11 yX11_readWeek yX11_readWeek, Cond.code yX11_readWeek cX11_readWeek 3 (some .int), Cond.fieldLink RX11 80 "SetAgain" "shelves" "[LSetAgain$Shelf;", Cond.fieldLink RX11 12 "SetAgain" "chair" "LSetAgain$Chair;", Cond.fieldLink RX11 310 "SetAgain$Chair" "sitters" "I", Cond.methodLink RX11 209 yX11_refusalOf, Cond.instanceMethod yX11_refusalOf, Cond.selects RX11 yX11_refusalOf yX11_refusalOf, Cond.code yX11_refusalOf cX11_refusalOf 2 (some .int), Cond.fieldLink RX11 100 "SetAgain$Shelf" "sort" "I", Cond.methodLink RX11 320 yX10_reads, Cond.instanceMethod yX10_reads, Cond.selects RX10 yX10_reads yX10_reads]
def wsX11_week_r2 : List Cond := [Cond.initialized RX10, Cond.code yX10_reads cX10_reads 5 none, Cond.fieldLink RX10 18 "SetAgain$Shelf" "length" "I", Cond.methodLink RX10 24 Lib.Math.min.name, Cond.static Lib.Math.min.name, Cond.initialized "java/lang/Math", Cond.code Lib.Math.min.name Lib.Math.min.code 2 (some .int), Cond.fieldLink RX10 30 "SetAgain$Week" "length" "I", Cond.fieldLink RX10 31 "SetAgain$Week" "sat" "I", Cond.fieldLink RX10 15 "SetAgain$Week" "times" "[I", Cond.fieldLink RX10 34 "SetAgain$Shelf" "elements" "[J", Cond.fieldLink RX10 9 "SetAgain$Week" "sitters" "[I", Cond.methodLink RX11 177 yX4_live, Cond.instanceMethod yX4_live, Cond.selects RX4 yX4_live yX4_live, Cond.initialized RX4, Cond.code yX4_live cX4_live 3 none, Cond.fieldLink RX4 32 "SetAgain$Habits" "week" "LSetAgain$Week;", Cond.fieldLink RX4 53 "SetAgain$Week" "sitters" "[I", Cond.methodLink RX4 50 yX4_begin, Cond.instanceMethod yX4_begin, Cond.selects RX4 yX4_begin yX4_begin, Cond.code yX4_begin cX4_begin 2 none, Cond.fieldLink RX4 36 "SetAgain$Habits" "losses" "I"]
def wsX11_week_r3 : List Cond := [Cond.fieldLink RX4 39 "SetAgain$Habits" "costs" "I", Cond.fieldLink RX4 15 "SetAgain$Habits" "turns" "[I", Cond.fieldLink RX4 18 "SetAgain$Habits" "spared" "[I", Cond.methodLink RX4 42 yX4_standAsNow, Cond.instanceMethod yX4_standAsNow, Cond.selects RX4 yX4_standAsNow yX4_standAsNow, Cond.code yX4_standAsNow cX4_standAsNow 2 none, Cond.fieldLink RX4 9 "SetAgain$Habits" "stand" "[I", Cond.fieldLink RX4 28 "SetAgain$Habits" "chair" "LSetAgain$Chair;", Cond.fieldLink RX4 45 "SetAgain$Chair" "stands" "[I", Cond.methodLink RX4 58 yX4_pass, Cond.instanceMethod yX4_pass, Cond.selects RX4 yX4_pass yX4_pass, Cond.code yX4_pass cX4_pass 2 none, Cond.fieldLink RX4 25 "SetAgain$Habits" "leaver" "I", Cond.methodLink RX4 62 yX4_comes, Cond.instanceMethod yX4_comes, Cond.selects RX4 yX4_comes yX4_comes, Cond.code yX4_comes cX4_comes 6 none, Cond.fieldLink RX4 21 "SetAgain$Habits" "tried" "I", Cond.fieldLink RX4 71 "SetAgain$Habits" "triedNear" "I", Cond.methodLink RX4 89 Lib.Math.max.name, Cond.static Lib.Math.max.name, Cond.code Lib.Math.max.name Lib.Math.max.code 2 (some .int)]
def wsX11_week_r4 : List Cond := [Cond.methodLink RX4 74 yX0_numberOf, Cond.instanceMethod yX0_numberOf, Cond.selects RX0 yX0_numberOf yX0_numberOf, Cond.initialized RX0, Cond.code yX0_numberOf cX0_numberOf 3 (some .int), Cond.fieldLink RX0 11 "SetAgain$Chair" "told" "[I", Cond.methodLink RX4 78 yX0_turned, Cond.instanceMethod yX0_turned, Cond.selects RX0 yX0_turned yX0_turned, Cond.code yX0_turned cX0_turned 6 (some .int), Cond.methodLink RX0 45 Lib.Math.abs.name, Cond.static Lib.Math.abs.name, Cond.code Lib.Math.abs.name Lib.Math.abs.code 1 (some .int), Cond.methodLink RX0 42 yX0_numberOf, Cond.methodLink RX4 82 yX4_turnTo, Cond.instanceMethod yX4_turnTo, Cond.selects RX4 yX4_turnTo yX4_turnTo, Cond.code yX4_turnTo cX4_turnTo 5 (some .int), Cond.methodLink RX4 101 Lib.Math.abs.name, Cond.methodLink RX4 105 yX0_priceOf, Cond.instanceMethod yX0_priceOf, Cond.selects RX0 yX0_priceOf yX0_priceOf, Cond.code yX0_priceOf cX0_priceOf 2 (some .int), Cond.methodLink RX4 85 yX0_fetch]
def wsX11_week_r5 : List Cond := [Cond.instanceMethod yX0_fetch, Cond.selects RX0 yX0_fetch yX0_fetch, Cond.code yX0_fetch cX0_fetch 1 (some .int), Cond.methodLink RX4 94 yX0_lossAt, Cond.instanceMethod yX0_lossAt, Cond.selects RX0 yX0_lossAt yX0_lossAt, Cond.code yX0_lossAt cX0_lossAt 9 (some .int), Cond.fieldLink RX0 25 "SetAgain$Chair" "lost" "[I", Cond.fieldLink RX0 21 "SetAgain$Chair" "law" "LSetAgain$Law;", Cond.fieldLink RX0 49 "SetAgain$Law" "holds" "Z", Cond.methodLink RX0 57 Lib.Math.min.name, Cond.methodLink RX0 36 Lib.Math.max.name, Cond.methodLink RX0 53 yX5_valueOf, Cond.instanceMethod yX5_valueOf, Cond.selects RX5 yX5_valueOf yX5_valueOf, Cond.initialized RX5, Cond.code yX5_valueOf cX5_valueOf 10 (some .int), Cond.fieldLink RX5 46 "SetAgain$Law" "coded" "I", Cond.fieldLink RX5 18 "SetAgain$Law" "code" "[I", Cond.fieldLink RX5 21 "SetAgain$Law" "stack" "[I", Cond.methodLink RX5 99 yX5_operands, Cond.static yX5_operands, Cond.code yX5_operands cX5_operands 1 (some .int), Cond.methodLink RX5 103 yX5_named]
def wsX11_week_r6 : List Cond := [Cond.static yX5_named, Cond.code yX5_named cX5_named 5 (some .int), Cond.methodLink RX5 111 Lib.Math.abs.name, Cond.methodLink RX5 107 yX5_worked, Cond.static yX5_worked, Cond.code yX5_worked cX5_worked 3 (some .int), Cond.methodLink RX4 65 yX4_leaves, Cond.instanceMethod yX4_leaves, Cond.selects RX4 yX4_leaves yX4_leaves, Cond.code yX4_leaves cX4_leaves 2 none, Cond.fieldLink RX4 98 "SetAgain$Habits" "left" "I", Cond.methodLink RX4 68 yX4_slip, Cond.instanceMethod yX4_slip, Cond.selects RX4 yX4_slip yX4_slip, Cond.code yX4_slip cX4_slip 2 none, Cond.methodLink RX4 108 yX0_slipped, Cond.instanceMethod yX0_slipped, Cond.selects RX0 yX0_slipped yX0_slipped, Cond.code yX0_slipped cX0_slipped 3 (some .int), Cond.methodLink RX11 181 yX4_allTurns, Cond.instanceMethod yX4_allTurns, Cond.selects RX4 yX4_allTurns yX4_allTurns, Cond.code yX4_allTurns cX4_allTurns 3 (some .int)]
def wsX11_week : List Cond := .code yX11_week cX11_week 4 (some .int) :: ((wsX11_week_r1 ++ (wsX11_week_r2 ++ (wsX11_week_r3 ++ (wsX11_week_r4 ++ (wsX11_week_r5 ++ wsX11_week_r6))))) ++ wsX110 ++ wsX100 ++ wsX40 ++ wsX00 ++ wsX70 ++ wsX50)
def wsX11_stands_r1 : List Cond := [Cond.fieldLink RX11 19 "SetAgain" "week" "LSetAgain$Week;", Cond.fieldLink RX11 168 "SetAgain$Week" "length" "I", Cond.fieldLink RX11 28 "SetAgain" "habits" "LSetAgain$Habits;", Cond.fieldLink RX11 190 "SetAgain$Habits" "stand" "[I", Cond.methodLink RX11 97 yX11_isShelf, Cond.static yX11_isShelf, Cond.initialized RX11, Cond.code yX11_isShelf cX11_isShelf 1 (some .boolean), Cond.methodLink RX11 123 yX11_isPart, Cond.static yX11_isPart, Cond.code yX11_isPart cX11_isPart 1 (some .boolean), Cond.methodLink RX11 153 yX11_readWeek, Cond.instanceMethod yX11_readWeek, Cond.selects RX11 yX11_readWeek yX11_readWeek, Cond.code yX11_readWeek cX11_readWeek 3 (some .int), Cond.fieldLink RX11 80 "SetAgain" "shelves" "[LSetAgain$Shelf;", Cond.fieldLink RX11 12 "SetAgain" "chair" "LSetAgain$Chair;", Cond.fieldLink RX11 310 "SetAgain$Chair" "sitters" "I", Cond.methodLink RX11 209 yX11_refusalOf, Cond.instanceMethod yX11_refusalOf, Cond.selects RX11 yX11_refusalOf yX11_refusalOf, Cond.code yX11_refusalOf cX11_refusalOf 2 (some .int), Cond.fieldLink RX11 100 "SetAgain$Shelf" "sort" "I", Cond.methodLink RX11 320 yX10_reads]
def wsX11_stands_r2 : List Cond := [Cond.instanceMethod yX10_reads, Cond.selects RX10 yX10_reads yX10_reads, Cond.initialized RX10, Cond.code yX10_reads cX10_reads 5 none, Cond.fieldLink RX10 18 "SetAgain$Shelf" "length" "I", Cond.methodLink RX10 24 Lib.Math.min.name, Cond.static Lib.Math.min.name, Cond.initialized "java/lang/Math", Cond.code Lib.Math.min.name Lib.Math.min.code 2 (some .int), Cond.fieldLink RX10 30 "SetAgain$Week" "length" "I", Cond.fieldLink RX10 31 "SetAgain$Week" "sat" "I", Cond.fieldLink RX10 15 "SetAgain$Week" "times" "[I", Cond.fieldLink RX10 34 "SetAgain$Shelf" "elements" "[J", Cond.fieldLink RX10 9 "SetAgain$Week" "sitters" "[I", Cond.methodLink RX11 177 yX4_live, Cond.instanceMethod yX4_live, Cond.selects RX4 yX4_live yX4_live, Cond.initialized RX4, Cond.code yX4_live cX4_live 3 none, Cond.fieldLink RX4 32 "SetAgain$Habits" "week" "LSetAgain$Week;", Cond.fieldLink RX4 53 "SetAgain$Week" "sitters" "[I", Cond.methodLink RX4 50 yX4_begin, Cond.instanceMethod yX4_begin, Cond.selects RX4 yX4_begin yX4_begin]
def wsX11_stands_r3 : List Cond := [Cond.code yX4_begin cX4_begin 2 none, Cond.fieldLink RX4 36 "SetAgain$Habits" "losses" "I", Cond.fieldLink RX4 39 "SetAgain$Habits" "costs" "I", Cond.fieldLink RX4 15 "SetAgain$Habits" "turns" "[I", Cond.fieldLink RX4 18 "SetAgain$Habits" "spared" "[I", Cond.methodLink RX4 42 yX4_standAsNow, Cond.instanceMethod yX4_standAsNow, Cond.selects RX4 yX4_standAsNow yX4_standAsNow, Cond.code yX4_standAsNow cX4_standAsNow 2 none, Cond.fieldLink RX4 9 "SetAgain$Habits" "stand" "[I", Cond.fieldLink RX4 28 "SetAgain$Habits" "chair" "LSetAgain$Chair;", Cond.fieldLink RX4 45 "SetAgain$Chair" "stands" "[I", Cond.methodLink RX4 58 yX4_pass, Cond.instanceMethod yX4_pass, Cond.selects RX4 yX4_pass yX4_pass, Cond.code yX4_pass cX4_pass 2 none, Cond.fieldLink RX4 25 "SetAgain$Habits" "leaver" "I", Cond.methodLink RX4 62 yX4_comes, Cond.instanceMethod yX4_comes, Cond.selects RX4 yX4_comes yX4_comes, Cond.code yX4_comes cX4_comes 6 none, Cond.fieldLink RX4 21 "SetAgain$Habits" "tried" "I", Cond.fieldLink RX4 71 "SetAgain$Habits" "triedNear" "I", Cond.methodLink RX4 89 Lib.Math.max.name]
def wsX11_stands_r4 : List Cond := [Cond.static Lib.Math.max.name, Cond.code Lib.Math.max.name Lib.Math.max.code 2 (some .int), Cond.methodLink RX4 74 yX0_numberOf, Cond.instanceMethod yX0_numberOf, Cond.selects RX0 yX0_numberOf yX0_numberOf, Cond.initialized RX0, Cond.code yX0_numberOf cX0_numberOf 3 (some .int), Cond.fieldLink RX0 11 "SetAgain$Chair" "told" "[I", Cond.methodLink RX4 78 yX0_turned, Cond.instanceMethod yX0_turned, Cond.selects RX0 yX0_turned yX0_turned, Cond.code yX0_turned cX0_turned 6 (some .int), Cond.methodLink RX0 45 Lib.Math.abs.name, Cond.static Lib.Math.abs.name, Cond.code Lib.Math.abs.name Lib.Math.abs.code 1 (some .int), Cond.methodLink RX0 42 yX0_numberOf, Cond.methodLink RX4 82 yX4_turnTo, Cond.instanceMethod yX4_turnTo, Cond.selects RX4 yX4_turnTo yX4_turnTo, Cond.code yX4_turnTo cX4_turnTo 5 (some .int), Cond.methodLink RX4 101 Lib.Math.abs.name, Cond.methodLink RX4 105 yX0_priceOf, Cond.instanceMethod yX0_priceOf, Cond.selects RX0 yX0_priceOf yX0_priceOf]
def wsX11_stands_r5 : List Cond := [Cond.code yX0_priceOf cX0_priceOf 2 (some .int), Cond.methodLink RX4 85 yX0_fetch, Cond.instanceMethod yX0_fetch, Cond.selects RX0 yX0_fetch yX0_fetch, Cond.code yX0_fetch cX0_fetch 1 (some .int), Cond.methodLink RX4 94 yX0_lossAt, Cond.instanceMethod yX0_lossAt, Cond.selects RX0 yX0_lossAt yX0_lossAt, Cond.code yX0_lossAt cX0_lossAt 9 (some .int), Cond.fieldLink RX0 25 "SetAgain$Chair" "lost" "[I", Cond.fieldLink RX0 21 "SetAgain$Chair" "law" "LSetAgain$Law;", Cond.fieldLink RX0 49 "SetAgain$Law" "holds" "Z", Cond.methodLink RX0 57 Lib.Math.min.name, Cond.methodLink RX0 36 Lib.Math.max.name, Cond.methodLink RX0 53 yX5_valueOf, Cond.instanceMethod yX5_valueOf, Cond.selects RX5 yX5_valueOf yX5_valueOf, Cond.initialized RX5, Cond.code yX5_valueOf cX5_valueOf 10 (some .int), Cond.fieldLink RX5 46 "SetAgain$Law" "coded" "I", Cond.fieldLink RX5 18 "SetAgain$Law" "code" "[I", Cond.fieldLink RX5 21 "SetAgain$Law" "stack" "[I", Cond.methodLink RX5 99 yX5_operands, Cond.static yX5_operands]
def wsX11_stands_r6 : List Cond := [Cond.code yX5_operands cX5_operands 1 (some .int), Cond.methodLink RX5 103 yX5_named, Cond.static yX5_named, Cond.code yX5_named cX5_named 5 (some .int), Cond.methodLink RX5 111 Lib.Math.abs.name, Cond.methodLink RX5 107 yX5_worked, Cond.static yX5_worked, Cond.code yX5_worked cX5_worked 3 (some .int), Cond.methodLink RX4 65 yX4_leaves, Cond.instanceMethod yX4_leaves, Cond.selects RX4 yX4_leaves yX4_leaves, Cond.code yX4_leaves cX4_leaves 2 none, Cond.fieldLink RX4 98 "SetAgain$Habits" "left" "I", Cond.methodLink RX4 68 yX4_slip, Cond.instanceMethod yX4_slip, Cond.selects RX4 yX4_slip yX4_slip, Cond.code yX4_slip cX4_slip 2 none, Cond.methodLink RX4 108 yX0_slipped, Cond.instanceMethod yX0_slipped, Cond.selects RX0 yX0_slipped yX0_slipped, Cond.code yX0_slipped cX0_slipped 3 (some .int)]
def wsX11_stands : List Cond := .code yX11_stands cX11_stands 5 (some .int) :: ((wsX11_stands_r1 ++ (wsX11_stands_r2 ++ (wsX11_stands_r3 ++ (wsX11_stands_r4 ++ (wsX11_stands_r5 ++ wsX11_stands_r6))))) ++ wsX110 ++ wsX100 ++ wsX40 ++ wsX00 ++ wsX70 ++ wsX50)
def wsX11_pays_r1 : List Cond := [Cond.fieldLink RX11 12 "SetAgain" "chair" "LSetAgain$Chair;", Cond.fieldLink RX11 28 "SetAgain" "habits" "LSetAgain$Habits;", Cond.methodLink RX11 97 yX11_isShelf, Cond.static yX11_isShelf, Cond.initialized RX11, Cond.code yX11_isShelf cX11_isShelf 1 (some .boolean), Cond.methodLink RX11 146 yX0_has, Cond.instanceMethod yX0_has, Cond.selects RX0 yX0_has yX0_has, Cond.initialized RX0, Cond.code yX0_has cX0_has 2 (some .boolean), Cond.fieldLink RX0 28 "SetAgain$Chair" "sitters" "I", Cond.methodLink RX11 153 yX11_readWeek, Cond.instanceMethod yX11_readWeek, Cond.selects RX11 yX11_readWeek yX11_readWeek, Cond.code yX11_readWeek cX11_readWeek 3 (some .int), Cond.fieldLink RX11 19 "SetAgain" "week" "LSetAgain$Week;", Cond.fieldLink RX11 80 "SetAgain" "shelves" "[LSetAgain$Shelf;", Cond.fieldLink RX11 310 "SetAgain$Chair" "sitters" "I", Cond.methodLink RX11 209 yX11_refusalOf, Cond.instanceMethod yX11_refusalOf, Cond.selects RX11 yX11_refusalOf yX11_refusalOf, Cond.code yX11_refusalOf cX11_refusalOf 2 (some .int), Cond.fieldLink RX11 100 "SetAgain$Shelf" "sort" "I"]
def wsX11_pays_r2 : List Cond := [Cond.methodLink RX11 320 yX10_reads, Cond.instanceMethod yX10_reads, Cond.selects RX10 yX10_reads yX10_reads, Cond.initialized RX10, Cond.code yX10_reads cX10_reads 5 none, Cond.fieldLink RX10 18 "SetAgain$Shelf" "length" "I", Cond.methodLink RX10 24 Lib.Math.min.name, Cond.static Lib.Math.min.name, Cond.initialized "java/lang/Math", Cond.code Lib.Math.min.name Lib.Math.min.code 2 (some .int), Cond.fieldLink RX10 30 "SetAgain$Week" "length" "I", Cond.fieldLink RX10 31 "SetAgain$Week" "sat" "I", Cond.fieldLink RX10 15 "SetAgain$Week" "times" "[I", Cond.fieldLink RX10 34 "SetAgain$Shelf" "elements" "[J", Cond.fieldLink RX10 9 "SetAgain$Week" "sitters" "[I", Cond.methodLink RX11 193 yX4_bestNear, Cond.instanceMethod yX4_bestNear, Cond.selects RX4 yX4_bestNear yX4_bestNear, Cond.initialized RX4, Cond.code yX4_bestNear cX4_bestNear 6 (some .int), Cond.fieldLink RX4 21 "SetAgain$Habits" "tried" "I", Cond.fieldLink RX4 71 "SetAgain$Habits" "triedNear" "I", Cond.fieldLink RX4 32 "SetAgain$Habits" "week" "LSetAgain$Week;", Cond.fieldLink RX4 111 "SetAgain$Week" "length" "I"]
def wsX11_pays_r3 : List Cond := [Cond.fieldLink RX4 39 "SetAgain$Habits" "costs" "I", Cond.methodLink RX4 114 yX4_live, Cond.instanceMethod yX4_live, Cond.selects RX4 yX4_live yX4_live, Cond.code yX4_live cX4_live 3 none, Cond.fieldLink RX4 53 "SetAgain$Week" "sitters" "[I", Cond.methodLink RX4 50 yX4_begin, Cond.instanceMethod yX4_begin, Cond.selects RX4 yX4_begin yX4_begin, Cond.code yX4_begin cX4_begin 2 none, Cond.fieldLink RX4 36 "SetAgain$Habits" "losses" "I", Cond.fieldLink RX4 15 "SetAgain$Habits" "turns" "[I", Cond.fieldLink RX4 18 "SetAgain$Habits" "spared" "[I", Cond.methodLink RX4 42 yX4_standAsNow, Cond.instanceMethod yX4_standAsNow, Cond.selects RX4 yX4_standAsNow yX4_standAsNow, Cond.code yX4_standAsNow cX4_standAsNow 2 none, Cond.fieldLink RX4 9 "SetAgain$Habits" "stand" "[I", Cond.fieldLink RX4 28 "SetAgain$Habits" "chair" "LSetAgain$Chair;", Cond.fieldLink RX4 45 "SetAgain$Chair" "stands" "[I", Cond.methodLink RX4 58 yX4_pass, Cond.instanceMethod yX4_pass, Cond.selects RX4 yX4_pass yX4_pass, Cond.code yX4_pass cX4_pass 2 none]
def wsX11_pays_r4 : List Cond := [Cond.fieldLink RX4 25 "SetAgain$Habits" "leaver" "I", Cond.methodLink RX4 62 yX4_comes, Cond.instanceMethod yX4_comes, Cond.selects RX4 yX4_comes yX4_comes, Cond.code yX4_comes cX4_comes 6 none, Cond.methodLink RX4 89 Lib.Math.max.name, Cond.static Lib.Math.max.name, Cond.code Lib.Math.max.name Lib.Math.max.code 2 (some .int), Cond.methodLink RX4 74 yX0_numberOf, Cond.instanceMethod yX0_numberOf, Cond.selects RX0 yX0_numberOf yX0_numberOf, Cond.code yX0_numberOf cX0_numberOf 3 (some .int), Cond.fieldLink RX0 11 "SetAgain$Chair" "told" "[I", Cond.methodLink RX4 78 yX0_turned, Cond.instanceMethod yX0_turned, Cond.selects RX0 yX0_turned yX0_turned, Cond.code yX0_turned cX0_turned 6 (some .int), Cond.methodLink RX0 45 Lib.Math.abs.name, Cond.static Lib.Math.abs.name, Cond.code Lib.Math.abs.name Lib.Math.abs.code 1 (some .int), Cond.methodLink RX0 42 yX0_numberOf, Cond.methodLink RX4 82 yX4_turnTo, Cond.instanceMethod yX4_turnTo, Cond.selects RX4 yX4_turnTo yX4_turnTo]
def wsX11_pays_r5 : List Cond := [Cond.code yX4_turnTo cX4_turnTo 5 (some .int), Cond.methodLink RX4 101 Lib.Math.abs.name, Cond.methodLink RX4 105 yX0_priceOf, Cond.instanceMethod yX0_priceOf, Cond.selects RX0 yX0_priceOf yX0_priceOf, Cond.code yX0_priceOf cX0_priceOf 2 (some .int), Cond.methodLink RX4 85 yX0_fetch, Cond.instanceMethod yX0_fetch, Cond.selects RX0 yX0_fetch yX0_fetch, Cond.code yX0_fetch cX0_fetch 1 (some .int), Cond.methodLink RX4 94 yX0_lossAt, Cond.instanceMethod yX0_lossAt, Cond.selects RX0 yX0_lossAt yX0_lossAt, Cond.code yX0_lossAt cX0_lossAt 9 (some .int), Cond.fieldLink RX0 25 "SetAgain$Chair" "lost" "[I", Cond.fieldLink RX0 21 "SetAgain$Chair" "law" "LSetAgain$Law;", Cond.fieldLink RX0 49 "SetAgain$Law" "holds" "Z", Cond.methodLink RX0 57 Lib.Math.min.name, Cond.methodLink RX0 36 Lib.Math.max.name, Cond.methodLink RX0 53 yX5_valueOf, Cond.instanceMethod yX5_valueOf, Cond.selects RX5 yX5_valueOf yX5_valueOf, Cond.initialized RX5, Cond.code yX5_valueOf cX5_valueOf 10 (some .int)]
def wsX11_pays_r6 : List Cond := [Cond.fieldLink RX5 46 "SetAgain$Law" "coded" "I", Cond.fieldLink RX5 18 "SetAgain$Law" "code" "[I", Cond.fieldLink RX5 21 "SetAgain$Law" "stack" "[I", Cond.methodLink RX5 99 yX5_operands, Cond.static yX5_operands, Cond.code yX5_operands cX5_operands 1 (some .int), Cond.methodLink RX5 103 yX5_named, Cond.static yX5_named, Cond.code yX5_named cX5_named 5 (some .int), Cond.methodLink RX5 111 Lib.Math.abs.name, Cond.methodLink RX5 107 yX5_worked, Cond.static yX5_worked, Cond.code yX5_worked cX5_worked 3 (some .int), Cond.methodLink RX4 65 yX4_leaves, Cond.instanceMethod yX4_leaves, Cond.selects RX4 yX4_leaves yX4_leaves, Cond.code yX4_leaves cX4_leaves 2 none, Cond.fieldLink RX4 98 "SetAgain$Habits" "left" "I", Cond.methodLink RX4 68 yX4_slip, Cond.instanceMethod yX4_slip, Cond.selects RX4 yX4_slip yX4_slip, Cond.code yX4_slip cX4_slip 2 none, Cond.methodLink RX4 108 yX0_slipped, Cond.instanceMethod yX0_slipped]
def wsX11_pays_r7 : List Cond := [Cond.selects RX0 yX0_slipped yX0_slipped, Cond.code yX0_slipped cX0_slipped 3 (some .int)]
def wsX11_pays : List Cond := .code yX11_pays cX11_pays 5 (some .int) :: ((wsX11_pays_r1 ++ (wsX11_pays_r2 ++ (wsX11_pays_r3 ++ (wsX11_pays_r4 ++ (wsX11_pays_r5 ++ (wsX11_pays_r6 ++ wsX11_pays_r7)))))) ++ wsX110 ++ wsX00 ++ wsX70 ++ wsX100 ++ wsX40 ++ wsX50)
def wsX11_memories_r1 : List Cond := [Cond.fieldLink RX11 28 "SetAgain" "habits" "LSetAgain$Habits;", Cond.methodLink RX11 97 yX11_isShelf, Cond.static yX11_isShelf, Cond.initialized RX11, Cond.code yX11_isShelf cX11_isShelf 1 (some .boolean), Cond.methodLink RX11 153 yX11_readWeek, Cond.instanceMethod yX11_readWeek, Cond.selects RX11 yX11_readWeek yX11_readWeek, Cond.code yX11_readWeek cX11_readWeek 3 (some .int), Cond.fieldLink RX11 19 "SetAgain" "week" "LSetAgain$Week;", Cond.fieldLink RX11 80 "SetAgain" "shelves" "[LSetAgain$Shelf;", Cond.fieldLink RX11 12 "SetAgain" "chair" "LSetAgain$Chair;", Cond.fieldLink RX11 310 "SetAgain$Chair" "sitters" "I", Cond.methodLink RX11 209 yX11_refusalOf, Cond.instanceMethod yX11_refusalOf, Cond.selects RX11 yX11_refusalOf yX11_refusalOf, Cond.code yX11_refusalOf cX11_refusalOf 2 (some .int), Cond.fieldLink RX11 100 "SetAgain$Shelf" "sort" "I", Cond.methodLink RX11 320 yX10_reads, Cond.instanceMethod yX10_reads, Cond.selects RX10 yX10_reads yX10_reads, Cond.initialized RX10, Cond.code yX10_reads cX10_reads 5 none, Cond.fieldLink RX10 18 "SetAgain$Shelf" "length" "I"]
def wsX11_memories_r2 : List Cond := [Cond.methodLink RX10 24 Lib.Math.min.name, Cond.static Lib.Math.min.name, Cond.initialized "java/lang/Math", Cond.code Lib.Math.min.name Lib.Math.min.code 2 (some .int), Cond.fieldLink RX10 30 "SetAgain$Week" "length" "I", Cond.fieldLink RX10 31 "SetAgain$Week" "sat" "I", Cond.fieldLink RX10 15 "SetAgain$Week" "times" "[I", Cond.fieldLink RX10 34 "SetAgain$Shelf" "elements" "[J", Cond.fieldLink RX10 9 "SetAgain$Week" "sitters" "[I", Cond.methodLink RX11 196 yX4_bestMemories, Cond.instanceMethod yX4_bestMemories, Cond.selects RX4 yX4_bestMemories yX4_bestMemories, Cond.initialized RX4, Cond.code yX4_bestMemories cX4_bestMemories 9 (some .int), Cond.fieldLink RX4 32 "SetAgain$Habits" "week" "LSetAgain$Week;", Cond.fieldLink RX4 111 "SetAgain$Week" "length" "I", Cond.fieldLink RX4 28 "SetAgain$Habits" "chair" "LSetAgain$Chair;", Cond.fieldLink RX4 117 "SetAgain$Chair" "sitters" "I", Cond.fieldLink RX4 39 "SetAgain$Habits" "costs" "I", Cond.methodLink RX4 114 yX4_live, Cond.instanceMethod yX4_live, Cond.selects RX4 yX4_live yX4_live, Cond.code yX4_live cX4_live 3 none, Cond.fieldLink RX4 53 "SetAgain$Week" "sitters" "[I"]
def wsX11_memories_r3 : List Cond := [Cond.methodLink RX4 50 yX4_begin, Cond.instanceMethod yX4_begin, Cond.selects RX4 yX4_begin yX4_begin, Cond.code yX4_begin cX4_begin 2 none, Cond.fieldLink RX4 36 "SetAgain$Habits" "losses" "I", Cond.fieldLink RX4 15 "SetAgain$Habits" "turns" "[I", Cond.fieldLink RX4 18 "SetAgain$Habits" "spared" "[I", Cond.methodLink RX4 42 yX4_standAsNow, Cond.instanceMethod yX4_standAsNow, Cond.selects RX4 yX4_standAsNow yX4_standAsNow, Cond.code yX4_standAsNow cX4_standAsNow 2 none, Cond.fieldLink RX4 9 "SetAgain$Habits" "stand" "[I", Cond.fieldLink RX4 45 "SetAgain$Chair" "stands" "[I", Cond.methodLink RX4 58 yX4_pass, Cond.instanceMethod yX4_pass, Cond.selects RX4 yX4_pass yX4_pass, Cond.code yX4_pass cX4_pass 2 none, Cond.fieldLink RX4 25 "SetAgain$Habits" "leaver" "I", Cond.methodLink RX4 62 yX4_comes, Cond.instanceMethod yX4_comes, Cond.selects RX4 yX4_comes yX4_comes, Cond.code yX4_comes cX4_comes 6 none, Cond.fieldLink RX4 21 "SetAgain$Habits" "tried" "I", Cond.fieldLink RX4 71 "SetAgain$Habits" "triedNear" "I"]
def wsX11_memories_r4 : List Cond := [Cond.methodLink RX4 89 Lib.Math.max.name, Cond.static Lib.Math.max.name, Cond.code Lib.Math.max.name Lib.Math.max.code 2 (some .int), Cond.methodLink RX4 74 yX0_numberOf, Cond.instanceMethod yX0_numberOf, Cond.selects RX0 yX0_numberOf yX0_numberOf, Cond.initialized RX0, Cond.code yX0_numberOf cX0_numberOf 3 (some .int), Cond.fieldLink RX0 11 "SetAgain$Chair" "told" "[I", Cond.methodLink RX4 78 yX0_turned, Cond.instanceMethod yX0_turned, Cond.selects RX0 yX0_turned yX0_turned, Cond.code yX0_turned cX0_turned 6 (some .int), Cond.methodLink RX0 45 Lib.Math.abs.name, Cond.static Lib.Math.abs.name, Cond.code Lib.Math.abs.name Lib.Math.abs.code 1 (some .int), Cond.methodLink RX0 42 yX0_numberOf, Cond.methodLink RX4 82 yX4_turnTo, Cond.instanceMethod yX4_turnTo, Cond.selects RX4 yX4_turnTo yX4_turnTo, Cond.code yX4_turnTo cX4_turnTo 5 (some .int), Cond.methodLink RX4 101 Lib.Math.abs.name, Cond.methodLink RX4 105 yX0_priceOf, Cond.instanceMethod yX0_priceOf]
def wsX11_memories_r5 : List Cond := [Cond.selects RX0 yX0_priceOf yX0_priceOf, Cond.code yX0_priceOf cX0_priceOf 2 (some .int), Cond.methodLink RX4 85 yX0_fetch, Cond.instanceMethod yX0_fetch, Cond.selects RX0 yX0_fetch yX0_fetch, Cond.code yX0_fetch cX0_fetch 1 (some .int), Cond.methodLink RX4 94 yX0_lossAt, Cond.instanceMethod yX0_lossAt, Cond.selects RX0 yX0_lossAt yX0_lossAt, Cond.code yX0_lossAt cX0_lossAt 9 (some .int), Cond.fieldLink RX0 25 "SetAgain$Chair" "lost" "[I", Cond.fieldLink RX0 21 "SetAgain$Chair" "law" "LSetAgain$Law;", Cond.fieldLink RX0 49 "SetAgain$Law" "holds" "Z", Cond.methodLink RX0 57 Lib.Math.min.name, Cond.methodLink RX0 36 Lib.Math.max.name, Cond.methodLink RX0 53 yX5_valueOf, Cond.instanceMethod yX5_valueOf, Cond.selects RX5 yX5_valueOf yX5_valueOf, Cond.initialized RX5, Cond.code yX5_valueOf cX5_valueOf 10 (some .int), Cond.fieldLink RX5 46 "SetAgain$Law" "coded" "I", Cond.fieldLink RX5 18 "SetAgain$Law" "code" "[I", Cond.fieldLink RX5 21 "SetAgain$Law" "stack" "[I", Cond.methodLink RX5 99 yX5_operands]
def wsX11_memories_r6 : List Cond := [Cond.static yX5_operands, Cond.code yX5_operands cX5_operands 1 (some .int), Cond.methodLink RX5 103 yX5_named, Cond.static yX5_named, Cond.code yX5_named cX5_named 5 (some .int), Cond.methodLink RX5 111 Lib.Math.abs.name, Cond.methodLink RX5 107 yX5_worked, Cond.static yX5_worked, Cond.code yX5_worked cX5_worked 3 (some .int), Cond.methodLink RX4 65 yX4_leaves, Cond.instanceMethod yX4_leaves, Cond.selects RX4 yX4_leaves yX4_leaves, Cond.code yX4_leaves cX4_leaves 2 none, Cond.fieldLink RX4 98 "SetAgain$Habits" "left" "I", Cond.methodLink RX4 68 yX4_slip, Cond.instanceMethod yX4_slip, Cond.selects RX4 yX4_slip yX4_slip, Cond.code yX4_slip cX4_slip 2 none, Cond.methodLink RX4 108 yX0_slipped, Cond.instanceMethod yX0_slipped, Cond.selects RX0 yX0_slipped yX0_slipped, Cond.code yX0_slipped cX0_slipped 3 (some .int), Cond.methodLink RX4 119 yJ6_bitCount_0f7a4, Cond.static yJ6_bitCount_0f7a4]
def wsX11_memories_r7 : List Cond := [Cond.initialized RJ6, Cond.code yJ6_bitCount_0f7a4 cJ6_bitCount_0f7a4 1 (some .int), Cond.constant RJ6 265 (1431655765), Cond.constant RJ6 266 (858993459), Cond.constant RJ6 267 (252645135), Cond.methodLink RX4 124 yX4_sparedBy, Cond.instanceMethod yX4_sparedBy, Cond.selects RX4 yX4_sparedBy yX4_sparedBy, Cond.code yX4_sparedBy cX4_sparedBy 4 (some .int)]
def wsX11_memories : List Cond := .code yX11_memories cX11_memories 5 (some .int) :: ((wsX11_memories_r1 ++ (wsX11_memories_r2 ++ (wsX11_memories_r3 ++ (wsX11_memories_r4 ++ (wsX11_memories_r5 ++ (wsX11_memories_r6 ++ wsX11_memories_r7)))))) ++ wsX110 ++ wsX00 ++ wsX70 ++ wsX100 ++ wsX40 ++ wsX50)
def wsX11_marked_r1 : List Cond := [Cond.fieldLink RX11 28 "SetAgain" "habits" "LSetAgain$Habits;", Cond.methodLink RX11 97 yX11_isShelf, Cond.static yX11_isShelf, Cond.initialized RX11, Cond.code yX11_isShelf cX11_isShelf 1 (some .boolean), Cond.methodLink RX11 153 yX11_readWeek, Cond.instanceMethod yX11_readWeek, Cond.selects RX11 yX11_readWeek yX11_readWeek, Cond.code yX11_readWeek cX11_readWeek 3 (some .int), Cond.fieldLink RX11 19 "SetAgain" "week" "LSetAgain$Week;", Cond.fieldLink RX11 80 "SetAgain" "shelves" "[LSetAgain$Shelf;", Cond.fieldLink RX11 12 "SetAgain" "chair" "LSetAgain$Chair;", Cond.fieldLink RX11 310 "SetAgain$Chair" "sitters" "I", Cond.methodLink RX11 209 yX11_refusalOf, Cond.instanceMethod yX11_refusalOf, Cond.selects RX11 yX11_refusalOf yX11_refusalOf, Cond.code yX11_refusalOf cX11_refusalOf 2 (some .int), Cond.fieldLink RX11 100 "SetAgain$Shelf" "sort" "I", Cond.methodLink RX11 320 yX10_reads, Cond.instanceMethod yX10_reads, Cond.selects RX10 yX10_reads yX10_reads, Cond.initialized RX10, Cond.code yX10_reads cX10_reads 5 none, Cond.fieldLink RX10 18 "SetAgain$Shelf" "length" "I"]
def wsX11_marked_r2 : List Cond := [Cond.methodLink RX10 24 Lib.Math.min.name, Cond.static Lib.Math.min.name, Cond.initialized "java/lang/Math", Cond.code Lib.Math.min.name Lib.Math.min.code 2 (some .int), Cond.fieldLink RX10 30 "SetAgain$Week" "length" "I", Cond.fieldLink RX10 31 "SetAgain$Week" "sat" "I", Cond.fieldLink RX10 15 "SetAgain$Week" "times" "[I", Cond.fieldLink RX10 34 "SetAgain$Shelf" "elements" "[J", Cond.fieldLink RX10 9 "SetAgain$Week" "sitters" "[I", Cond.methodLink RX11 199 yX4_savedByMarks, Cond.instanceMethod yX4_savedByMarks, Cond.selects RX4 yX4_savedByMarks yX4_savedByMarks, Cond.initialized RX4, Cond.code yX4_savedByMarks cX4_savedByMarks 4 (some .int), Cond.fieldLink RX4 32 "SetAgain$Habits" "week" "LSetAgain$Week;", Cond.fieldLink RX4 111 "SetAgain$Week" "length" "I", Cond.fieldLink RX4 28 "SetAgain$Habits" "chair" "LSetAgain$Chair;", Cond.fieldLink RX4 15 "SetAgain$Habits" "turns" "[I", Cond.methodLink RX4 114 yX4_live, Cond.instanceMethod yX4_live, Cond.selects RX4 yX4_live yX4_live, Cond.code yX4_live cX4_live 3 none, Cond.fieldLink RX4 53 "SetAgain$Week" "sitters" "[I", Cond.methodLink RX4 50 yX4_begin]
def wsX11_marked_r3 : List Cond := [Cond.instanceMethod yX4_begin, Cond.selects RX4 yX4_begin yX4_begin, Cond.code yX4_begin cX4_begin 2 none, Cond.fieldLink RX4 36 "SetAgain$Habits" "losses" "I", Cond.fieldLink RX4 39 "SetAgain$Habits" "costs" "I", Cond.fieldLink RX4 18 "SetAgain$Habits" "spared" "[I", Cond.methodLink RX4 42 yX4_standAsNow, Cond.instanceMethod yX4_standAsNow, Cond.selects RX4 yX4_standAsNow yX4_standAsNow, Cond.code yX4_standAsNow cX4_standAsNow 2 none, Cond.fieldLink RX4 9 "SetAgain$Habits" "stand" "[I", Cond.fieldLink RX4 45 "SetAgain$Chair" "stands" "[I", Cond.methodLink RX4 58 yX4_pass, Cond.instanceMethod yX4_pass, Cond.selects RX4 yX4_pass yX4_pass, Cond.code yX4_pass cX4_pass 2 none, Cond.fieldLink RX4 25 "SetAgain$Habits" "leaver" "I", Cond.methodLink RX4 62 yX4_comes, Cond.instanceMethod yX4_comes, Cond.selects RX4 yX4_comes yX4_comes, Cond.code yX4_comes cX4_comes 6 none, Cond.fieldLink RX4 21 "SetAgain$Habits" "tried" "I", Cond.fieldLink RX4 71 "SetAgain$Habits" "triedNear" "I", Cond.methodLink RX4 89 Lib.Math.max.name]
def wsX11_marked_r4 : List Cond := [Cond.static Lib.Math.max.name, Cond.code Lib.Math.max.name Lib.Math.max.code 2 (some .int), Cond.methodLink RX4 74 yX0_numberOf, Cond.instanceMethod yX0_numberOf, Cond.selects RX0 yX0_numberOf yX0_numberOf, Cond.initialized RX0, Cond.code yX0_numberOf cX0_numberOf 3 (some .int), Cond.fieldLink RX0 11 "SetAgain$Chair" "told" "[I", Cond.methodLink RX4 78 yX0_turned, Cond.instanceMethod yX0_turned, Cond.selects RX0 yX0_turned yX0_turned, Cond.code yX0_turned cX0_turned 6 (some .int), Cond.methodLink RX0 45 Lib.Math.abs.name, Cond.static Lib.Math.abs.name, Cond.code Lib.Math.abs.name Lib.Math.abs.code 1 (some .int), Cond.methodLink RX0 42 yX0_numberOf, Cond.methodLink RX4 82 yX4_turnTo, Cond.instanceMethod yX4_turnTo, Cond.selects RX4 yX4_turnTo yX4_turnTo, Cond.code yX4_turnTo cX4_turnTo 5 (some .int), Cond.methodLink RX4 101 Lib.Math.abs.name, Cond.methodLink RX4 105 yX0_priceOf, Cond.instanceMethod yX0_priceOf, Cond.selects RX0 yX0_priceOf yX0_priceOf]
def wsX11_marked_r5 : List Cond := [Cond.code yX0_priceOf cX0_priceOf 2 (some .int), Cond.methodLink RX4 85 yX0_fetch, Cond.instanceMethod yX0_fetch, Cond.selects RX0 yX0_fetch yX0_fetch, Cond.code yX0_fetch cX0_fetch 1 (some .int), Cond.methodLink RX4 94 yX0_lossAt, Cond.instanceMethod yX0_lossAt, Cond.selects RX0 yX0_lossAt yX0_lossAt, Cond.code yX0_lossAt cX0_lossAt 9 (some .int), Cond.fieldLink RX0 25 "SetAgain$Chair" "lost" "[I", Cond.fieldLink RX0 21 "SetAgain$Chair" "law" "LSetAgain$Law;", Cond.fieldLink RX0 49 "SetAgain$Law" "holds" "Z", Cond.methodLink RX0 57 Lib.Math.min.name, Cond.methodLink RX0 36 Lib.Math.max.name, Cond.methodLink RX0 53 yX5_valueOf, Cond.instanceMethod yX5_valueOf, Cond.selects RX5 yX5_valueOf yX5_valueOf, Cond.initialized RX5, Cond.code yX5_valueOf cX5_valueOf 10 (some .int), Cond.fieldLink RX5 46 "SetAgain$Law" "coded" "I", Cond.fieldLink RX5 18 "SetAgain$Law" "code" "[I", Cond.fieldLink RX5 21 "SetAgain$Law" "stack" "[I", Cond.methodLink RX5 99 yX5_operands, Cond.static yX5_operands]
def wsX11_marked_r6 : List Cond := [Cond.code yX5_operands cX5_operands 1 (some .int), Cond.methodLink RX5 103 yX5_named, Cond.static yX5_named, Cond.code yX5_named cX5_named 5 (some .int), Cond.methodLink RX5 111 Lib.Math.abs.name, Cond.methodLink RX5 107 yX5_worked, Cond.static yX5_worked, Cond.code yX5_worked cX5_worked 3 (some .int), Cond.methodLink RX4 65 yX4_leaves, Cond.instanceMethod yX4_leaves, Cond.selects RX4 yX4_leaves yX4_leaves, Cond.code yX4_leaves cX4_leaves 2 none, Cond.fieldLink RX4 98 "SetAgain$Habits" "left" "I", Cond.methodLink RX4 68 yX4_slip, Cond.instanceMethod yX4_slip, Cond.selects RX4 yX4_slip yX4_slip, Cond.code yX4_slip cX4_slip 2 none, Cond.methodLink RX4 108 yX0_slipped, Cond.instanceMethod yX0_slipped, Cond.selects RX0 yX0_slipped yX0_slipped, Cond.code yX0_slipped cX0_slipped 3 (some .int)]
def wsX11_marked : List Cond := .code yX11_marked cX11_marked 3 (some .int) :: ((wsX11_marked_r1 ++ (wsX11_marked_r2 ++ (wsX11_marked_r3 ++ (wsX11_marked_r4 ++ (wsX11_marked_r5 ++ wsX11_marked_r6))))) ++ wsX110 ++ wsX00 ++ wsX70 ++ wsX100 ++ wsX40 ++ wsX50)
def wsX11_chairs_r1 : List Cond := [Cond.fieldLink RX11 12 "SetAgain" "chair" "LSetAgain$Chair;", Cond.fieldLink RX11 35 "SetAgain" "still" "LSetAgain$Still;", Cond.methodLink RX11 97 yX11_isShelf, Cond.static yX11_isShelf, Cond.initialized RX11, Cond.code yX11_isShelf cX11_isShelf 1 (some .boolean), Cond.methodLink RX11 123 yX11_isPart, Cond.static yX11_isPart, Cond.code yX11_isPart cX11_isPart 1 (some .boolean), Cond.methodLink RX11 146 yX0_has, Cond.instanceMethod yX0_has, Cond.selects RX0 yX0_has yX0_has, Cond.initialized RX0, Cond.code yX0_has cX0_has 2 (some .boolean), Cond.fieldLink RX0 28 "SetAgain$Chair" "sitters" "I", Cond.methodLink RX11 153 yX11_readWeek, Cond.instanceMethod yX11_readWeek, Cond.selects RX11 yX11_readWeek yX11_readWeek, Cond.code yX11_readWeek cX11_readWeek 3 (some .int), Cond.fieldLink RX11 19 "SetAgain" "week" "LSetAgain$Week;", Cond.fieldLink RX11 80 "SetAgain" "shelves" "[LSetAgain$Shelf;", Cond.fieldLink RX11 310 "SetAgain$Chair" "sitters" "I", Cond.methodLink RX11 209 yX11_refusalOf, Cond.instanceMethod yX11_refusalOf]
def wsX11_chairs_r2 : List Cond := [Cond.selects RX11 yX11_refusalOf yX11_refusalOf, Cond.code yX11_refusalOf cX11_refusalOf 2 (some .int), Cond.fieldLink RX11 100 "SetAgain$Shelf" "sort" "I", Cond.methodLink RX11 320 yX10_reads, Cond.instanceMethod yX10_reads, Cond.selects RX10 yX10_reads yX10_reads, Cond.initialized RX10, Cond.code yX10_reads cX10_reads 5 none, Cond.fieldLink RX10 18 "SetAgain$Shelf" "length" "I", Cond.methodLink RX10 24 Lib.Math.min.name, Cond.static Lib.Math.min.name, Cond.initialized "java/lang/Math", Cond.code Lib.Math.min.name Lib.Math.min.code 2 (some .int), Cond.fieldLink RX10 30 "SetAgain$Week" "length" "I", Cond.fieldLink RX10 31 "SetAgain$Week" "sat" "I", Cond.fieldLink RX10 15 "SetAgain$Week" "times" "[I", Cond.fieldLink RX10 34 "SetAgain$Shelf" "elements" "[J", Cond.fieldLink RX10 9 "SetAgain$Week" "sitters" "[I", Cond.methodLink RX11 202 yX8_parted, Cond.instanceMethod yX8_parted, Cond.selects RX8 yX8_parted yX8_parted, Cond.initialized RX8, Cond.code yX8_parted cX8_parted 4 (some .int), Cond.fieldLink RX8 79 "SetAgain$Still" "found" "Z"]
def wsX11_chairs_r3 : List Cond := [Cond.fieldLink RX8 83 "SetAgain$Still" "free" "I", Cond.fieldLink RX8 90 "SetAgain$Still" "least" "I", Cond.methodLink RX8 72 yX8_gather, Cond.instanceMethod yX8_gather, Cond.selects RX8 yX8_gather yX8_gather, Cond.code yX8_gather cX8_gather 2 none, Cond.fieldLink RX8 96 "SetAgain$Still" "sitting" "I", Cond.fieldLink RX8 38 "SetAgain$Still" "week" "LSetAgain$Week;", Cond.fieldLink RX8 42 "SetAgain$Week" "times" "[I", Cond.fieldLink RX8 19 "SetAgain$Still" "ones" "[I", Cond.methodLink RX8 75 yX8_sumGroups, Cond.instanceMethod yX8_sumGroups, Cond.selects RX8 yX8_sumGroups yX8_sumGroups, Cond.code yX8_sumGroups cX8_sumGroups 4 none, Cond.fieldLink RX8 34 "SetAgain$Still" "chair" "LSetAgain$Chair;", Cond.methodLink RX8 47 yX0_lossAt, Cond.instanceMethod yX0_lossAt, Cond.selects RX0 yX0_lossAt yX0_lossAt, Cond.code yX0_lossAt cX0_lossAt 9 (some .int), Cond.fieldLink RX0 25 "SetAgain$Chair" "lost" "[I", Cond.fieldLink RX0 21 "SetAgain$Chair" "law" "LSetAgain$Law;", Cond.fieldLink RX0 49 "SetAgain$Law" "holds" "Z", Cond.methodLink RX0 45 Lib.Math.abs.name, Cond.static Lib.Math.abs.name]
def wsX11_chairs_r4 : List Cond := [Cond.code Lib.Math.abs.name Lib.Math.abs.code 1 (some .int), Cond.methodLink RX0 57 Lib.Math.min.name, Cond.methodLink RX0 36 Lib.Math.max.name, Cond.static Lib.Math.max.name, Cond.code Lib.Math.max.name Lib.Math.max.code 2 (some .int), Cond.methodLink RX0 42 yX0_numberOf, Cond.instanceMethod yX0_numberOf, Cond.selects RX0 yX0_numberOf yX0_numberOf, Cond.code yX0_numberOf cX0_numberOf 3 (some .int), Cond.fieldLink RX0 11 "SetAgain$Chair" "told" "[I", Cond.methodLink RX0 53 yX5_valueOf, Cond.instanceMethod yX5_valueOf, Cond.selects RX5 yX5_valueOf yX5_valueOf, Cond.initialized RX5, Cond.code yX5_valueOf cX5_valueOf 10 (some .int), Cond.fieldLink RX5 46 "SetAgain$Law" "coded" "I", Cond.fieldLink RX5 18 "SetAgain$Law" "code" "[I", Cond.fieldLink RX5 21 "SetAgain$Law" "stack" "[I", Cond.methodLink RX5 99 yX5_operands, Cond.static yX5_operands, Cond.code yX5_operands cX5_operands 1 (some .int), Cond.methodLink RX5 103 yX5_named, Cond.static yX5_named, Cond.code yX5_named cX5_named 5 (some .int)]
def wsX11_chairs_r5 : List Cond := [Cond.methodLink RX5 111 Lib.Math.abs.name, Cond.methodLink RX5 107 yX5_worked, Cond.static yX5_worked, Cond.code yX5_worked cX5_worked 3 (some .int), Cond.methodLink RX8 99 yX8_sumGroupsUpTo, Cond.instanceMethod yX8_sumGroupsUpTo, Cond.selects RX8 yX8_sumGroupsUpTo yX8_sumGroupsUpTo, Cond.code yX8_sumGroupsUpTo cX8_sumGroupsUpTo 5 none, Cond.fieldLink RX8 22 "SetAgain$Still" "sums" "[I", Cond.fieldLink RX8 25 "SetAgain$Still" "leasts" "[I", Cond.methodLink RX8 103 Lib.Math.min.name, Cond.methodLink RX8 87 yX8_part, Cond.instanceMethod yX8_part, Cond.selects RX8 yX8_part yX8_part, Cond.code yX8_part cX8_part 3 none, Cond.fieldLink RX8 28 "SetAgain$Still" "group" "[I", Cond.methodLink RX8 106 yX8_weigh, Cond.instanceMethod yX8_weigh, Cond.selects RX8 yX8_weigh yX8_weigh, Cond.code yX8_weigh cX8_weigh 3 none, Cond.fieldLink RX8 31 "SetAgain$Still" "bestGroup" "[I", Cond.methodLink RX8 93 yX8_chairOf, Cond.instanceMethod yX8_chairOf, Cond.selects RX8 yX8_chairOf yX8_chairOf]
def wsX11_chairs_r6 : List Cond := [Cond.code yX8_chairOf cX8_chairOf 4 (some .int)]
def wsX11_chairs : List Cond := .code yX11_chairs cX11_chairs 6 (some .int) :: ((wsX11_chairs_r1 ++ (wsX11_chairs_r2 ++ (wsX11_chairs_r3 ++ (wsX11_chairs_r4 ++ (wsX11_chairs_r5 ++ wsX11_chairs_r6))))) ++ wsX110 ++ wsX00 ++ wsX70 ++ wsX100 ++ wsX80 ++ wsX50)
def wsX11_wilful_r1 : List Cond := [Cond.fieldLink RX11 12 "SetAgain" "chair" "LSetAgain$Chair;", Cond.constant RX11 205 (-2000000000), Cond.fieldLink RX11 28 "SetAgain" "habits" "LSetAgain$Habits;", Cond.methodLink RX11 97 yX11_isShelf, Cond.static yX11_isShelf, Cond.initialized RX11, Cond.code yX11_isShelf cX11_isShelf 1 (some .boolean), Cond.methodLink RX11 146 yX0_has, Cond.instanceMethod yX0_has, Cond.selects RX0 yX0_has yX0_has, Cond.initialized RX0, Cond.code yX0_has cX0_has 2 (some .boolean), Cond.fieldLink RX0 28 "SetAgain$Chair" "sitters" "I", Cond.methodLink RX11 85 yX11_isSetting, Cond.static yX11_isSetting, Cond.code yX11_isSetting cX11_isSetting 1 (some .boolean), Cond.methodLink RX11 153 yX11_readWeek, Cond.instanceMethod yX11_readWeek, Cond.selects RX11 yX11_readWeek yX11_readWeek, Cond.code yX11_readWeek cX11_readWeek 3 (some .int), Cond.fieldLink RX11 19 "SetAgain" "week" "LSetAgain$Week;", Cond.fieldLink RX11 80 "SetAgain" "shelves" "[LSetAgain$Shelf;", Cond.fieldLink RX11 310 "SetAgain$Chair" "sitters" "I", Cond.methodLink RX11 209 yX11_refusalOf]
def wsX11_wilful_r2 : List Cond := [Cond.instanceMethod yX11_refusalOf, Cond.selects RX11 yX11_refusalOf yX11_refusalOf, Cond.code yX11_refusalOf cX11_refusalOf 2 (some .int), Cond.fieldLink RX11 100 "SetAgain$Shelf" "sort" "I", Cond.methodLink RX11 320 yX10_reads, Cond.instanceMethod yX10_reads, Cond.selects RX10 yX10_reads yX10_reads, Cond.initialized RX10, Cond.code yX10_reads cX10_reads 5 none, Cond.fieldLink RX10 18 "SetAgain$Shelf" "length" "I", Cond.methodLink RX10 24 Lib.Math.min.name, Cond.static Lib.Math.min.name, Cond.initialized "java/lang/Math", Cond.code Lib.Math.min.name Lib.Math.min.code 2 (some .int), Cond.fieldLink RX10 30 "SetAgain$Week" "length" "I", Cond.fieldLink RX10 31 "SetAgain$Week" "sat" "I", Cond.fieldLink RX10 15 "SetAgain$Week" "times" "[I", Cond.fieldLink RX10 34 "SetAgain$Shelf" "elements" "[J", Cond.fieldLink RX10 9 "SetAgain$Week" "sitters" "[I", Cond.methodLink RX11 206 yX4_moreByWilful, Cond.instanceMethod yX4_moreByWilful, Cond.selects RX4 yX4_moreByWilful yX4_moreByWilful, Cond.initialized RX4, Cond.code yX4_moreByWilful cX4_moreByWilful 4 (some .int)]
def wsX11_wilful_r3 : List Cond := [Cond.fieldLink RX4 32 "SetAgain$Habits" "week" "LSetAgain$Week;", Cond.fieldLink RX4 111 "SetAgain$Week" "length" "I", Cond.fieldLink RX4 39 "SetAgain$Habits" "costs" "I", Cond.fieldLink RX4 25 "SetAgain$Habits" "leaver" "I", Cond.fieldLink RX4 98 "SetAgain$Habits" "left" "I", Cond.methodLink RX4 114 yX4_live, Cond.instanceMethod yX4_live, Cond.selects RX4 yX4_live yX4_live, Cond.code yX4_live cX4_live 3 none, Cond.fieldLink RX4 53 "SetAgain$Week" "sitters" "[I", Cond.methodLink RX4 50 yX4_begin, Cond.instanceMethod yX4_begin, Cond.selects RX4 yX4_begin yX4_begin, Cond.code yX4_begin cX4_begin 2 none, Cond.fieldLink RX4 36 "SetAgain$Habits" "losses" "I", Cond.fieldLink RX4 15 "SetAgain$Habits" "turns" "[I", Cond.fieldLink RX4 18 "SetAgain$Habits" "spared" "[I", Cond.methodLink RX4 42 yX4_standAsNow, Cond.instanceMethod yX4_standAsNow, Cond.selects RX4 yX4_standAsNow yX4_standAsNow, Cond.code yX4_standAsNow cX4_standAsNow 2 none, Cond.fieldLink RX4 9 "SetAgain$Habits" "stand" "[I", Cond.fieldLink RX4 28 "SetAgain$Habits" "chair" "LSetAgain$Chair;", Cond.fieldLink RX4 45 "SetAgain$Chair" "stands" "[I"]
def wsX11_wilful_r4 : List Cond := [Cond.methodLink RX4 58 yX4_pass, Cond.instanceMethod yX4_pass, Cond.selects RX4 yX4_pass yX4_pass, Cond.code yX4_pass cX4_pass 2 none, Cond.methodLink RX4 62 yX4_comes, Cond.instanceMethod yX4_comes, Cond.selects RX4 yX4_comes yX4_comes, Cond.code yX4_comes cX4_comes 6 none, Cond.fieldLink RX4 21 "SetAgain$Habits" "tried" "I", Cond.fieldLink RX4 71 "SetAgain$Habits" "triedNear" "I", Cond.methodLink RX4 89 Lib.Math.max.name, Cond.static Lib.Math.max.name, Cond.code Lib.Math.max.name Lib.Math.max.code 2 (some .int), Cond.methodLink RX4 74 yX0_numberOf, Cond.instanceMethod yX0_numberOf, Cond.selects RX0 yX0_numberOf yX0_numberOf, Cond.code yX0_numberOf cX0_numberOf 3 (some .int), Cond.fieldLink RX0 11 "SetAgain$Chair" "told" "[I", Cond.methodLink RX4 78 yX0_turned, Cond.instanceMethod yX0_turned, Cond.selects RX0 yX0_turned yX0_turned, Cond.code yX0_turned cX0_turned 6 (some .int), Cond.methodLink RX0 45 Lib.Math.abs.name, Cond.static Lib.Math.abs.name]
def wsX11_wilful_r5 : List Cond := [Cond.code Lib.Math.abs.name Lib.Math.abs.code 1 (some .int), Cond.methodLink RX0 42 yX0_numberOf, Cond.methodLink RX4 82 yX4_turnTo, Cond.instanceMethod yX4_turnTo, Cond.selects RX4 yX4_turnTo yX4_turnTo, Cond.code yX4_turnTo cX4_turnTo 5 (some .int), Cond.methodLink RX4 101 Lib.Math.abs.name, Cond.methodLink RX4 105 yX0_priceOf, Cond.instanceMethod yX0_priceOf, Cond.selects RX0 yX0_priceOf yX0_priceOf, Cond.code yX0_priceOf cX0_priceOf 2 (some .int), Cond.methodLink RX4 85 yX0_fetch, Cond.instanceMethod yX0_fetch, Cond.selects RX0 yX0_fetch yX0_fetch, Cond.code yX0_fetch cX0_fetch 1 (some .int), Cond.methodLink RX4 94 yX0_lossAt, Cond.instanceMethod yX0_lossAt, Cond.selects RX0 yX0_lossAt yX0_lossAt, Cond.code yX0_lossAt cX0_lossAt 9 (some .int), Cond.fieldLink RX0 25 "SetAgain$Chair" "lost" "[I", Cond.fieldLink RX0 21 "SetAgain$Chair" "law" "LSetAgain$Law;", Cond.fieldLink RX0 49 "SetAgain$Law" "holds" "Z", Cond.methodLink RX0 57 Lib.Math.min.name, Cond.methodLink RX0 36 Lib.Math.max.name]
def wsX11_wilful_r6 : List Cond := [Cond.methodLink RX0 53 yX5_valueOf, Cond.instanceMethod yX5_valueOf, Cond.selects RX5 yX5_valueOf yX5_valueOf, Cond.initialized RX5, Cond.code yX5_valueOf cX5_valueOf 10 (some .int), Cond.fieldLink RX5 46 "SetAgain$Law" "coded" "I", Cond.fieldLink RX5 18 "SetAgain$Law" "code" "[I", Cond.fieldLink RX5 21 "SetAgain$Law" "stack" "[I", Cond.methodLink RX5 99 yX5_operands, Cond.static yX5_operands, Cond.code yX5_operands cX5_operands 1 (some .int), Cond.methodLink RX5 103 yX5_named, Cond.static yX5_named, Cond.code yX5_named cX5_named 5 (some .int), Cond.methodLink RX5 111 Lib.Math.abs.name, Cond.methodLink RX5 107 yX5_worked, Cond.static yX5_worked, Cond.code yX5_worked cX5_worked 3 (some .int), Cond.methodLink RX4 65 yX4_leaves, Cond.instanceMethod yX4_leaves, Cond.selects RX4 yX4_leaves yX4_leaves, Cond.code yX4_leaves cX4_leaves 2 none, Cond.methodLink RX4 68 yX4_slip, Cond.instanceMethod yX4_slip]
def wsX11_wilful_r7 : List Cond := [Cond.selects RX4 yX4_slip yX4_slip, Cond.code yX4_slip cX4_slip 2 none, Cond.methodLink RX4 108 yX0_slipped, Cond.instanceMethod yX0_slipped, Cond.selects RX0 yX0_slipped yX0_slipped, Cond.code yX0_slipped cX0_slipped 3 (some .int)]
def wsX11_wilful : List Cond := .code yX11_wilful cX11_wilful 4 (some .int) :: ((wsX11_wilful_r1 ++ (wsX11_wilful_r2 ++ (wsX11_wilful_r3 ++ (wsX11_wilful_r4 ++ (wsX11_wilful_r5 ++ (wsX11_wilful_r6 ++ wsX11_wilful_r7)))))) ++ wsX110 ++ wsX00 ++ wsX70 ++ wsX100 ++ wsX40 ++ wsX50)
def wsX11_who_r1 : List Cond := [Cond.fieldLink RX11 80 "SetAgain" "shelves" "[LSetAgain$Shelf;", Cond.fieldLink RX11 212 "SetAgain$Shelf" "length" "I", Cond.fieldLink RX11 51 "SetAgain" "seen" "LSetAgain$Seen;", Cond.methodLink RX11 97 yX11_isShelf, Cond.static yX11_isShelf, Cond.initialized RX11, Cond.code yX11_isShelf cX11_isShelf 1 (some .boolean), Cond.methodLink RX11 123 yX11_isPart, Cond.static yX11_isPart, Cond.code yX11_isPart cX11_isPart 1 (some .boolean), Cond.methodLink RX11 209 yX11_refusalOf, Cond.instanceMethod yX11_refusalOf, Cond.selects RX11 yX11_refusalOf yX11_refusalOf, Cond.code yX11_refusalOf cX11_refusalOf 2 (some .int), Cond.fieldLink RX11 100 "SetAgain$Shelf" "sort" "I", Cond.methodLink RX11 213 yX6_mayHaveSat, Cond.instanceMethod yX6_mayHaveSat, Cond.selects RX6 yX6_mayHaveSat yX6_mayHaveSat, Cond.initialized RX6, Cond.code yX6_mayHaveSat cX6_mayHaveSat 10 (some .int), Cond.fieldLink RX6 15 "SetAgain$Seen" "row" "LSetAgain$Shelf;", Cond.fieldLink RX6 19 "SetAgain$Seen" "part" "I", Cond.fieldLink RX6 9 "SetAgain$Seen" "chair" "LSetAgain$Chair;", Cond.fieldLink RX6 30 "SetAgain$Chair" "sitters" "I"]
def wsX11_who_r2 : List Cond := [Cond.methodLink RX6 23 yX6_reachedAhead, Cond.instanceMethod yX6_reachedAhead, Cond.selects RX6 yX6_reachedAhead yX6_reachedAhead, Cond.code yX6_reachedAhead cX6_reachedAhead 8 (some .long), Cond.fieldLink RX6 39 "SetAgain$Chair" "stands" "[I", Cond.methodLink RX6 35 yX6_allBehind, Cond.instanceMethod yX6_allBehind, Cond.selects RX6 yX6_allBehind yX6_allBehind, Cond.code yX6_allBehind cX6_allBehind 7 (some .long), Cond.methodLink RX6 71 yX6_behindShift, Cond.instanceMethod yX6_behindShift, Cond.selects RX6 yX6_behindShift yX6_behindShift, Cond.code yX6_behindShift cX6_behindShift 3 (some .int), Cond.methodLink RX6 74 yX0_slipped, Cond.instanceMethod yX0_slipped, Cond.selects RX0 yX0_slipped yX0_slipped, Cond.initialized RX0, Cond.code yX0_slipped cX0_slipped 3 (some .int), Cond.fieldLink RX0 11 "SetAgain$Chair" "told" "[I", Cond.methodLink RX0 36 Lib.Math.max.name, Cond.static Lib.Math.max.name, Cond.initialized "java/lang/Math", Cond.code Lib.Math.max.name Lib.Math.max.code 2 (some .int), Cond.methodLink RX6 77 yX0_numberOf]
def wsX11_who_r3 : List Cond := [Cond.instanceMethod yX0_numberOf, Cond.selects RX0 yX0_numberOf yX0_numberOf, Cond.code yX0_numberOf cX0_numberOf 3 (some .int), Cond.methodLink RX6 80 yX0_turned, Cond.instanceMethod yX0_turned, Cond.selects RX0 yX0_turned yX0_turned, Cond.code yX0_turned cX0_turned 6 (some .int), Cond.methodLink RX0 45 Lib.Math.abs.name, Cond.static Lib.Math.abs.name, Cond.code Lib.Math.abs.name Lib.Math.abs.code 1 (some .int), Cond.methodLink RX0 42 yX0_numberOf, Cond.methodLink RX6 43 yX6_asSeen, Cond.instanceMethod yX6_asSeen, Cond.selects RX6 yX6_asSeen yX6_asSeen, Cond.code yX6_asSeen cX6_asSeen 4 (some .long), Cond.fieldLink RX6 63 "SetAgain$Shelf" "elements" "[J", Cond.constantLong RX6 67 (-1), Cond.constantLong RX6 46 (2305843009213693951), Cond.constantLong RX6 69 (60), Cond.methodLink RX6 27 yX6_fittingBehind, Cond.instanceMethod yX6_fittingBehind, Cond.selects RX6 yX6_fittingBehind yX6_fittingBehind, Cond.code yX6_fittingBehind cX6_fittingBehind 5 (some .long), Cond.fieldLink RX6 48 "SetAgain$Shelf" "length" "I"]
def wsX11_who_r4 : List Cond := [Cond.methodLink RX6 53 Lib.Math.min.name, Cond.static Lib.Math.min.name, Cond.code Lib.Math.min.name Lib.Math.min.code 2 (some .int), Cond.methodLink RX6 59 yX6_allAhead, Cond.instanceMethod yX6_allAhead, Cond.selects RX6 yX6_allAhead yX6_allAhead, Cond.code yX6_allAhead cX6_allAhead 7 (some .long)]
def wsX11_who : List Cond := .code yX11_who cX11_who 5 (some .int) :: ((wsX11_who_r1 ++ (wsX11_who_r2 ++ (wsX11_who_r3 ++ wsX11_who_r4))) ++ wsX110 ++ wsX70 ++ wsX60 ++ wsX00)
def wsX11_judge_r1 : List Cond := [Cond.fieldLink RX11 80 "SetAgain" "shelves" "[LSetAgain$Shelf;", Cond.methodLink RX11 97 yX11_isShelf, Cond.static yX11_isShelf, Cond.initialized RX11, Cond.code yX11_isShelf cX11_isShelf 1 (some .boolean), Cond.methodLink RX11 123 yX11_isPart, Cond.static yX11_isPart, Cond.code yX11_isPart cX11_isPart 1 (some .boolean), Cond.methodLink RX11 209 yX11_refusalOf, Cond.instanceMethod yX11_refusalOf, Cond.selects RX11 yX11_refusalOf yX11_refusalOf, Cond.code yX11_refusalOf cX11_refusalOf 2 (some .int), Cond.fieldLink RX11 100 "SetAgain$Shelf" "sort" "I", Cond.methodLink RX11 153 yX11_readWeek, Cond.instanceMethod yX11_readWeek, Cond.selects RX11 yX11_readWeek yX11_readWeek, Cond.code yX11_readWeek cX11_readWeek 3 (some .int), Cond.fieldLink RX11 19 "SetAgain" "week" "LSetAgain$Week;", Cond.fieldLink RX11 12 "SetAgain" "chair" "LSetAgain$Chair;", Cond.fieldLink RX11 310 "SetAgain$Chair" "sitters" "I", Cond.methodLink RX11 320 yX10_reads, Cond.instanceMethod yX10_reads, Cond.selects RX10 yX10_reads yX10_reads, Cond.initialized RX10]
def wsX11_judge_r2 : List Cond := [Cond.code yX10_reads cX10_reads 5 none, Cond.fieldLink RX10 18 "SetAgain$Shelf" "length" "I", Cond.methodLink RX10 24 Lib.Math.min.name, Cond.static Lib.Math.min.name, Cond.initialized "java/lang/Math", Cond.code Lib.Math.min.name Lib.Math.min.code 2 (some .int), Cond.fieldLink RX10 30 "SetAgain$Week" "length" "I", Cond.fieldLink RX10 31 "SetAgain$Week" "sat" "I", Cond.fieldLink RX10 15 "SetAgain$Week" "times" "[I", Cond.fieldLink RX10 34 "SetAgain$Shelf" "elements" "[J", Cond.fieldLink RX10 9 "SetAgain$Week" "sitters" "[I", Cond.methodLink RX11 216 yX11_firstUnlike, Cond.instanceMethod yX11_firstUnlike, Cond.selects RX11 yX11_firstUnlike yX11_firstUnlike, Cond.code yX11_firstUnlike cX11_firstUnlike 5 (some .int), Cond.fieldLink RX11 168 "SetAgain$Week" "length" "I", Cond.fieldLink RX11 212 "SetAgain$Shelf" "length" "I", Cond.methodLink RX11 263 Lib.Math.min.name, Cond.fieldLink RX11 28 "SetAgain" "habits" "LSetAgain$Habits;", Cond.fieldLink RX11 331 "SetAgain$Week" "sitters" "[I", Cond.fieldLink RX11 281 "SetAgain$Shelf" "elements" "[J", Cond.constantLong RX11 336 (-1), Cond.fieldLink RX11 190 "SetAgain$Habits" "stand" "[I", Cond.methodLink RX11 328 yX4_begin]
def wsX11_judge_r3 : List Cond := [Cond.instanceMethod yX4_begin, Cond.selects RX4 yX4_begin yX4_begin, Cond.initialized RX4, Cond.code yX4_begin cX4_begin 2 none, Cond.fieldLink RX4 36 "SetAgain$Habits" "losses" "I", Cond.fieldLink RX4 39 "SetAgain$Habits" "costs" "I", Cond.fieldLink RX4 15 "SetAgain$Habits" "turns" "[I", Cond.fieldLink RX4 18 "SetAgain$Habits" "spared" "[I", Cond.methodLink RX4 42 yX4_standAsNow, Cond.instanceMethod yX4_standAsNow, Cond.selects RX4 yX4_standAsNow yX4_standAsNow, Cond.code yX4_standAsNow cX4_standAsNow 2 none, Cond.fieldLink RX4 9 "SetAgain$Habits" "stand" "[I", Cond.fieldLink RX4 28 "SetAgain$Habits" "chair" "LSetAgain$Chair;", Cond.fieldLink RX4 45 "SetAgain$Chair" "stands" "[I", Cond.methodLink RX11 333 yX4_pass, Cond.instanceMethod yX4_pass, Cond.selects RX4 yX4_pass yX4_pass, Cond.code yX4_pass cX4_pass 2 none, Cond.fieldLink RX4 25 "SetAgain$Habits" "leaver" "I", Cond.methodLink RX4 62 yX4_comes, Cond.instanceMethod yX4_comes, Cond.selects RX4 yX4_comes yX4_comes, Cond.code yX4_comes cX4_comes 6 none]
def wsX11_judge_r4 : List Cond := [Cond.fieldLink RX4 21 "SetAgain$Habits" "tried" "I", Cond.fieldLink RX4 71 "SetAgain$Habits" "triedNear" "I", Cond.methodLink RX4 89 Lib.Math.max.name, Cond.static Lib.Math.max.name, Cond.code Lib.Math.max.name Lib.Math.max.code 2 (some .int), Cond.methodLink RX4 74 yX0_numberOf, Cond.instanceMethod yX0_numberOf, Cond.selects RX0 yX0_numberOf yX0_numberOf, Cond.initialized RX0, Cond.code yX0_numberOf cX0_numberOf 3 (some .int), Cond.fieldLink RX0 11 "SetAgain$Chair" "told" "[I", Cond.methodLink RX4 78 yX0_turned, Cond.instanceMethod yX0_turned, Cond.selects RX0 yX0_turned yX0_turned, Cond.code yX0_turned cX0_turned 6 (some .int), Cond.methodLink RX0 45 Lib.Math.abs.name, Cond.static Lib.Math.abs.name, Cond.code Lib.Math.abs.name Lib.Math.abs.code 1 (some .int), Cond.methodLink RX0 42 yX0_numberOf, Cond.methodLink RX4 82 yX4_turnTo, Cond.instanceMethod yX4_turnTo, Cond.selects RX4 yX4_turnTo yX4_turnTo, Cond.code yX4_turnTo cX4_turnTo 5 (some .int), Cond.methodLink RX4 101 Lib.Math.abs.name]
def wsX11_judge_r5 : List Cond := [Cond.methodLink RX4 105 yX0_priceOf, Cond.instanceMethod yX0_priceOf, Cond.selects RX0 yX0_priceOf yX0_priceOf, Cond.code yX0_priceOf cX0_priceOf 2 (some .int), Cond.methodLink RX4 85 yX0_fetch, Cond.instanceMethod yX0_fetch, Cond.selects RX0 yX0_fetch yX0_fetch, Cond.code yX0_fetch cX0_fetch 1 (some .int), Cond.methodLink RX4 94 yX0_lossAt, Cond.instanceMethod yX0_lossAt, Cond.selects RX0 yX0_lossAt yX0_lossAt, Cond.code yX0_lossAt cX0_lossAt 9 (some .int), Cond.fieldLink RX0 25 "SetAgain$Chair" "lost" "[I", Cond.fieldLink RX0 21 "SetAgain$Chair" "law" "LSetAgain$Law;", Cond.fieldLink RX0 49 "SetAgain$Law" "holds" "Z", Cond.methodLink RX0 57 Lib.Math.min.name, Cond.methodLink RX0 36 Lib.Math.max.name, Cond.methodLink RX0 53 yX5_valueOf, Cond.instanceMethod yX5_valueOf, Cond.selects RX5 yX5_valueOf yX5_valueOf, Cond.initialized RX5, Cond.code yX5_valueOf cX5_valueOf 10 (some .int), Cond.fieldLink RX5 46 "SetAgain$Law" "coded" "I", Cond.fieldLink RX5 18 "SetAgain$Law" "code" "[I"]
def wsX11_judge_r6 : List Cond := [Cond.fieldLink RX5 21 "SetAgain$Law" "stack" "[I", Cond.methodLink RX5 99 yX5_operands, Cond.static yX5_operands, Cond.code yX5_operands cX5_operands 1 (some .int), Cond.methodLink RX5 103 yX5_named, Cond.static yX5_named, Cond.code yX5_named cX5_named 5 (some .int), Cond.methodLink RX5 111 Lib.Math.abs.name, Cond.methodLink RX5 107 yX5_worked, Cond.static yX5_worked, Cond.code yX5_worked cX5_worked 3 (some .int), Cond.methodLink RX4 65 yX4_leaves, Cond.instanceMethod yX4_leaves, Cond.selects RX4 yX4_leaves yX4_leaves, Cond.code yX4_leaves cX4_leaves 2 none, Cond.fieldLink RX4 98 "SetAgain$Habits" "left" "I", Cond.methodLink RX4 68 yX4_slip, Cond.instanceMethod yX4_slip, Cond.selects RX4 yX4_slip yX4_slip, Cond.code yX4_slip cX4_slip 2 none, Cond.methodLink RX4 108 yX0_slipped, Cond.instanceMethod yX0_slipped, Cond.selects RX0 yX0_slipped yX0_slipped, Cond.code yX0_slipped cX0_slipped 3 (some .int)]
def wsX11_judge : List Cond := .code yX11_judge cX11_judge 7 (some .int) :: ((wsX11_judge_r1 ++ (wsX11_judge_r2 ++ (wsX11_judge_r3 ++ (wsX11_judge_r4 ++ (wsX11_judge_r5 ++ wsX11_judge_r6))))) ++ wsX110 ++ wsX70 ++ wsX00 ++ wsX100 ++ wsX40 ++ wsX50)
def wsX11_drawn_r1 : List Cond := [Cond.fieldLink RX11 28 "SetAgain" "habits" "LSetAgain$Habits;", Cond.fieldLink RX11 187 "SetAgain$Habits" "costs" "I", Cond.methodLink RX11 97 yX11_isShelf, Cond.static yX11_isShelf, Cond.initialized RX11, Cond.code yX11_isShelf cX11_isShelf 1 (some .boolean), Cond.methodLink RX11 153 yX11_readWeek, Cond.instanceMethod yX11_readWeek, Cond.selects RX11 yX11_readWeek yX11_readWeek, Cond.code yX11_readWeek cX11_readWeek 3 (some .int), Cond.fieldLink RX11 19 "SetAgain" "week" "LSetAgain$Week;", Cond.fieldLink RX11 80 "SetAgain" "shelves" "[LSetAgain$Shelf;", Cond.fieldLink RX11 12 "SetAgain" "chair" "LSetAgain$Chair;", Cond.fieldLink RX11 310 "SetAgain$Chair" "sitters" "I", Cond.methodLink RX11 209 yX11_refusalOf, Cond.instanceMethod yX11_refusalOf, Cond.selects RX11 yX11_refusalOf yX11_refusalOf, Cond.code yX11_refusalOf cX11_refusalOf 2 (some .int), Cond.fieldLink RX11 100 "SetAgain$Shelf" "sort" "I", Cond.methodLink RX11 320 yX10_reads, Cond.instanceMethod yX10_reads, Cond.selects RX10 yX10_reads yX10_reads, Cond.initialized RX10, Cond.code yX10_reads cX10_reads 5 none]
def wsX11_drawn_r2 : List Cond := [Cond.fieldLink RX10 18 "SetAgain$Shelf" "length" "I", Cond.methodLink RX10 24 Lib.Math.min.name, Cond.static Lib.Math.min.name, Cond.initialized "java/lang/Math", Cond.code Lib.Math.min.name Lib.Math.min.code 2 (some .int), Cond.fieldLink RX10 30 "SetAgain$Week" "length" "I", Cond.fieldLink RX10 31 "SetAgain$Week" "sat" "I", Cond.fieldLink RX10 15 "SetAgain$Week" "times" "[I", Cond.fieldLink RX10 34 "SetAgain$Shelf" "elements" "[J", Cond.fieldLink RX10 9 "SetAgain$Week" "sitters" "[I", Cond.methodLink RX11 220 yX4_drawWeeks, Cond.instanceMethod yX4_drawWeeks, Cond.selects RX4 yX4_drawWeeks yX4_drawWeeks, Cond.initialized RX4, Cond.code yX4_drawWeeks cX4_drawWeeks 8 (some .int), Cond.fieldLink RX4 32 "SetAgain$Habits" "week" "LSetAgain$Week;", Cond.fieldLink RX4 111 "SetAgain$Week" "length" "I", Cond.fieldLink RX4 53 "SetAgain$Week" "sitters" "[I", Cond.constant RX4 127 (1103515245), Cond.fieldLink RX4 28 "SetAgain$Habits" "chair" "LSetAgain$Chair;", Cond.methodLink RX4 50 yX4_begin, Cond.instanceMethod yX4_begin, Cond.selects RX4 yX4_begin yX4_begin, Cond.code yX4_begin cX4_begin 2 none]
def wsX11_drawn_r3 : List Cond := [Cond.fieldLink RX4 36 "SetAgain$Habits" "losses" "I", Cond.fieldLink RX4 39 "SetAgain$Habits" "costs" "I", Cond.fieldLink RX4 15 "SetAgain$Habits" "turns" "[I", Cond.fieldLink RX4 18 "SetAgain$Habits" "spared" "[I", Cond.methodLink RX4 42 yX4_standAsNow, Cond.instanceMethod yX4_standAsNow, Cond.selects RX4 yX4_standAsNow yX4_standAsNow, Cond.code yX4_standAsNow cX4_standAsNow 2 none, Cond.fieldLink RX4 9 "SetAgain$Habits" "stand" "[I", Cond.fieldLink RX4 45 "SetAgain$Chair" "stands" "[I", Cond.methodLink RX4 74 yX0_numberOf, Cond.instanceMethod yX0_numberOf, Cond.selects RX0 yX0_numberOf yX0_numberOf, Cond.initialized RX0, Cond.code yX0_numberOf cX0_numberOf 3 (some .int), Cond.fieldLink RX0 11 "SetAgain$Chair" "told" "[I", Cond.methodLink RX4 58 yX4_pass, Cond.instanceMethod yX4_pass, Cond.selects RX4 yX4_pass yX4_pass, Cond.code yX4_pass cX4_pass 2 none, Cond.fieldLink RX4 25 "SetAgain$Habits" "leaver" "I", Cond.methodLink RX4 62 yX4_comes, Cond.instanceMethod yX4_comes, Cond.selects RX4 yX4_comes yX4_comes]
def wsX11_drawn_r4 : List Cond := [Cond.code yX4_comes cX4_comes 6 none, Cond.fieldLink RX4 21 "SetAgain$Habits" "tried" "I", Cond.fieldLink RX4 71 "SetAgain$Habits" "triedNear" "I", Cond.methodLink RX4 89 Lib.Math.max.name, Cond.static Lib.Math.max.name, Cond.code Lib.Math.max.name Lib.Math.max.code 2 (some .int), Cond.methodLink RX4 78 yX0_turned, Cond.instanceMethod yX0_turned, Cond.selects RX0 yX0_turned yX0_turned, Cond.code yX0_turned cX0_turned 6 (some .int), Cond.methodLink RX0 45 Lib.Math.abs.name, Cond.static Lib.Math.abs.name, Cond.code Lib.Math.abs.name Lib.Math.abs.code 1 (some .int), Cond.methodLink RX0 42 yX0_numberOf, Cond.methodLink RX4 82 yX4_turnTo, Cond.instanceMethod yX4_turnTo, Cond.selects RX4 yX4_turnTo yX4_turnTo, Cond.code yX4_turnTo cX4_turnTo 5 (some .int), Cond.methodLink RX4 101 Lib.Math.abs.name, Cond.methodLink RX4 105 yX0_priceOf, Cond.instanceMethod yX0_priceOf, Cond.selects RX0 yX0_priceOf yX0_priceOf, Cond.code yX0_priceOf cX0_priceOf 2 (some .int), Cond.methodLink RX4 85 yX0_fetch]
def wsX11_drawn_r5 : List Cond := [Cond.instanceMethod yX0_fetch, Cond.selects RX0 yX0_fetch yX0_fetch, Cond.code yX0_fetch cX0_fetch 1 (some .int), Cond.methodLink RX4 94 yX0_lossAt, Cond.instanceMethod yX0_lossAt, Cond.selects RX0 yX0_lossAt yX0_lossAt, Cond.code yX0_lossAt cX0_lossAt 9 (some .int), Cond.fieldLink RX0 25 "SetAgain$Chair" "lost" "[I", Cond.fieldLink RX0 21 "SetAgain$Chair" "law" "LSetAgain$Law;", Cond.fieldLink RX0 49 "SetAgain$Law" "holds" "Z", Cond.methodLink RX0 57 Lib.Math.min.name, Cond.methodLink RX0 36 Lib.Math.max.name, Cond.methodLink RX0 53 yX5_valueOf, Cond.instanceMethod yX5_valueOf, Cond.selects RX5 yX5_valueOf yX5_valueOf, Cond.initialized RX5, Cond.code yX5_valueOf cX5_valueOf 10 (some .int), Cond.fieldLink RX5 46 "SetAgain$Law" "coded" "I", Cond.fieldLink RX5 18 "SetAgain$Law" "code" "[I", Cond.fieldLink RX5 21 "SetAgain$Law" "stack" "[I", Cond.methodLink RX5 99 yX5_operands, Cond.static yX5_operands, Cond.code yX5_operands cX5_operands 1 (some .int), Cond.methodLink RX5 103 yX5_named]
def wsX11_drawn_r6 : List Cond := [Cond.static yX5_named, Cond.code yX5_named cX5_named 5 (some .int), Cond.methodLink RX5 111 Lib.Math.abs.name, Cond.methodLink RX5 107 yX5_worked, Cond.static yX5_worked, Cond.code yX5_worked cX5_worked 3 (some .int), Cond.methodLink RX4 65 yX4_leaves, Cond.instanceMethod yX4_leaves, Cond.selects RX4 yX4_leaves yX4_leaves, Cond.code yX4_leaves cX4_leaves 2 none, Cond.fieldLink RX4 98 "SetAgain$Habits" "left" "I", Cond.methodLink RX4 68 yX4_slip, Cond.instanceMethod yX4_slip, Cond.selects RX4 yX4_slip yX4_slip, Cond.code yX4_slip cX4_slip 2 none, Cond.methodLink RX4 108 yX0_slipped, Cond.instanceMethod yX0_slipped, Cond.selects RX0 yX0_slipped yX0_slipped, Cond.code yX0_slipped cX0_slipped 3 (some .int)]
def wsX11_drawn : List Cond := .code yX11_drawn cX11_drawn 7 (some .int) :: ((wsX11_drawn_r1 ++ (wsX11_drawn_r2 ++ (wsX11_drawn_r3 ++ (wsX11_drawn_r4 ++ (wsX11_drawn_r5 ++ wsX11_drawn_r6))))) ++ wsX110 ++ wsX40 ++ wsX00 ++ wsX70 ++ wsX100 ++ wsX50)
def wsX11_sit_r1 : List Cond := [Cond.fieldLink RX11 12 "SetAgain" "chair" "LSetAgain$Chair;", Cond.fieldLink RX11 60 "SetAgain" "deed" "LSetAgain$Deed;", Cond.methodLink RX11 146 yX0_has, Cond.instanceMethod yX0_has, Cond.selects RX0 yX0_has yX0_has, Cond.initialized RX0, Cond.code yX0_has cX0_has 2 (some .boolean), Cond.fieldLink RX0 28 "SetAgain$Chair" "sitters" "I", Cond.methodLink RX11 223 yX2_comes, Cond.instanceMethod yX2_comes, Cond.selects RX2 yX2_comes yX2_comes, Cond.initialized RX2, Cond.code yX2_comes cX2_comes 2 (some .int), Cond.fieldLink RX2 25 "SetAgain$Deed" "habits" "LSetAgain$Habits;", Cond.fieldLink RX2 38 "SetAgain$Habits" "stand" "[I", Cond.fieldLink RX2 21 "SetAgain$Deed" "chair" "LSetAgain$Chair;", Cond.fieldLink RX2 41 "SetAgain$Chair" "stands" "[I", Cond.methodLink RX2 46 arraycopyName, Cond.native arraycopyName, Cond.static arraycopyName, Cond.initialized "java/lang/System", Cond.fieldLink RX2 11 "SetAgain$Deed" "told" "[I", Cond.fieldLink RX2 52 "SetAgain$Habits" "costs" "I", Cond.fieldLink RX2 60 "SetAgain$Habits" "losses" "I"]
def wsX11_sit_r2 : List Cond := [Cond.methodLink RX2 29 yX4_begin, Cond.instanceMethod yX4_begin, Cond.selects RX4 yX4_begin yX4_begin, Cond.initialized RX4, Cond.code yX4_begin cX4_begin 2 none, Cond.fieldLink RX4 36 "SetAgain$Habits" "losses" "I", Cond.fieldLink RX4 39 "SetAgain$Habits" "costs" "I", Cond.fieldLink RX4 15 "SetAgain$Habits" "turns" "[I", Cond.fieldLink RX4 18 "SetAgain$Habits" "spared" "[I", Cond.methodLink RX4 42 yX4_standAsNow, Cond.instanceMethod yX4_standAsNow, Cond.selects RX4 yX4_standAsNow yX4_standAsNow, Cond.code yX4_standAsNow cX4_standAsNow 2 none, Cond.fieldLink RX4 9 "SetAgain$Habits" "stand" "[I", Cond.fieldLink RX4 28 "SetAgain$Habits" "chair" "LSetAgain$Chair;", Cond.fieldLink RX4 45 "SetAgain$Chair" "stands" "[I", Cond.methodLink RX2 34 yX4_comes, Cond.instanceMethod yX4_comes, Cond.selects RX4 yX4_comes yX4_comes, Cond.code yX4_comes cX4_comes 6 none, Cond.fieldLink RX4 21 "SetAgain$Habits" "tried" "I", Cond.fieldLink RX4 71 "SetAgain$Habits" "triedNear" "I", Cond.methodLink RX4 89 Lib.Math.max.name, Cond.static Lib.Math.max.name]
def wsX11_sit_r3 : List Cond := [Cond.initialized "java/lang/Math", Cond.code Lib.Math.max.name Lib.Math.max.code 2 (some .int), Cond.methodLink RX4 74 yX0_numberOf, Cond.instanceMethod yX0_numberOf, Cond.selects RX0 yX0_numberOf yX0_numberOf, Cond.code yX0_numberOf cX0_numberOf 3 (some .int), Cond.fieldLink RX0 11 "SetAgain$Chair" "told" "[I", Cond.methodLink RX4 78 yX0_turned, Cond.instanceMethod yX0_turned, Cond.selects RX0 yX0_turned yX0_turned, Cond.code yX0_turned cX0_turned 6 (some .int), Cond.methodLink RX0 45 Lib.Math.abs.name, Cond.static Lib.Math.abs.name, Cond.code Lib.Math.abs.name Lib.Math.abs.code 1 (some .int), Cond.methodLink RX0 42 yX0_numberOf, Cond.methodLink RX4 82 yX4_turnTo, Cond.instanceMethod yX4_turnTo, Cond.selects RX4 yX4_turnTo yX4_turnTo, Cond.code yX4_turnTo cX4_turnTo 5 (some .int), Cond.methodLink RX4 101 Lib.Math.abs.name, Cond.methodLink RX4 105 yX0_priceOf, Cond.instanceMethod yX0_priceOf, Cond.selects RX0 yX0_priceOf yX0_priceOf, Cond.code yX0_priceOf cX0_priceOf 2 (some .int)]
def wsX11_sit_r4 : List Cond := [Cond.methodLink RX4 85 yX0_fetch, Cond.instanceMethod yX0_fetch, Cond.selects RX0 yX0_fetch yX0_fetch, Cond.code yX0_fetch cX0_fetch 1 (some .int), Cond.methodLink RX4 94 yX0_lossAt, Cond.instanceMethod yX0_lossAt, Cond.selects RX0 yX0_lossAt yX0_lossAt, Cond.code yX0_lossAt cX0_lossAt 9 (some .int), Cond.fieldLink RX0 25 "SetAgain$Chair" "lost" "[I", Cond.fieldLink RX0 21 "SetAgain$Chair" "law" "LSetAgain$Law;", Cond.fieldLink RX0 49 "SetAgain$Law" "holds" "Z", Cond.methodLink RX0 57 Lib.Math.min.name, Cond.static Lib.Math.min.name, Cond.code Lib.Math.min.name Lib.Math.min.code 2 (some .int), Cond.methodLink RX0 36 Lib.Math.max.name, Cond.methodLink RX0 53 yX5_valueOf, Cond.instanceMethod yX5_valueOf, Cond.selects RX5 yX5_valueOf yX5_valueOf, Cond.initialized RX5, Cond.code yX5_valueOf cX5_valueOf 10 (some .int), Cond.fieldLink RX5 46 "SetAgain$Law" "coded" "I", Cond.fieldLink RX5 18 "SetAgain$Law" "code" "[I", Cond.fieldLink RX5 21 "SetAgain$Law" "stack" "[I", Cond.methodLink RX5 99 yX5_operands]
def wsX11_sit_r5 : List Cond := [Cond.static yX5_operands, Cond.code yX5_operands cX5_operands 1 (some .int), Cond.methodLink RX5 103 yX5_named, Cond.static yX5_named, Cond.code yX5_named cX5_named 5 (some .int), Cond.methodLink RX5 111 Lib.Math.abs.name, Cond.methodLink RX5 107 yX5_worked, Cond.static yX5_worked, Cond.code yX5_worked cX5_worked 3 (some .int), Cond.methodLink RX2 56 yX4_allTurns, Cond.instanceMethod yX4_allTurns, Cond.selects RX4 yX4_allTurns yX4_allTurns, Cond.code yX4_allTurns cX4_allTurns 3 (some .int)]
def wsX11_sit : List Cond := .code yX11_sit cX11_sit 2 (some .int) :: ((wsX11_sit_r1 ++ (wsX11_sit_r2 ++ (wsX11_sit_r3 ++ (wsX11_sit_r4 ++ wsX11_sit_r5)))) ++ wsX110 ++ wsX00 ++ wsX20 ++ wsX40 ++ wsX50)
def wsX11_set : List Cond := .code yX11_set cX11_set 3 (some .int) :: ([.fieldLink RX11 60 "SetAgain" "deed" "LSetAgain$Deed;", .methodLink RX11 123 yX11_isPart, .static yX11_isPart, .initialized RX11, .code yX11_isPart cX11_isPart 1 (some .boolean), .methodLink RX11 85 yX11_isSetting, .static yX11_isSetting, .code yX11_isSetting cX11_isSetting 1 (some .boolean), .methodLink RX11 225 yX2_turns, .instanceMethod yX2_turns, .selects RX2 yX2_turns yX2_turns, .initialized RX2, .code yX2_turns cX2_turns 4 (some .int), .fieldLink RX2 21 "SetAgain$Deed" "chair" "LSetAgain$Chair;", .fieldLink RX2 41 "SetAgain$Chair" "stands" "[I", .methodLink RX2 63 Lib.Math.abs.name, .static Lib.Math.abs.name, .initialized "java/lang/Math", .code Lib.Math.abs.name Lib.Math.abs.code 1 (some .int), .fieldLink RX2 11 "SetAgain$Deed" "told" "[I"] ++ wsX110 ++ wsX20 ++ wsX00)
def wsX11_night : List Cond := .code yX11_night cX11_night 1 (some .int) :: ([.fieldLink RX11 60 "SetAgain" "deed" "LSetAgain$Deed;", .methodLink RX11 228 yX2_allSlip, .instanceMethod yX2_allSlip, .selects RX2 yX2_allSlip yX2_allSlip, .initialized RX2, .code yX2_allSlip cX2_allSlip 4 (some .int), .fieldLink RX2 21 "SetAgain$Deed" "chair" "LSetAgain$Chair;", .fieldLink RX2 41 "SetAgain$Chair" "stands" "[I", .methodLink RX2 69 yX0_slipped, .instanceMethod yX0_slipped, .selects RX0 yX0_slipped yX0_slipped, .initialized RX0, .code yX0_slipped cX0_slipped 3 (some .int), .fieldLink RX0 11 "SetAgain$Chair" "told" "[I", .methodLink RX0 36 Lib.Math.max.name, .static Lib.Math.max.name, .initialized "java/lang/Math", .code Lib.Math.max.name Lib.Math.max.code 2 (some .int)] ++ wsX110 ++ wsX20 ++ wsX00)
def wsX11_led : List Cond := .code yX11_led cX11_led 2 (some .int) :: ([.fieldLink RX11 60 "SetAgain" "deed" "LSetAgain$Deed;", .fieldLink RX11 231 "SetAgain$Deed" "told" "[I"] ++ wsX110 ++ wsX20)
def wsX11_image : List Cond := .code yX11_image cX11_image 1 (some .int) :: ([.fieldLink RX11 60 "SetAgain" "deed" "LSetAgain$Deed;", .methodLink RX11 232 yX2_keepImage, .instanceMethod yX2_keepImage, .selects RX2 yX2_keepImage yX2_keepImage, .initialized RX2, .code yX2_keepImage cX2_keepImage 1 (some .int), .fieldLink RX2 11 "SetAgain$Deed" "told" "[I", .fieldLink RX2 15 "SetAgain$Deed" "keptTold" "[I", .methodLink RX2 46 arraycopyName, .native arraycopyName, .static arraycopyName, .initialized "java/lang/System", .fieldLink RX2 21 "SetAgain$Deed" "chair" "LSetAgain$Chair;", .fieldLink RX2 41 "SetAgain$Chair" "stands" "[I", .fieldLink RX2 18 "SetAgain$Deed" "keptStands" "[I", .fieldLink RX2 73 "SetAgain$Deed" "kept" "Z"] ++ wsX110 ++ wsX20 ++ wsX00)
def wsX11_back : List Cond := .code yX11_back cX11_back 1 (some .int) :: ([.fieldLink RX11 60 "SetAgain" "deed" "LSetAgain$Deed;", .methodLink RX11 235 yX2_layBack, .instanceMethod yX2_layBack, .selects RX2 yX2_layBack yX2_layBack, .initialized RX2, .code yX2_layBack cX2_layBack 1 (some .int), .fieldLink RX2 73 "SetAgain$Deed" "kept" "Z", .fieldLink RX2 15 "SetAgain$Deed" "keptTold" "[I", .fieldLink RX2 11 "SetAgain$Deed" "told" "[I", .methodLink RX2 46 arraycopyName, .native arraycopyName, .static arraycopyName, .initialized "java/lang/System", .fieldLink RX2 18 "SetAgain$Deed" "keptStands" "[I", .fieldLink RX2 21 "SetAgain$Deed" "chair" "LSetAgain$Chair;", .fieldLink RX2 41 "SetAgain$Chair" "stands" "[I"] ++ wsX110 ++ wsX20 ++ wsX00)
def wsX11_undo : List Cond := .code yX11_undo cX11_undo 1 (some .int) :: ([.fieldLink RX11 67 "SetAgain" "changes" "LSetAgain$Changes;", .fieldLink RX11 238 "SetAgain$Changes" "done" "I", .fieldLink RX11 12 "SetAgain" "chair" "LSetAgain$Chair;", .fieldLink RX11 241 "SetAgain$Changes" "places" "[I", .fieldLink RX11 244 "SetAgain$Changes" "before" "[I", .methodLink RX11 119 yX0_becomes, .instanceMethod yX0_becomes, .selects RX0 yX0_becomes yX0_becomes, .initialized RX0, .code yX0_becomes cX0_becomes 3 none, .fieldLink RX0 11 "SetAgain$Chair" "told" "[I", .methodLink RX0 32 yX0_forget, .instanceMethod yX0_forget, .selects RX0 yX0_forget yX0_forget, .code yX0_forget cX0_forget 4 none, .fieldLink RX0 25 "SetAgain$Chair" "lost" "[I"] ++ wsX110 ++ wsX10 ++ wsX00)
def wsX11_redo : List Cond := .code yX11_redo cX11_redo 1 (some .int) :: ([.fieldLink RX11 67 "SetAgain" "changes" "LSetAgain$Changes;", .fieldLink RX11 238 "SetAgain$Changes" "done" "I", .fieldLink RX11 247 "SetAgain$Changes" "kept" "I", .fieldLink RX11 12 "SetAgain" "chair" "LSetAgain$Chair;", .fieldLink RX11 241 "SetAgain$Changes" "places" "[I", .fieldLink RX11 250 "SetAgain$Changes" "after" "[I", .methodLink RX11 119 yX0_becomes, .instanceMethod yX0_becomes, .selects RX0 yX0_becomes yX0_becomes, .initialized RX0, .code yX0_becomes cX0_becomes 3 none, .fieldLink RX0 11 "SetAgain$Chair" "told" "[I", .methodLink RX0 32 yX0_forget, .instanceMethod yX0_forget, .selects RX0 yX0_forget yX0_forget, .code yX0_forget cX0_forget 4 none, .fieldLink RX0 25 "SetAgain$Chair" "lost" "[I"] ++ wsX110 ++ wsX10 ++ wsX00)
def wsX11_isKind : List Cond := .code yX11_isKind cX11_isKind 1 (some .boolean) :: ([])
def wsX11_body : List Cond := .code yX11_body cX11_body 2 (some .int) :: ([.fieldLink RX11 74 "SetAgain" "desks" "LSetAgain$Desks;", .methodLink RX11 253 yX11_isKind, .static yX11_isKind, .initialized RX11, .code yX11_isKind cX11_isKind 1 (some .boolean), .methodLink RX11 256 yX3_comes, .instanceMethod yX3_comes, .selects RX3 yX3_comes yX3_comes, .initialized RX3, .code yX3_comes cX3_comes 2 (some .int), .fieldLink RX3 18 "SetAgain$Desks" "kept" "I", .fieldLink RX3 9 "SetAgain$Desks" "kinds" "[I"] ++ wsX110 ++ wsX30)
def wsX11_act_r1 : List Cond := [Cond.fieldLink RX11 74 "SetAgain" "desks" "LSetAgain$Desks;", Cond.methodLink RX11 257 yX3_acts, Cond.instanceMethod yX3_acts, Cond.selects RX3 yX3_acts yX3_acts, Cond.initialized RX3, Cond.code yX3_acts cX3_acts 4 (some .int), Cond.fieldLink RX3 25 "SetAgain$Desks" "ran" "I", Cond.fieldLink RX3 18 "SetAgain$Desks" "kept" "I", Cond.fieldLink RX3 9 "SetAgain$Desks" "kinds" "[I", Cond.fieldLink RX3 28 "SetAgain$Desks" "kind" "I", Cond.fieldLink RX3 31 "SetAgain$Desks" "number" "I", Cond.methodLink RX3 34 yX3_does, Cond.instanceMethod yX3_does, Cond.selects RX3 yX3_does yX3_does, Cond.code yX3_does cX3_does 7 (some .int), Cond.fieldLink RX3 42 "SetAgain$Desks" "OWN" "[I", Cond.fieldLink RX3 15 "SetAgain$Desks" "trace" "[I", Cond.fieldLink RX3 22 "SetAgain$Desks" "ABOVE" "[I", Cond.methodLink RX3 38 yX3_ownerOf, Cond.static yX3_ownerOf, Cond.code yX3_ownerOf cX3_ownerOf 4 (some .int), Cond.methodLink RX3 45 yX3_runs, Cond.instanceMethod yX3_runs, Cond.selects RX3 yX3_runs yX3_runs]
def wsX11_act_r2 : List Cond := [Cond.code yX3_runs cX3_runs 5 (some .int)]
def wsX11_act : List Cond := .code yX11_act cX11_act 4 (some .int) :: ((wsX11_act_r1 ++ wsX11_act_r2) ++ wsX110 ++ wsX30)
def wsX11_trace : List Cond := .code yX11_trace cX11_trace 2 (some .int) :: ([.fieldLink RX11 74 "SetAgain" "desks" "LSetAgain$Desks;", .fieldLink RX11 260 "SetAgain$Desks" "ran" "I", .methodLink RX11 263 Lib.Math.min.name, .static Lib.Math.min.name, .initialized "java/lang/Math", .code Lib.Math.min.name Lib.Math.min.code 2 (some .int), .fieldLink RX11 268 "SetAgain$Desks" "trace" "[I"] ++ wsX110 ++ wsX30)
def wsX11_keep : List Cond := .code yX11_keep cX11_keep 3 (some .int) :: ([.fieldLink RX11 74 "SetAgain" "desks" "LSetAgain$Desks;", .fieldLink RX11 271 "SetAgain$Desks" "kept" "I", .fieldLink RX11 80 "SetAgain" "shelves" "[LSetAgain$Shelf;", .methodLink RX11 97 yX11_isShelf, .static yX11_isShelf, .initialized RX11, .code yX11_isShelf cX11_isShelf 1 (some .boolean), .methodLink RX11 272 yX7_takesDesk, .instanceMethod yX7_takesDesk, .selects RX7 yX7_takesDesk yX7_takesDesk, .initialized RX7, .code yX7_takesDesk cX7_takesDesk 2 none, .fieldLink RX7 15 "SetAgain$Shelf" "sort" "I", .fieldLink RX7 19 "SetAgain$Shelf" "desk" "I"] ++ wsX110 ++ wsX30 ++ wsX70)
def wsX11_row : List Cond := .code yX11_row cX11_row 4 (some .int) :: ([.fieldLink RX11 80 "SetAgain" "shelves" "[LSetAgain$Shelf;", .methodLink RX11 97 yX11_isShelf, .static yX11_isShelf, .initialized RX11, .code yX11_isShelf cX11_isShelf 1 (some .boolean), .methodLink RX11 275 yX7_takesRow, .instanceMethod yX7_takesRow, .selects RX7 yX7_takesRow yX7_takesRow, .initialized RX7, .code yX7_takesRow cX7_takesRow 4 none, .fieldLink RX7 15 "SetAgain$Shelf" "sort" "I", .fieldLink RX7 22 "SetAgain$Shelf" "length" "I", .fieldLink RX7 9 "SetAgain$Shelf" "elements" "[J"] ++ wsX110 ++ wsX70)
def wsX11_refusalAt : List Cond := .code yX11_refusalAt cX11_refusalAt 4 (some .int) :: ([.fieldLink RX11 80 "SetAgain" "shelves" "[LSetAgain$Shelf;", .fieldLink RX11 100 "SetAgain$Shelf" "sort" "I", .methodLink RX11 97 yX11_isShelf, .static yX11_isShelf, .initialized RX11, .code yX11_isShelf cX11_isShelf 1 (some .boolean), .methodLink RX11 291 yX7_isRow, .instanceMethod yX7_isRow, .selects RX7 yX7_isRow yX7_isRow, .initialized RX7, .code yX7_isRow cX7_isRow 1 (some .boolean), .fieldLink RX7 15 "SetAgain$Shelf" "sort" "I", .methodLink RX11 295 yX7_hasPlaces, .instanceMethod yX7_hasPlaces, .selects RX7 yX7_hasPlaces yX7_hasPlaces, .code yX7_hasPlaces cX7_hasPlaces 3 (some .boolean), .fieldLink RX7 22 "SetAgain$Shelf" "length" "I"] ++ wsX110 ++ wsX70)
def wsX11_put_r1 : List Cond := [Cond.fieldLink RX11 80 "SetAgain" "shelves" "[LSetAgain$Shelf;", Cond.fieldLink RX11 281 "SetAgain$Shelf" "elements" "[J", Cond.methodLink RX11 278 yX11_refusalAt, Cond.instanceMethod yX11_refusalAt, Cond.selects RX11 yX11_refusalAt yX11_refusalAt, Cond.initialized RX11, Cond.code yX11_refusalAt cX11_refusalAt 4 (some .int), Cond.fieldLink RX11 100 "SetAgain$Shelf" "sort" "I", Cond.methodLink RX11 97 yX11_isShelf, Cond.static yX11_isShelf, Cond.code yX11_isShelf cX11_isShelf 1 (some .boolean), Cond.methodLink RX11 291 yX7_isRow, Cond.instanceMethod yX7_isRow, Cond.selects RX7 yX7_isRow yX7_isRow, Cond.initialized RX7, Cond.code yX7_isRow cX7_isRow 1 (some .boolean), Cond.fieldLink RX7 15 "SetAgain$Shelf" "sort" "I", Cond.methodLink RX11 295 yX7_hasPlaces, Cond.instanceMethod yX7_hasPlaces, Cond.selects RX7 yX7_hasPlaces yX7_hasPlaces, Cond.code yX7_hasPlaces cX7_hasPlaces 3 (some .boolean), Cond.fieldLink RX7 22 "SetAgain$Shelf" "length" "I", Cond.methodLink RX11 285 yX7_cut, Cond.instanceMethod yX7_cut]
def wsX11_put_r2 : List Cond := [Cond.selects RX7 yX7_cut yX7_cut, Cond.code yX7_cut cX7_cut 3 (some .long)]
def wsX11_put : List Cond := .code yX11_put cX11_put 6 (some .int) :: ((wsX11_put_r1 ++ wsX11_put_r2) ++ wsX110 ++ wsX70)
def wsX11_element : List Cond := .code yX11_element cX11_element 3 (some .long) :: ([.constantLong RX11 289 (-9223372036854775808), .fieldLink RX11 80 "SetAgain" "shelves" "[LSetAgain$Shelf;", .fieldLink RX11 281 "SetAgain$Shelf" "elements" "[J", .methodLink RX11 278 yX11_refusalAt, .instanceMethod yX11_refusalAt, .selects RX11 yX11_refusalAt yX11_refusalAt, .initialized RX11, .code yX11_refusalAt cX11_refusalAt 4 (some .int), .fieldLink RX11 100 "SetAgain$Shelf" "sort" "I", .methodLink RX11 97 yX11_isShelf, .static yX11_isShelf, .code yX11_isShelf cX11_isShelf 1 (some .boolean), .methodLink RX11 291 yX7_isRow, .instanceMethod yX7_isRow, .selects RX7 yX7_isRow yX7_isRow, .initialized RX7, .code yX7_isRow cX7_isRow 1 (some .boolean), .fieldLink RX7 15 "SetAgain$Shelf" "sort" "I", .methodLink RX11 295 yX7_hasPlaces, .instanceMethod yX7_hasPlaces, .selects RX7 yX7_hasPlaces yX7_hasPlaces, .code yX7_hasPlaces cX7_hasPlaces 3 (some .boolean), .fieldLink RX7 22 "SetAgain$Shelf" "length" "I"] ++ wsX110 ++ wsX70)
def wsX11_shift : List Cond := .code yX11_shift cX11_shift 8 (some .int) :: ([.fieldLink RX11 80 "SetAgain" "shelves" "[LSetAgain$Shelf;", .fieldLink RX11 100 "SetAgain$Shelf" "sort" "I", .fieldLink RX11 281 "SetAgain$Shelf" "elements" "[J", .methodLink RX11 298 arraycopyName, .native arraycopyName, .static arraycopyName, .initialized "java/lang/System", .methodLink RX11 97 yX11_isShelf, .static yX11_isShelf, .initialized RX11, .code yX11_isShelf cX11_isShelf 1 (some .boolean), .methodLink RX11 291 yX7_isRow, .instanceMethod yX7_isRow, .selects RX7 yX7_isRow yX7_isRow, .initialized RX7, .code yX7_isRow cX7_isRow 1 (some .boolean), .fieldLink RX7 15 "SetAgain$Shelf" "sort" "I", .methodLink RX11 295 yX7_hasPlaces, .instanceMethod yX7_hasPlaces, .selects RX7 yX7_hasPlaces yX7_hasPlaces, .code yX7_hasPlaces cX7_hasPlaces 3 (some .boolean), .fieldLink RX7 22 "SetAgain$Shelf" "length" "I"] ++ wsX110 ++ wsX70)
def wsX11_taken : List Cond := .code yX11_taken cX11_taken 4 (some .int) :: ([.fieldLink RX11 80 "SetAgain" "shelves" "[LSetAgain$Shelf;", .fieldLink RX11 100 "SetAgain$Shelf" "sort" "I", .fieldLink RX11 74 "SetAgain" "desks" "LSetAgain$Desks;", .fieldLink RX11 304 "SetAgain$Shelf" "desk" "I", .methodLink RX11 97 yX11_isShelf, .static yX11_isShelf, .initialized RX11, .code yX11_isShelf cX11_isShelf 1 (some .boolean), .methodLink RX11 253 yX11_isKind, .static yX11_isKind, .code yX11_isKind cX11_isKind 1 (some .boolean), .methodLink RX11 307 yX3_takenFor, .instanceMethod yX3_takenFor, .selects RX3 yX3_takenFor yX3_takenFor, .initialized RX3, .code yX3_takenFor cX3_takenFor 5 (some .int), .fieldLink RX3 9 "SetAgain$Desks" "kinds" "[I", .fieldLink RX3 22 "SetAgain$Desks" "ABOVE" "[I"] ++ wsX110 ++ wsX70 ++ wsX30)
def wsX11_count : List Cond := .code yX11_count cX11_count 2 (some .int) :: ([.fieldLink RX11 12 "SetAgain" "chair" "LSetAgain$Chair;", .fieldLink RX11 310 "SetAgain$Chair" "sitters" "I", .fieldLink RX11 129 "SetAgain$Chair" "law" "LSetAgain$Law;", .fieldLink RX11 313 "SetAgain$Law" "length" "I", .fieldLink RX11 67 "SetAgain" "changes" "LSetAgain$Changes;", .fieldLink RX11 238 "SetAgain$Changes" "done" "I", .fieldLink RX11 74 "SetAgain" "desks" "LSetAgain$Desks;", .fieldLink RX11 271 "SetAgain$Desks" "kept" "I", .fieldLink RX11 260 "SetAgain$Desks" "ran" "I"] ++ wsX110 ++ wsX00 ++ wsX50 ++ wsX10 ++ wsX30)
def wsX12_within : List Cond := .code yX12_within cX12_within 6 (some .boolean) :: ([])
def wsX12_sizeOf : List Cond := .code yX12_sizeOf cX12_sizeOf 1 (some .int) :: ([])
def wsX12_init_r1 : List Cond := [Cond.methodLink RX12 3 objectInit, Cond.instanceMethod objectInit, Cond.code objectInit ⟨#[0xb1]⟩ 1 none, Cond.arrayClass .int, Cond.fieldLink RX12 9 "SetAgainModel" "may" "[I", Cond.fieldLink RX12 13 "SetAgainModel" "changeAt" "[I", Cond.fieldLink RX12 16 "SetAgainModel" "changeWas" "[I", Cond.fieldLink RX12 19 "SetAgainModel" "changeIs" "[I", Cond.fieldLink RX12 22 "SetAgainModel" "stands" "[I", Cond.fieldLink RX12 25 "SetAgainModel" "tape" "[I", Cond.fieldLink RX12 28 "SetAgainModel" "text" "[I", Cond.fieldLink RX12 31 "SetAgainModel" "names" "[I", Cond.fieldLink RX12 34 "SetAgainModel" "lossIn" "[I", Cond.fieldLink RX12 37 "SetAgainModel" "leastFrom" "[I", Cond.arrayClass .boolean, Cond.fieldLink RX12 40 "SetAgainModel" "isIll" "[Z", Cond.fieldLink RX12 44 "SetAgainModel" "stand1" "[I", Cond.fieldLink RX12 47 "SetAgainModel" "standBehind" "[I", Cond.fieldLink RX12 50 "SetAgainModel" "lossAt" "[I", Cond.fieldLink RX12 53 "SetAgainModel" "chairOf" "[I", Cond.fieldLink RX12 56 "SetAgainModel" "bestChair" "[I", Cond.fieldLink RX12 59 "SetAgainModel" "canStand" "[Z", Cond.fieldLink RX12 62 "SetAgainModel" "canGoOn" "[Z", Cond.fieldLink RX12 65 "SetAgainModel" "image" "[I"]
def wsX12_init_r2 : List Cond := [Cond.fieldLink RX12 68 "SetAgainModel" "bodyKind" "[I", Cond.fieldLink RX12 71 "SetAgainModel" "trace" "[I", Cond.fieldLink RX12 74 "SetAgainModel" "shelf" "[I", Cond.fieldLink RX12 77 "SetAgainModel" "many" "[I", Cond.arrayClass .long, Cond.fieldLink RX12 80 "SetAgainModel" "items" "[J", Cond.fieldLink RX12 84 "SetAgainModel" "carried" "[J", Cond.fieldLink RX12 87 "SetAgainModel" "textMany" "I", Cond.fieldLink RX12 91 "SetAgainModel" "ledWho" "I", Cond.fieldLink RX12 94 "SetAgainModel" "nearOf" "I", Cond.fieldLink RX12 97 "SetAgainModel" "wilfulOf" "I"]
def wsX12_init : List Cond := .code yX12_init cX12_init 2 none :: ((wsX12_init_r1 ++ wsX12_init_r2) ++ wsX120)
def wsX12_becomes : List Cond := .code yX12_becomes cX12_becomes 5 (some .int) :: ([.fieldLink RX12 9 "SetAgainModel" "may" "[I", .fieldLink RX12 100 "SetAgainModel" "done" "I", .fieldLink RX12 13 "SetAgainModel" "changeAt" "[I", .fieldLink RX12 16 "SetAgainModel" "changeWas" "[I", .fieldLink RX12 19 "SetAgainModel" "changeIs" "[I", .fieldLink RX12 103 "SetAgainModel" "keptMany" "I"] ++ wsX120)
def wsX12_undo : List Cond := .code yX12_undo cX12_undo 1 (some .int) :: ([.fieldLink RX12 100 "SetAgainModel" "done" "I", .fieldLink RX12 9 "SetAgainModel" "may" "[I", .fieldLink RX12 13 "SetAgainModel" "changeAt" "[I", .fieldLink RX12 16 "SetAgainModel" "changeWas" "[I"] ++ wsX120)
def wsX12_redo : List Cond := .code yX12_redo cX12_redo 1 (some .int) :: ([.fieldLink RX12 100 "SetAgainModel" "done" "I", .fieldLink RX12 103 "SetAgainModel" "keptMany" "I", .fieldLink RX12 9 "SetAgainModel" "may" "[I", .fieldLink RX12 13 "SetAgainModel" "changeAt" "[I", .fieldLink RX12 19 "SetAgainModel" "changeIs" "[I"] ++ wsX120)
def wsX12_isSitter : List Cond := .code yX12_isSitter cX12_isSitter 3 (some .boolean) :: ([.fieldLink RX12 106 "SetAgainModel" "sitters" "I", .methodLink RX12 109 yX12_within, .static yX12_within, .initialized RX12, .code yX12_within cX12_within 6 (some .boolean)] ++ wsX120)
def wsX12_isPart : List Cond := .code yX12_isPart cX12_isPart 1 (some .boolean) :: ([.constantLong RX12 113 (2), .methodLink RX12 109 yX12_within, .static yX12_within, .initialized RX12, .code yX12_within cX12_within 6 (some .boolean)])
def wsX12_isSetting : List Cond := .code yX12_isSetting cX12_isSetting 2 (some .boolean) :: ([.constantLong RX12 115 (60), .methodLink RX12 109 yX12_within, .static yX12_within, .initialized RX12, .code yX12_within cX12_within 6 (some .boolean)])
def wsX12_adds : List Cond := .code yX12_adds cX12_adds 6 none :: ([.fieldLink RX12 106 "SetAgainModel" "sitters" "I", .fieldLink RX12 9 "SetAgainModel" "may" "[I"] ++ wsX120)
def wsX12_sitter : List Cond := .code yX12_sitter cX12_sitter 3 (some .int) :: ([.constantLong RX12 121 (12), .fieldLink RX12 106 "SetAgainModel" "sitters" "I", .methodLink RX12 117 yX12_isSetting, .static yX12_isSetting, .initialized RX12, .code yX12_isSetting cX12_isSetting 2 (some .boolean), .constantLong RX12 115 (60), .methodLink RX12 109 yX12_within, .static yX12_within, .code yX12_within cX12_within 6 (some .boolean), .methodLink RX12 123 yX12_adds, .instanceMethod yX12_adds, .selects RX12 yX12_adds yX12_adds, .code yX12_adds cX12_adds 6 none, .fieldLink RX12 9 "SetAgainModel" "may" "[I"] ++ wsX120)
def wsX12_isShelf : List Cond := .code yX12_isShelf cX12_isShelf 1 (some .boolean) :: ([.constantLong RX12 385 (5), .methodLink RX12 109 yX12_within, .static yX12_within, .initialized RX12, .code yX12_within cX12_within 6 (some .boolean)])
def wsX12_sitters : List Cond := .code yX12_sitters cX12_sitters 7 (some .int) :: ([.constantLong RX12 131 (8), .fieldLink RX12 74 "SetAgainModel" "shelf" "[I", .fieldLink RX12 77 "SetAgainModel" "many" "[I", .fieldLink RX12 106 "SetAgainModel" "sitters" "I", .fieldLink RX12 80 "SetAgainModel" "items" "[J", .constantLong RX12 121 (12), .methodLink RX12 127 yX12_isShelf, .static yX12_isShelf, .initialized RX12, .code yX12_isShelf cX12_isShelf 1 (some .boolean), .constantLong RX12 385 (5), .methodLink RX12 109 yX12_within, .static yX12_within, .code yX12_within cX12_within 6 (some .boolean), .methodLink RX12 117 yX12_isSetting, .static yX12_isSetting, .code yX12_isSetting cX12_isSetting 2 (some .boolean), .constantLong RX12 115 (60), .methodLink RX12 123 yX12_adds, .instanceMethod yX12_adds, .selects RX12 yX12_adds yX12_adds, .code yX12_adds cX12_adds 6 none, .fieldLink RX12 9 "SetAgainModel" "may" "[I"] ++ wsX120)
def wsX12_placeOf : List Cond := .code yX12_placeOf cX12_placeOf 3 (some .int) :: ([.constantLong RX12 133 (7), .constantLong RX12 131 (8), .constantLong RX12 138 (9), .methodLink RX12 109 yX12_within, .static yX12_within, .initialized RX12, .code yX12_within cX12_within 6 (some .boolean), .methodLink RX12 135 yX12_isSitter, .instanceMethod yX12_isSitter, .selects RX12 yX12_isSitter yX12_isSitter, .code yX12_isSitter cX12_isSitter 3 (some .boolean), .fieldLink RX12 106 "SetAgainModel" "sitters" "I", .methodLink RX12 140 yX12_isPart, .static yX12_isPart, .code yX12_isPart cX12_isPart 1 (some .boolean), .constantLong RX12 113 (2)] ++ wsX120)
def wsX12_mostOf : List Cond := .code yX12_mostOf cX12_mostOf 1 (some .int) :: ([])
def wsX12_mend_r1 : List Cond := [Cond.methodLink RX12 143 yX12_placeOf, Cond.instanceMethod yX12_placeOf, Cond.selects RX12 yX12_placeOf yX12_placeOf, Cond.initialized RX12, Cond.code yX12_placeOf cX12_placeOf 3 (some .int), Cond.constantLong RX12 133 (7), Cond.constantLong RX12 131 (8), Cond.constantLong RX12 138 (9), Cond.methodLink RX12 109 yX12_within, Cond.static yX12_within, Cond.code yX12_within cX12_within 6 (some .boolean), Cond.methodLink RX12 135 yX12_isSitter, Cond.instanceMethod yX12_isSitter, Cond.selects RX12 yX12_isSitter yX12_isSitter, Cond.code yX12_isSitter cX12_isSitter 3 (some .boolean), Cond.fieldLink RX12 106 "SetAgainModel" "sitters" "I", Cond.methodLink RX12 140 yX12_isPart, Cond.static yX12_isPart, Cond.code yX12_isPart cX12_isPart 1 (some .boolean), Cond.constantLong RX12 113 (2), Cond.methodLink RX12 147 yX12_mostOf, Cond.static yX12_mostOf, Cond.code yX12_mostOf cX12_mostOf 1 (some .int), Cond.methodLink RX12 151 yX12_becomes]
def wsX12_mend_r2 : List Cond := [Cond.instanceMethod yX12_becomes, Cond.selects RX12 yX12_becomes yX12_becomes, Cond.code yX12_becomes cX12_becomes 5 (some .int), Cond.fieldLink RX12 9 "SetAgainModel" "may" "[I", Cond.fieldLink RX12 100 "SetAgainModel" "done" "I", Cond.fieldLink RX12 13 "SetAgainModel" "changeAt" "[I", Cond.fieldLink RX12 16 "SetAgainModel" "changeWas" "[I", Cond.fieldLink RX12 19 "SetAgainModel" "changeIs" "[I", Cond.fieldLink RX12 103 "SetAgainModel" "keptMany" "I"]
def wsX12_mend : List Cond := .code yX12_mend cX12_mend 5 (some .int) :: ((wsX12_mend_r1 ++ wsX12_mend_r2) ++ wsX120)
def wsX12_of : List Cond := .code yX12_of cX12_of 4 (some .int) :: ([.fieldLink RX12 22 "SetAgainModel" "stands" "[I", .fieldLink RX12 9 "SetAgainModel" "may" "[I", .methodLink RX12 140 yX12_isPart, .static yX12_isPart, .initialized RX12, .code yX12_isPart cX12_isPart 1 (some .boolean), .constantLong RX12 113 (2), .methodLink RX12 109 yX12_within, .static yX12_within, .code yX12_within cX12_within 6 (some .boolean), .methodLink RX12 143 yX12_placeOf, .instanceMethod yX12_placeOf, .selects RX12 yX12_placeOf yX12_placeOf, .code yX12_placeOf cX12_placeOf 3 (some .int), .constantLong RX12 133 (7), .constantLong RX12 131 (8), .constantLong RX12 138 (9), .methodLink RX12 135 yX12_isSitter, .instanceMethod yX12_isSitter, .selects RX12 yX12_isSitter yX12_isSitter, .code yX12_isSitter cX12_isSitter 3 (some .boolean), .fieldLink RX12 106 "SetAgainModel" "sitters" "I"] ++ wsX120)
def wsX12_feed : List Cond := .code yX12_feed cX12_feed 2 (some .int) :: ([.constantLong RX12 154 (255), .fieldLink RX12 156 "SetAgainModel" "tapeMany" "I", .fieldLink RX12 25 "SetAgainModel" "tape" "[I", .methodLink RX12 109 yX12_within, .static yX12_within, .initialized RX12, .code yX12_within cX12_within 6 (some .boolean)] ++ wsX120)
def wsX12_byteAt : List Cond := .code yX12_byteAt cX12_byteAt 1 (some .int) :: ([.fieldLink RX12 159 "SetAgainModel" "at" "I", .fieldLink RX12 162 "SetAgainModel" "ends" "I", .fieldLink RX12 165 "SetAgainModel" "base" "I", .fieldLink RX12 25 "SetAgainModel" "tape" "[I", .fieldLink RX12 28 "SetAgainModel" "text" "[I"] ++ wsX120)
def wsX12_wrong : List Cond := .code yX12_wrong cX12_wrong 1 (some .int) :: ([.fieldLink RX12 168 "SetAgainModel" "fault" "I", .fieldLink RX12 159 "SetAgainModel" "at" "I"] ++ wsX120)
def wsX12_takes : List Cond := .code yX12_takes cX12_takes 2 (some .boolean) :: ([.fieldLink RX12 168 "SetAgainModel" "fault" "I", .fieldLink RX12 159 "SetAgainModel" "at" "I", .methodLink RX12 171 yX12_byteAt, .instanceMethod yX12_byteAt, .selects RX12 yX12_byteAt yX12_byteAt, .initialized RX12, .code yX12_byteAt cX12_byteAt 1 (some .int), .fieldLink RX12 162 "SetAgainModel" "ends" "I", .fieldLink RX12 165 "SetAgainModel" "base" "I", .fieldLink RX12 25 "SetAgainModel" "tape" "[I", .fieldLink RX12 28 "SetAgainModel" "text" "[I"] ++ wsX120)
def wsX12_nameOf : List Cond := .code yX12_nameOf cX12_nameOf 1 (some .int) :: ([])
def wsX12_both_r1 : List Cond := [Cond.methodLink RX12 181 yX12_compared, Cond.instanceMethod yX12_compared, Cond.selects RX12 yX12_compared yX12_compared, Cond.initialized RX12, Cond.methodLink RX12 178 yX12_takes, Cond.instanceMethod yX12_takes, Cond.selects RX12 yX12_takes yX12_takes, Cond.code yX12_takes cX12_takes 2 (some .boolean), Cond.fieldLink RX12 168 "SetAgainModel" "fault" "I", Cond.fieldLink RX12 159 "SetAgainModel" "at" "I", Cond.methodLink RX12 171 yX12_byteAt, Cond.instanceMethod yX12_byteAt, Cond.selects RX12 yX12_byteAt yX12_byteAt, Cond.code yX12_byteAt cX12_byteAt 1 (some .int), Cond.fieldLink RX12 162 "SetAgainModel" "ends" "I", Cond.fieldLink RX12 165 "SetAgainModel" "base" "I", Cond.fieldLink RX12 25 "SetAgainModel" "tape" "[I", Cond.fieldLink RX12 28 "SetAgainModel" "text" "[I", Cond.code yX12_compared cX12_compared 4 (some .int), Cond.methodLink RX12 184 yX12_sums, Cond.instanceMethod yX12_sums, Cond.selects RX12 yX12_sums yX12_sums, Cond.code yX12_either cX12_either 3 (some .int), Cond.methodLink RX12 175 yX12_both]
def wsX12_both_r2 : List Cond := [Cond.instanceMethod yX12_both, Cond.selects RX12 yX12_both yX12_both, Cond.code yX12_one cX12_one 5 (some .int), Cond.fieldLink RX12 193 "SetAgainModel" "opened" "I", Cond.fieldLink RX12 31 "SetAgainModel" "names" "[I", Cond.methodLink RX12 196 yX12_wrong, Cond.instanceMethod yX12_wrong, Cond.selects RX12 yX12_wrong yX12_wrong, Cond.code yX12_wrong cX12_wrong 1 (some .int), Cond.methodLink RX12 199 yX12_either, Cond.instanceMethod yX12_either, Cond.selects RX12 yX12_either yX12_either, Cond.methodLink RX12 190 yX12_one, Cond.instanceMethod yX12_one, Cond.selects RX12 yX12_one yX12_one, Cond.methodLink RX12 202 yX12_nameOf, Cond.static yX12_nameOf, Cond.code yX12_nameOf cX12_nameOf 1 (some .int), Cond.code yX12_product cX12_product 4 (some .int), Cond.code yX12_sums cX12_sums 4 (some .int), Cond.methodLink RX12 187 yX12_product, Cond.instanceMethod yX12_product, Cond.selects RX12 yX12_product yX12_product]
def wsX12_both : List Cond := .code yX12_both cX12_both 3 (some .int) :: ((wsX12_both_r1 ++ wsX12_both_r2) ++ wsX120)
def wsX12_compared_r1 : List Cond := [Cond.fieldLink RX12 168 "SetAgainModel" "fault" "I", Cond.fieldLink RX12 159 "SetAgainModel" "at" "I", Cond.methodLink RX12 184 yX12_sums, Cond.instanceMethod yX12_sums, Cond.selects RX12 yX12_sums yX12_sums, Cond.initialized RX12, Cond.methodLink RX12 171 yX12_byteAt, Cond.instanceMethod yX12_byteAt, Cond.selects RX12 yX12_byteAt yX12_byteAt, Cond.code yX12_byteAt cX12_byteAt 1 (some .int), Cond.fieldLink RX12 162 "SetAgainModel" "ends" "I", Cond.fieldLink RX12 165 "SetAgainModel" "base" "I", Cond.fieldLink RX12 25 "SetAgainModel" "tape" "[I", Cond.fieldLink RX12 28 "SetAgainModel" "text" "[I", Cond.code yX12_both cX12_both 3 (some .int), Cond.methodLink RX12 181 yX12_compared, Cond.instanceMethod yX12_compared, Cond.selects RX12 yX12_compared yX12_compared, Cond.methodLink RX12 178 yX12_takes, Cond.instanceMethod yX12_takes, Cond.selects RX12 yX12_takes yX12_takes, Cond.code yX12_takes cX12_takes 2 (some .boolean), Cond.code yX12_either cX12_either 3 (some .int), Cond.methodLink RX12 175 yX12_both]
def wsX12_compared_r2 : List Cond := [Cond.instanceMethod yX12_both, Cond.selects RX12 yX12_both yX12_both, Cond.code yX12_one cX12_one 5 (some .int), Cond.fieldLink RX12 193 "SetAgainModel" "opened" "I", Cond.fieldLink RX12 31 "SetAgainModel" "names" "[I", Cond.methodLink RX12 196 yX12_wrong, Cond.instanceMethod yX12_wrong, Cond.selects RX12 yX12_wrong yX12_wrong, Cond.code yX12_wrong cX12_wrong 1 (some .int), Cond.methodLink RX12 199 yX12_either, Cond.instanceMethod yX12_either, Cond.selects RX12 yX12_either yX12_either, Cond.methodLink RX12 190 yX12_one, Cond.instanceMethod yX12_one, Cond.selects RX12 yX12_one yX12_one, Cond.methodLink RX12 202 yX12_nameOf, Cond.static yX12_nameOf, Cond.code yX12_nameOf cX12_nameOf 1 (some .int), Cond.code yX12_product cX12_product 4 (some .int), Cond.code yX12_sums cX12_sums 4 (some .int), Cond.methodLink RX12 187 yX12_product, Cond.instanceMethod yX12_product, Cond.selects RX12 yX12_product yX12_product]
def wsX12_compared : List Cond := .code yX12_compared cX12_compared 4 (some .int) :: ((wsX12_compared_r1 ++ wsX12_compared_r2) ++ wsX120)
def wsX12_either_r1 : List Cond := [Cond.methodLink RX12 175 yX12_both, Cond.instanceMethod yX12_both, Cond.selects RX12 yX12_both yX12_both, Cond.initialized RX12, Cond.methodLink RX12 178 yX12_takes, Cond.instanceMethod yX12_takes, Cond.selects RX12 yX12_takes yX12_takes, Cond.code yX12_takes cX12_takes 2 (some .boolean), Cond.fieldLink RX12 168 "SetAgainModel" "fault" "I", Cond.fieldLink RX12 159 "SetAgainModel" "at" "I", Cond.methodLink RX12 171 yX12_byteAt, Cond.instanceMethod yX12_byteAt, Cond.selects RX12 yX12_byteAt yX12_byteAt, Cond.code yX12_byteAt cX12_byteAt 1 (some .int), Cond.fieldLink RX12 162 "SetAgainModel" "ends" "I", Cond.fieldLink RX12 165 "SetAgainModel" "base" "I", Cond.fieldLink RX12 25 "SetAgainModel" "tape" "[I", Cond.fieldLink RX12 28 "SetAgainModel" "text" "[I", Cond.code yX12_both cX12_both 3 (some .int), Cond.methodLink RX12 181 yX12_compared, Cond.instanceMethod yX12_compared, Cond.selects RX12 yX12_compared yX12_compared, Cond.code yX12_compared cX12_compared 4 (some .int), Cond.methodLink RX12 184 yX12_sums]
def wsX12_either_r2 : List Cond := [Cond.instanceMethod yX12_sums, Cond.selects RX12 yX12_sums yX12_sums, Cond.code yX12_one cX12_one 5 (some .int), Cond.fieldLink RX12 193 "SetAgainModel" "opened" "I", Cond.fieldLink RX12 31 "SetAgainModel" "names" "[I", Cond.methodLink RX12 196 yX12_wrong, Cond.instanceMethod yX12_wrong, Cond.selects RX12 yX12_wrong yX12_wrong, Cond.code yX12_wrong cX12_wrong 1 (some .int), Cond.methodLink RX12 199 yX12_either, Cond.instanceMethod yX12_either, Cond.selects RX12 yX12_either yX12_either, Cond.methodLink RX12 190 yX12_one, Cond.instanceMethod yX12_one, Cond.selects RX12 yX12_one yX12_one, Cond.methodLink RX12 202 yX12_nameOf, Cond.static yX12_nameOf, Cond.code yX12_nameOf cX12_nameOf 1 (some .int), Cond.code yX12_product cX12_product 4 (some .int), Cond.code yX12_sums cX12_sums 4 (some .int), Cond.methodLink RX12 187 yX12_product, Cond.instanceMethod yX12_product, Cond.selects RX12 yX12_product yX12_product]
def wsX12_either : List Cond := .code yX12_either cX12_either 3 (some .int) :: ((wsX12_either_r1 ++ wsX12_either_r2) ++ wsX120)
def wsX12_one_r1 : List Cond := [Cond.fieldLink RX12 168 "SetAgainModel" "fault" "I", Cond.fieldLink RX12 193 "SetAgainModel" "opened" "I", Cond.fieldLink RX12 159 "SetAgainModel" "at" "I", Cond.fieldLink RX12 31 "SetAgainModel" "names" "[I", Cond.methodLink RX12 171 yX12_byteAt, Cond.instanceMethod yX12_byteAt, Cond.selects RX12 yX12_byteAt yX12_byteAt, Cond.initialized RX12, Cond.code yX12_byteAt cX12_byteAt 1 (some .int), Cond.fieldLink RX12 162 "SetAgainModel" "ends" "I", Cond.fieldLink RX12 165 "SetAgainModel" "base" "I", Cond.fieldLink RX12 25 "SetAgainModel" "tape" "[I", Cond.fieldLink RX12 28 "SetAgainModel" "text" "[I", Cond.methodLink RX12 196 yX12_wrong, Cond.instanceMethod yX12_wrong, Cond.selects RX12 yX12_wrong yX12_wrong, Cond.code yX12_wrong cX12_wrong 1 (some .int), Cond.methodLink RX12 199 yX12_either, Cond.instanceMethod yX12_either, Cond.selects RX12 yX12_either yX12_either, Cond.methodLink RX12 190 yX12_one, Cond.instanceMethod yX12_one, Cond.selects RX12 yX12_one yX12_one, Cond.methodLink RX12 178 yX12_takes]
def wsX12_one_r2 : List Cond := [Cond.instanceMethod yX12_takes, Cond.selects RX12 yX12_takes yX12_takes, Cond.code yX12_takes cX12_takes 2 (some .boolean), Cond.methodLink RX12 202 yX12_nameOf, Cond.static yX12_nameOf, Cond.code yX12_nameOf cX12_nameOf 1 (some .int), Cond.code yX12_both cX12_both 3 (some .int), Cond.methodLink RX12 181 yX12_compared, Cond.instanceMethod yX12_compared, Cond.selects RX12 yX12_compared yX12_compared, Cond.code yX12_compared cX12_compared 4 (some .int), Cond.methodLink RX12 184 yX12_sums, Cond.instanceMethod yX12_sums, Cond.selects RX12 yX12_sums yX12_sums, Cond.code yX12_either cX12_either 3 (some .int), Cond.methodLink RX12 175 yX12_both, Cond.instanceMethod yX12_both, Cond.selects RX12 yX12_both yX12_both, Cond.code yX12_product cX12_product 4 (some .int), Cond.code yX12_sums cX12_sums 4 (some .int), Cond.methodLink RX12 187 yX12_product, Cond.instanceMethod yX12_product, Cond.selects RX12 yX12_product yX12_product]
def wsX12_one : List Cond := .code yX12_one cX12_one 5 (some .int) :: ((wsX12_one_r1 ++ wsX12_one_r2) ++ wsX120)
def wsX12_product_r1 : List Cond := [Cond.fieldLink RX12 168 "SetAgainModel" "fault" "I", Cond.fieldLink RX12 159 "SetAgainModel" "at" "I", Cond.methodLink RX12 190 yX12_one, Cond.instanceMethod yX12_one, Cond.selects RX12 yX12_one yX12_one, Cond.initialized RX12, Cond.methodLink RX12 171 yX12_byteAt, Cond.instanceMethod yX12_byteAt, Cond.selects RX12 yX12_byteAt yX12_byteAt, Cond.code yX12_byteAt cX12_byteAt 1 (some .int), Cond.fieldLink RX12 162 "SetAgainModel" "ends" "I", Cond.fieldLink RX12 165 "SetAgainModel" "base" "I", Cond.fieldLink RX12 25 "SetAgainModel" "tape" "[I", Cond.fieldLink RX12 28 "SetAgainModel" "text" "[I", Cond.code yX12_both cX12_both 3 (some .int), Cond.methodLink RX12 181 yX12_compared, Cond.instanceMethod yX12_compared, Cond.selects RX12 yX12_compared yX12_compared, Cond.methodLink RX12 178 yX12_takes, Cond.instanceMethod yX12_takes, Cond.selects RX12 yX12_takes yX12_takes, Cond.code yX12_takes cX12_takes 2 (some .boolean), Cond.code yX12_compared cX12_compared 4 (some .int), Cond.methodLink RX12 184 yX12_sums]
def wsX12_product_r2 : List Cond := [Cond.instanceMethod yX12_sums, Cond.selects RX12 yX12_sums yX12_sums, Cond.code yX12_either cX12_either 3 (some .int), Cond.methodLink RX12 175 yX12_both, Cond.instanceMethod yX12_both, Cond.selects RX12 yX12_both yX12_both, Cond.code yX12_one cX12_one 5 (some .int), Cond.fieldLink RX12 193 "SetAgainModel" "opened" "I", Cond.fieldLink RX12 31 "SetAgainModel" "names" "[I", Cond.methodLink RX12 196 yX12_wrong, Cond.instanceMethod yX12_wrong, Cond.selects RX12 yX12_wrong yX12_wrong, Cond.code yX12_wrong cX12_wrong 1 (some .int), Cond.methodLink RX12 199 yX12_either, Cond.instanceMethod yX12_either, Cond.selects RX12 yX12_either yX12_either, Cond.methodLink RX12 202 yX12_nameOf, Cond.static yX12_nameOf, Cond.code yX12_nameOf cX12_nameOf 1 (some .int), Cond.code yX12_sums cX12_sums 4 (some .int), Cond.methodLink RX12 187 yX12_product, Cond.instanceMethod yX12_product, Cond.selects RX12 yX12_product yX12_product]
def wsX12_product : List Cond := .code yX12_product cX12_product 4 (some .int) :: ((wsX12_product_r1 ++ wsX12_product_r2) ++ wsX120)
def wsX12_sums_r1 : List Cond := [Cond.fieldLink RX12 168 "SetAgainModel" "fault" "I", Cond.fieldLink RX12 159 "SetAgainModel" "at" "I", Cond.methodLink RX12 187 yX12_product, Cond.instanceMethod yX12_product, Cond.selects RX12 yX12_product yX12_product, Cond.initialized RX12, Cond.methodLink RX12 171 yX12_byteAt, Cond.instanceMethod yX12_byteAt, Cond.selects RX12 yX12_byteAt yX12_byteAt, Cond.code yX12_byteAt cX12_byteAt 1 (some .int), Cond.fieldLink RX12 162 "SetAgainModel" "ends" "I", Cond.fieldLink RX12 165 "SetAgainModel" "base" "I", Cond.fieldLink RX12 25 "SetAgainModel" "tape" "[I", Cond.fieldLink RX12 28 "SetAgainModel" "text" "[I", Cond.code yX12_both cX12_both 3 (some .int), Cond.methodLink RX12 181 yX12_compared, Cond.instanceMethod yX12_compared, Cond.selects RX12 yX12_compared yX12_compared, Cond.methodLink RX12 178 yX12_takes, Cond.instanceMethod yX12_takes, Cond.selects RX12 yX12_takes yX12_takes, Cond.code yX12_takes cX12_takes 2 (some .boolean), Cond.code yX12_compared cX12_compared 4 (some .int), Cond.methodLink RX12 184 yX12_sums]
def wsX12_sums_r2 : List Cond := [Cond.instanceMethod yX12_sums, Cond.selects RX12 yX12_sums yX12_sums, Cond.code yX12_either cX12_either 3 (some .int), Cond.methodLink RX12 175 yX12_both, Cond.instanceMethod yX12_both, Cond.selects RX12 yX12_both yX12_both, Cond.code yX12_one cX12_one 5 (some .int), Cond.fieldLink RX12 193 "SetAgainModel" "opened" "I", Cond.fieldLink RX12 31 "SetAgainModel" "names" "[I", Cond.methodLink RX12 196 yX12_wrong, Cond.instanceMethod yX12_wrong, Cond.selects RX12 yX12_wrong yX12_wrong, Cond.code yX12_wrong cX12_wrong 1 (some .int), Cond.methodLink RX12 199 yX12_either, Cond.instanceMethod yX12_either, Cond.selects RX12 yX12_either yX12_either, Cond.methodLink RX12 190 yX12_one, Cond.instanceMethod yX12_one, Cond.selects RX12 yX12_one yX12_one, Cond.methodLink RX12 202 yX12_nameOf, Cond.static yX12_nameOf, Cond.code yX12_nameOf cX12_nameOf 1 (some .int), Cond.code yX12_product cX12_product 4 (some .int)]
def wsX12_sums : List Cond := .code yX12_sums cX12_sums 4 (some .int) :: ((wsX12_sums_r1 ++ wsX12_sums_r2) ++ wsX120)
def wsX12_workOut_r1 : List Cond := [Cond.fieldLink RX12 165 "SetAgainModel" "base" "I", Cond.fieldLink RX12 159 "SetAgainModel" "at" "I", Cond.fieldLink RX12 162 "SetAgainModel" "ends" "I", Cond.fieldLink RX12 168 "SetAgainModel" "fault" "I", Cond.fieldLink RX12 193 "SetAgainModel" "opened" "I", Cond.methodLink RX12 199 yX12_either, Cond.instanceMethod yX12_either, Cond.selects RX12 yX12_either yX12_either, Cond.initialized RX12, Cond.code yX12_either cX12_either 3 (some .int), Cond.methodLink RX12 175 yX12_both, Cond.instanceMethod yX12_both, Cond.selects RX12 yX12_both yX12_both, Cond.methodLink RX12 178 yX12_takes, Cond.instanceMethod yX12_takes, Cond.selects RX12 yX12_takes yX12_takes, Cond.code yX12_takes cX12_takes 2 (some .boolean), Cond.methodLink RX12 171 yX12_byteAt, Cond.instanceMethod yX12_byteAt, Cond.selects RX12 yX12_byteAt yX12_byteAt, Cond.code yX12_byteAt cX12_byteAt 1 (some .int), Cond.fieldLink RX12 25 "SetAgainModel" "tape" "[I", Cond.fieldLink RX12 28 "SetAgainModel" "text" "[I", Cond.code yX12_both cX12_both 3 (some .int)]
def wsX12_workOut_r2 : List Cond := [Cond.methodLink RX12 181 yX12_compared, Cond.instanceMethod yX12_compared, Cond.selects RX12 yX12_compared yX12_compared, Cond.code yX12_compared cX12_compared 4 (some .int), Cond.methodLink RX12 184 yX12_sums, Cond.instanceMethod yX12_sums, Cond.selects RX12 yX12_sums yX12_sums, Cond.code yX12_one cX12_one 5 (some .int), Cond.fieldLink RX12 31 "SetAgainModel" "names" "[I", Cond.methodLink RX12 196 yX12_wrong, Cond.instanceMethod yX12_wrong, Cond.selects RX12 yX12_wrong yX12_wrong, Cond.code yX12_wrong cX12_wrong 1 (some .int), Cond.methodLink RX12 190 yX12_one, Cond.instanceMethod yX12_one, Cond.selects RX12 yX12_one yX12_one, Cond.methodLink RX12 202 yX12_nameOf, Cond.static yX12_nameOf, Cond.code yX12_nameOf cX12_nameOf 1 (some .int), Cond.code yX12_product cX12_product 4 (some .int), Cond.code yX12_sums cX12_sums 4 (some .int), Cond.methodLink RX12 187 yX12_product, Cond.instanceMethod yX12_product, Cond.selects RX12 yX12_product yX12_product]
def wsX12_workOut : List Cond := .code yX12_workOut cX12_workOut 8 (some .int) :: ((wsX12_workOut_r1 ++ wsX12_workOut_r2) ++ wsX120)
def wsX12_law_r1 : List Cond := [Cond.fieldLink RX12 156 "SetAgainModel" "tapeMany" "I", Cond.fieldLink RX12 168 "SetAgainModel" "fault" "I", Cond.fieldLink RX12 28 "SetAgainModel" "text" "[I", Cond.fieldLink RX12 25 "SetAgainModel" "tape" "[I", Cond.fieldLink RX12 87 "SetAgainModel" "textMany" "I", Cond.methodLink RX12 205 yX12_workOut, Cond.instanceMethod yX12_workOut, Cond.selects RX12 yX12_workOut yX12_workOut, Cond.initialized RX12, Cond.code yX12_workOut cX12_workOut 8 (some .int), Cond.fieldLink RX12 165 "SetAgainModel" "base" "I", Cond.fieldLink RX12 159 "SetAgainModel" "at" "I", Cond.fieldLink RX12 162 "SetAgainModel" "ends" "I", Cond.fieldLink RX12 193 "SetAgainModel" "opened" "I", Cond.methodLink RX12 199 yX12_either, Cond.instanceMethod yX12_either, Cond.selects RX12 yX12_either yX12_either, Cond.code yX12_either cX12_either 3 (some .int), Cond.methodLink RX12 175 yX12_both, Cond.instanceMethod yX12_both, Cond.selects RX12 yX12_both yX12_both, Cond.methodLink RX12 178 yX12_takes, Cond.instanceMethod yX12_takes, Cond.selects RX12 yX12_takes yX12_takes]
def wsX12_law_r2 : List Cond := [Cond.code yX12_takes cX12_takes 2 (some .boolean), Cond.methodLink RX12 171 yX12_byteAt, Cond.instanceMethod yX12_byteAt, Cond.selects RX12 yX12_byteAt yX12_byteAt, Cond.code yX12_byteAt cX12_byteAt 1 (some .int), Cond.code yX12_both cX12_both 3 (some .int), Cond.methodLink RX12 181 yX12_compared, Cond.instanceMethod yX12_compared, Cond.selects RX12 yX12_compared yX12_compared, Cond.code yX12_compared cX12_compared 4 (some .int), Cond.methodLink RX12 184 yX12_sums, Cond.instanceMethod yX12_sums, Cond.selects RX12 yX12_sums yX12_sums, Cond.code yX12_one cX12_one 5 (some .int), Cond.fieldLink RX12 31 "SetAgainModel" "names" "[I", Cond.methodLink RX12 196 yX12_wrong, Cond.instanceMethod yX12_wrong, Cond.selects RX12 yX12_wrong yX12_wrong, Cond.code yX12_wrong cX12_wrong 1 (some .int), Cond.methodLink RX12 190 yX12_one, Cond.instanceMethod yX12_one, Cond.selects RX12 yX12_one yX12_one, Cond.methodLink RX12 202 yX12_nameOf, Cond.static yX12_nameOf]
def wsX12_law_r3 : List Cond := [Cond.code yX12_nameOf cX12_nameOf 1 (some .int), Cond.code yX12_product cX12_product 4 (some .int), Cond.code yX12_sums cX12_sums 4 (some .int), Cond.methodLink RX12 187 yX12_product, Cond.instanceMethod yX12_product, Cond.selects RX12 yX12_product yX12_product]
def wsX12_law : List Cond := .code yX12_law cX12_law 4 (some .int) :: ((wsX12_law_r1 ++ (wsX12_law_r2 ++ wsX12_law_r3)) ++ wsX120)
def wsX12_loss_r1 : List Cond := [Cond.methodLink RX12 135 yX12_isSitter, Cond.instanceMethod yX12_isSitter, Cond.selects RX12 yX12_isSitter yX12_isSitter, Cond.initialized RX12, Cond.code yX12_isSitter cX12_isSitter 3 (some .boolean), Cond.fieldLink RX12 106 "SetAgainModel" "sitters" "I", Cond.methodLink RX12 109 yX12_within, Cond.static yX12_within, Cond.code yX12_within cX12_within 6 (some .boolean), Cond.methodLink RX12 140 yX12_isPart, Cond.static yX12_isPart, Cond.code yX12_isPart cX12_isPart 1 (some .boolean), Cond.constantLong RX12 113 (2), Cond.methodLink RX12 117 yX12_isSetting, Cond.static yX12_isSetting, Cond.code yX12_isSetting cX12_isSetting 2 (some .boolean), Cond.constantLong RX12 115 (60), Cond.methodLink RX12 214 yX12_lossOf, Cond.instanceMethod yX12_lossOf, Cond.selects RX12 yX12_lossOf yX12_lossOf, Cond.code yX12_lossOf cX12_lossOf 7 (some .int), Cond.fieldLink RX12 87 "SetAgainModel" "textMany" "I", Cond.fieldLink RX12 31 "SetAgainModel" "names" "[I", Cond.methodLink RX12 208 yX12_numberOf]
def wsX12_loss_r2 : List Cond := [Cond.instanceMethod yX12_numberOf, Cond.selects RX12 yX12_numberOf yX12_numberOf, Cond.code yX12_numberOf cX12_numberOf 3 (some .int), Cond.fieldLink RX12 9 "SetAgainModel" "may" "[I", Cond.methodLink RX12 211 yX12_sizeOf, Cond.static yX12_sizeOf, Cond.code yX12_sizeOf cX12_sizeOf 1 (some .int), Cond.methodLink RX12 205 yX12_workOut, Cond.instanceMethod yX12_workOut, Cond.selects RX12 yX12_workOut yX12_workOut, Cond.code yX12_workOut cX12_workOut 8 (some .int), Cond.fieldLink RX12 165 "SetAgainModel" "base" "I", Cond.fieldLink RX12 159 "SetAgainModel" "at" "I", Cond.fieldLink RX12 162 "SetAgainModel" "ends" "I", Cond.fieldLink RX12 168 "SetAgainModel" "fault" "I", Cond.fieldLink RX12 193 "SetAgainModel" "opened" "I", Cond.methodLink RX12 199 yX12_either, Cond.instanceMethod yX12_either, Cond.selects RX12 yX12_either yX12_either, Cond.code yX12_either cX12_either 3 (some .int), Cond.methodLink RX12 175 yX12_both, Cond.instanceMethod yX12_both, Cond.selects RX12 yX12_both yX12_both, Cond.methodLink RX12 178 yX12_takes]
def wsX12_loss_r3 : List Cond := [Cond.instanceMethod yX12_takes, Cond.selects RX12 yX12_takes yX12_takes, Cond.code yX12_takes cX12_takes 2 (some .boolean), Cond.methodLink RX12 171 yX12_byteAt, Cond.instanceMethod yX12_byteAt, Cond.selects RX12 yX12_byteAt yX12_byteAt, Cond.code yX12_byteAt cX12_byteAt 1 (some .int), Cond.fieldLink RX12 25 "SetAgainModel" "tape" "[I", Cond.fieldLink RX12 28 "SetAgainModel" "text" "[I", Cond.code yX12_both cX12_both 3 (some .int), Cond.methodLink RX12 181 yX12_compared, Cond.instanceMethod yX12_compared, Cond.selects RX12 yX12_compared yX12_compared, Cond.code yX12_compared cX12_compared 4 (some .int), Cond.methodLink RX12 184 yX12_sums, Cond.instanceMethod yX12_sums, Cond.selects RX12 yX12_sums yX12_sums, Cond.code yX12_one cX12_one 5 (some .int), Cond.methodLink RX12 196 yX12_wrong, Cond.instanceMethod yX12_wrong, Cond.selects RX12 yX12_wrong yX12_wrong, Cond.code yX12_wrong cX12_wrong 1 (some .int), Cond.methodLink RX12 190 yX12_one, Cond.instanceMethod yX12_one]
def wsX12_loss_r4 : List Cond := [Cond.selects RX12 yX12_one yX12_one, Cond.methodLink RX12 202 yX12_nameOf, Cond.static yX12_nameOf, Cond.code yX12_nameOf cX12_nameOf 1 (some .int), Cond.code yX12_product cX12_product 4 (some .int), Cond.code yX12_sums cX12_sums 4 (some .int), Cond.methodLink RX12 187 yX12_product, Cond.instanceMethod yX12_product, Cond.selects RX12 yX12_product yX12_product]
def wsX12_loss : List Cond := .code yX12_loss cX12_loss 4 (some .int) :: ((wsX12_loss_r1 ++ (wsX12_loss_r2 ++ (wsX12_loss_r3 ++ wsX12_loss_r4))) ++ wsX120)
def wsX12_bytesIs : List Cond := .code yX12_bytesIs cX12_bytesIs 2 (some .int) :: ([.fieldLink RX12 74 "SetAgainModel" "shelf" "[I", .methodLink RX12 127 yX12_isShelf, .static yX12_isShelf, .initialized RX12, .code yX12_isShelf cX12_isShelf 1 (some .boolean), .constantLong RX12 385 (5), .methodLink RX12 109 yX12_within, .static yX12_within, .code yX12_within cX12_within 6 (some .boolean)] ++ wsX120)
def wsX12_never_r1 : List Cond := [Cond.methodLink RX12 224 yX12_bytesIs, Cond.instanceMethod yX12_bytesIs, Cond.selects RX12 yX12_bytesIs yX12_bytesIs, Cond.initialized RX12, Cond.code yX12_bytesIs cX12_bytesIs 2 (some .int), Cond.fieldLink RX12 74 "SetAgainModel" "shelf" "[I", Cond.methodLink RX12 127 yX12_isShelf, Cond.static yX12_isShelf, Cond.code yX12_isShelf cX12_isShelf 1 (some .boolean), Cond.constantLong RX12 385 (5), Cond.methodLink RX12 109 yX12_within, Cond.static yX12_within, Cond.code yX12_within cX12_within 6 (some .boolean), Cond.methodLink RX12 140 yX12_isPart, Cond.static yX12_isPart, Cond.code yX12_isPart cX12_isPart 1 (some .boolean), Cond.constantLong RX12 113 (2), Cond.methodLink RX12 117 yX12_isSetting, Cond.static yX12_isSetting, Cond.code yX12_isSetting cX12_isSetting 2 (some .boolean), Cond.constantLong RX12 115 (60), Cond.methodLink RX12 227 yX12_neverOf, Cond.instanceMethod yX12_neverOf, Cond.selects RX12 yX12_neverOf yX12_neverOf]
def wsX12_never_r2 : List Cond := [Cond.code yX12_neverOf cX12_neverOf 6 (some .int), Cond.methodLink RX12 218 yX12_shiftsOf, Cond.instanceMethod yX12_shiftsOf, Cond.selects RX12 yX12_shiftsOf yX12_shiftsOf, Cond.code yX12_shiftsOf cX12_shiftsOf 2 (some .int), Cond.fieldLink RX12 77 "SetAgainModel" "many" "[I", Cond.methodLink RX12 221 yX12_whoSits, Cond.instanceMethod yX12_whoSits, Cond.selects RX12 yX12_whoSits yX12_whoSits, Cond.code yX12_whoSits cX12_whoSits 5 (some .int), Cond.fieldLink RX12 80 "SetAgainModel" "items" "[J", Cond.methodLink RX12 135 yX12_isSitter, Cond.instanceMethod yX12_isSitter, Cond.selects RX12 yX12_isSitter yX12_isSitter, Cond.code yX12_isSitter cX12_isSitter 3 (some .boolean), Cond.fieldLink RX12 106 "SetAgainModel" "sitters" "I", Cond.methodLink RX12 214 yX12_lossOf, Cond.instanceMethod yX12_lossOf, Cond.selects RX12 yX12_lossOf yX12_lossOf, Cond.code yX12_lossOf cX12_lossOf 7 (some .int), Cond.fieldLink RX12 87 "SetAgainModel" "textMany" "I", Cond.fieldLink RX12 31 "SetAgainModel" "names" "[I", Cond.methodLink RX12 208 yX12_numberOf, Cond.instanceMethod yX12_numberOf]
def wsX12_never_r3 : List Cond := [Cond.selects RX12 yX12_numberOf yX12_numberOf, Cond.code yX12_numberOf cX12_numberOf 3 (some .int), Cond.fieldLink RX12 9 "SetAgainModel" "may" "[I", Cond.methodLink RX12 211 yX12_sizeOf, Cond.static yX12_sizeOf, Cond.code yX12_sizeOf cX12_sizeOf 1 (some .int), Cond.methodLink RX12 205 yX12_workOut, Cond.instanceMethod yX12_workOut, Cond.selects RX12 yX12_workOut yX12_workOut, Cond.code yX12_workOut cX12_workOut 8 (some .int), Cond.fieldLink RX12 165 "SetAgainModel" "base" "I", Cond.fieldLink RX12 159 "SetAgainModel" "at" "I", Cond.fieldLink RX12 162 "SetAgainModel" "ends" "I", Cond.fieldLink RX12 168 "SetAgainModel" "fault" "I", Cond.fieldLink RX12 193 "SetAgainModel" "opened" "I", Cond.methodLink RX12 199 yX12_either, Cond.instanceMethod yX12_either, Cond.selects RX12 yX12_either yX12_either, Cond.code yX12_either cX12_either 3 (some .int), Cond.methodLink RX12 175 yX12_both, Cond.instanceMethod yX12_both, Cond.selects RX12 yX12_both yX12_both, Cond.methodLink RX12 178 yX12_takes, Cond.instanceMethod yX12_takes]
def wsX12_never_r4 : List Cond := [Cond.selects RX12 yX12_takes yX12_takes, Cond.code yX12_takes cX12_takes 2 (some .boolean), Cond.methodLink RX12 171 yX12_byteAt, Cond.instanceMethod yX12_byteAt, Cond.selects RX12 yX12_byteAt yX12_byteAt, Cond.code yX12_byteAt cX12_byteAt 1 (some .int), Cond.fieldLink RX12 25 "SetAgainModel" "tape" "[I", Cond.fieldLink RX12 28 "SetAgainModel" "text" "[I", Cond.code yX12_both cX12_both 3 (some .int), Cond.methodLink RX12 181 yX12_compared, Cond.instanceMethod yX12_compared, Cond.selects RX12 yX12_compared yX12_compared, Cond.code yX12_compared cX12_compared 4 (some .int), Cond.methodLink RX12 184 yX12_sums, Cond.instanceMethod yX12_sums, Cond.selects RX12 yX12_sums yX12_sums, Cond.code yX12_one cX12_one 5 (some .int), Cond.methodLink RX12 196 yX12_wrong, Cond.instanceMethod yX12_wrong, Cond.selects RX12 yX12_wrong yX12_wrong, Cond.code yX12_wrong cX12_wrong 1 (some .int), Cond.methodLink RX12 190 yX12_one, Cond.instanceMethod yX12_one, Cond.selects RX12 yX12_one yX12_one]
def wsX12_never_r5 : List Cond := [Cond.methodLink RX12 202 yX12_nameOf, Cond.static yX12_nameOf, Cond.code yX12_nameOf cX12_nameOf 1 (some .int), Cond.code yX12_product cX12_product 4 (some .int), Cond.code yX12_sums cX12_sums 4 (some .int), Cond.methodLink RX12 187 yX12_product, Cond.instanceMethod yX12_product, Cond.selects RX12 yX12_product yX12_product]
def wsX12_never : List Cond := .code yX12_never cX12_never 4 (some .int) :: ((wsX12_never_r1 ++ (wsX12_never_r2 ++ (wsX12_never_r3 ++ (wsX12_never_r4 ++ wsX12_never_r5)))) ++ wsX120)
def wsX12_best_r1 : List Cond := [Cond.constantLong RX12 230 (3), Cond.methodLink RX12 224 yX12_bytesIs, Cond.instanceMethod yX12_bytesIs, Cond.selects RX12 yX12_bytesIs yX12_bytesIs, Cond.initialized RX12, Cond.code yX12_bytesIs cX12_bytesIs 2 (some .int), Cond.fieldLink RX12 74 "SetAgainModel" "shelf" "[I", Cond.methodLink RX12 127 yX12_isShelf, Cond.static yX12_isShelf, Cond.code yX12_isShelf cX12_isShelf 1 (some .boolean), Cond.constantLong RX12 385 (5), Cond.methodLink RX12 109 yX12_within, Cond.static yX12_within, Cond.code yX12_within cX12_within 6 (some .boolean), Cond.methodLink RX12 140 yX12_isPart, Cond.static yX12_isPart, Cond.code yX12_isPart cX12_isPart 1 (some .boolean), Cond.constantLong RX12 113 (2), Cond.methodLink RX12 232 yX12_anySits, Cond.instanceMethod yX12_anySits, Cond.selects RX12 yX12_anySits yX12_anySits, Cond.code yX12_anySits cX12_anySits 3 (some .boolean), Cond.methodLink RX12 218 yX12_shiftsOf, Cond.instanceMethod yX12_shiftsOf]
def wsX12_best_r2 : List Cond := [Cond.selects RX12 yX12_shiftsOf yX12_shiftsOf, Cond.code yX12_shiftsOf cX12_shiftsOf 2 (some .int), Cond.fieldLink RX12 77 "SetAgainModel" "many" "[I", Cond.methodLink RX12 221 yX12_whoSits, Cond.instanceMethod yX12_whoSits, Cond.selects RX12 yX12_whoSits yX12_whoSits, Cond.code yX12_whoSits cX12_whoSits 5 (some .int), Cond.fieldLink RX12 80 "SetAgainModel" "items" "[J", Cond.methodLink RX12 135 yX12_isSitter, Cond.instanceMethod yX12_isSitter, Cond.selects RX12 yX12_isSitter yX12_isSitter, Cond.code yX12_isSitter cX12_isSitter 3 (some .boolean), Cond.fieldLink RX12 106 "SetAgainModel" "sitters" "I", Cond.methodLink RX12 227 yX12_neverOf, Cond.instanceMethod yX12_neverOf, Cond.selects RX12 yX12_neverOf yX12_neverOf, Cond.code yX12_neverOf cX12_neverOf 6 (some .int), Cond.methodLink RX12 214 yX12_lossOf, Cond.instanceMethod yX12_lossOf, Cond.selects RX12 yX12_lossOf yX12_lossOf, Cond.code yX12_lossOf cX12_lossOf 7 (some .int), Cond.fieldLink RX12 87 "SetAgainModel" "textMany" "I", Cond.fieldLink RX12 31 "SetAgainModel" "names" "[I", Cond.methodLink RX12 208 yX12_numberOf]
def wsX12_best_r3 : List Cond := [Cond.instanceMethod yX12_numberOf, Cond.selects RX12 yX12_numberOf yX12_numberOf, Cond.code yX12_numberOf cX12_numberOf 3 (some .int), Cond.fieldLink RX12 9 "SetAgainModel" "may" "[I", Cond.methodLink RX12 211 yX12_sizeOf, Cond.static yX12_sizeOf, Cond.code yX12_sizeOf cX12_sizeOf 1 (some .int), Cond.methodLink RX12 205 yX12_workOut, Cond.instanceMethod yX12_workOut, Cond.selects RX12 yX12_workOut yX12_workOut, Cond.code yX12_workOut cX12_workOut 8 (some .int), Cond.fieldLink RX12 165 "SetAgainModel" "base" "I", Cond.fieldLink RX12 159 "SetAgainModel" "at" "I", Cond.fieldLink RX12 162 "SetAgainModel" "ends" "I", Cond.fieldLink RX12 168 "SetAgainModel" "fault" "I", Cond.fieldLink RX12 193 "SetAgainModel" "opened" "I", Cond.methodLink RX12 199 yX12_either, Cond.instanceMethod yX12_either, Cond.selects RX12 yX12_either yX12_either, Cond.code yX12_either cX12_either 3 (some .int), Cond.methodLink RX12 175 yX12_both, Cond.instanceMethod yX12_both, Cond.selects RX12 yX12_both yX12_both, Cond.methodLink RX12 178 yX12_takes]
def wsX12_best_r4 : List Cond := [Cond.instanceMethod yX12_takes, Cond.selects RX12 yX12_takes yX12_takes, Cond.code yX12_takes cX12_takes 2 (some .boolean), Cond.methodLink RX12 171 yX12_byteAt, Cond.instanceMethod yX12_byteAt, Cond.selects RX12 yX12_byteAt yX12_byteAt, Cond.code yX12_byteAt cX12_byteAt 1 (some .int), Cond.fieldLink RX12 25 "SetAgainModel" "tape" "[I", Cond.fieldLink RX12 28 "SetAgainModel" "text" "[I", Cond.code yX12_both cX12_both 3 (some .int), Cond.methodLink RX12 181 yX12_compared, Cond.instanceMethod yX12_compared, Cond.selects RX12 yX12_compared yX12_compared, Cond.code yX12_compared cX12_compared 4 (some .int), Cond.methodLink RX12 184 yX12_sums, Cond.instanceMethod yX12_sums, Cond.selects RX12 yX12_sums yX12_sums, Cond.code yX12_one cX12_one 5 (some .int), Cond.methodLink RX12 196 yX12_wrong, Cond.instanceMethod yX12_wrong, Cond.selects RX12 yX12_wrong yX12_wrong, Cond.code yX12_wrong cX12_wrong 1 (some .int), Cond.methodLink RX12 190 yX12_one, Cond.instanceMethod yX12_one]
def wsX12_best_r5 : List Cond := [Cond.selects RX12 yX12_one yX12_one, Cond.methodLink RX12 202 yX12_nameOf, Cond.static yX12_nameOf, Cond.code yX12_nameOf cX12_nameOf 1 (some .int), Cond.code yX12_product cX12_product 4 (some .int), Cond.code yX12_sums cX12_sums 4 (some .int), Cond.methodLink RX12 187 yX12_product, Cond.instanceMethod yX12_product, Cond.selects RX12 yX12_product yX12_product, Cond.methodLink RX12 235 yX12_worstOf, Cond.instanceMethod yX12_worstOf, Cond.selects RX12 yX12_worstOf yX12_worstOf, Cond.code yX12_worstOf cX12_worstOf 7 (some .int)]
def wsX12_best : List Cond := .code yX12_best cX12_best 8 (some .int) :: ((wsX12_best_r1 ++ (wsX12_best_r2 ++ (wsX12_best_r3 ++ (wsX12_best_r4 ++ wsX12_best_r5)))) ++ wsX120)
def wsX12_middle_r1 : List Cond := [Cond.methodLink RX12 224 yX12_bytesIs, Cond.instanceMethod yX12_bytesIs, Cond.selects RX12 yX12_bytesIs yX12_bytesIs, Cond.initialized RX12, Cond.code yX12_bytesIs cX12_bytesIs 2 (some .int), Cond.fieldLink RX12 74 "SetAgainModel" "shelf" "[I", Cond.methodLink RX12 127 yX12_isShelf, Cond.static yX12_isShelf, Cond.code yX12_isShelf cX12_isShelf 1 (some .boolean), Cond.constantLong RX12 385 (5), Cond.methodLink RX12 109 yX12_within, Cond.static yX12_within, Cond.code yX12_within cX12_within 6 (some .boolean), Cond.methodLink RX12 140 yX12_isPart, Cond.static yX12_isPart, Cond.code yX12_isPart cX12_isPart 1 (some .boolean), Cond.constantLong RX12 113 (2), Cond.methodLink RX12 241 yX12_weightTo, Cond.instanceMethod yX12_weightTo, Cond.selects RX12 yX12_weightTo yX12_weightTo, Cond.code yX12_weightTo cX12_weightTo 7 (some .int), Cond.methodLink RX12 218 yX12_shiftsOf, Cond.instanceMethod yX12_shiftsOf, Cond.selects RX12 yX12_shiftsOf yX12_shiftsOf]
def wsX12_middle_r2 : List Cond := [Cond.code yX12_shiftsOf cX12_shiftsOf 2 (some .int), Cond.fieldLink RX12 77 "SetAgainModel" "many" "[I", Cond.methodLink RX12 221 yX12_whoSits, Cond.instanceMethod yX12_whoSits, Cond.selects RX12 yX12_whoSits yX12_whoSits, Cond.code yX12_whoSits cX12_whoSits 5 (some .int), Cond.fieldLink RX12 80 "SetAgainModel" "items" "[J", Cond.methodLink RX12 135 yX12_isSitter, Cond.instanceMethod yX12_isSitter, Cond.selects RX12 yX12_isSitter yX12_isSitter, Cond.code yX12_isSitter cX12_isSitter 3 (some .boolean), Cond.fieldLink RX12 106 "SetAgainModel" "sitters" "I", Cond.methodLink RX12 208 yX12_numberOf, Cond.instanceMethod yX12_numberOf, Cond.selects RX12 yX12_numberOf yX12_numberOf, Cond.code yX12_numberOf cX12_numberOf 3 (some .int), Cond.fieldLink RX12 9 "SetAgainModel" "may" "[I", Cond.methodLink RX12 238 yX12_weightOf, Cond.instanceMethod yX12_weightOf, Cond.selects RX12 yX12_weightOf yX12_weightOf, Cond.code yX12_weightOf cX12_weightOf 2 (some .int), Cond.methodLink RX12 244 yX12_isWanted, Cond.instanceMethod yX12_isWanted, Cond.selects RX12 yX12_isWanted yX12_isWanted]
def wsX12_middle_r3 : List Cond := [Cond.code yX12_isWanted cX12_isWanted 5 (some .boolean)]
def wsX12_middle : List Cond := .code yX12_middle cX12_middle 5 (some .int) :: ((wsX12_middle_r1 ++ (wsX12_middle_r2 ++ wsX12_middle_r3)) ++ wsX120)
def wsX12_slipped : List Cond := .code yX12_slipped cX12_slipped 4 (some .int) :: ([.fieldLink RX12 9 "SetAgainModel" "may" "[I"] ++ wsX120)
def wsX12_shifts_r1 : List Cond := [Cond.fieldLink RX12 37 "SetAgainModel" "leastFrom" "[I", Cond.fieldLink RX12 22 "SetAgainModel" "stands" "[I", Cond.methodLink RX12 224 yX12_bytesIs, Cond.instanceMethod yX12_bytesIs, Cond.selects RX12 yX12_bytesIs yX12_bytesIs, Cond.initialized RX12, Cond.code yX12_bytesIs cX12_bytesIs 2 (some .int), Cond.fieldLink RX12 74 "SetAgainModel" "shelf" "[I", Cond.methodLink RX12 127 yX12_isShelf, Cond.static yX12_isShelf, Cond.code yX12_isShelf cX12_isShelf 1 (some .boolean), Cond.constantLong RX12 385 (5), Cond.methodLink RX12 109 yX12_within, Cond.static yX12_within, Cond.code yX12_within cX12_within 6 (some .boolean), Cond.methodLink RX12 140 yX12_isPart, Cond.static yX12_isPart, Cond.code yX12_isPart cX12_isPart 1 (some .boolean), Cond.constantLong RX12 113 (2), Cond.methodLink RX12 218 yX12_shiftsOf, Cond.instanceMethod yX12_shiftsOf, Cond.selects RX12 yX12_shiftsOf yX12_shiftsOf, Cond.code yX12_shiftsOf cX12_shiftsOf 2 (some .int), Cond.fieldLink RX12 77 "SetAgainModel" "many" "[I"]
def wsX12_shifts_r2 : List Cond := [Cond.methodLink RX12 251 yX12_asksLosses, Cond.instanceMethod yX12_asksLosses, Cond.selects RX12 yX12_asksLosses yX12_asksLosses, Cond.code yX12_asksLosses cX12_asksLosses 5 none, Cond.fieldLink RX12 34 "SetAgainModel" "lossIn" "[I", Cond.methodLink RX12 221 yX12_whoSits, Cond.instanceMethod yX12_whoSits, Cond.selects RX12 yX12_whoSits yX12_whoSits, Cond.code yX12_whoSits cX12_whoSits 5 (some .int), Cond.fieldLink RX12 80 "SetAgainModel" "items" "[J", Cond.methodLink RX12 135 yX12_isSitter, Cond.instanceMethod yX12_isSitter, Cond.selects RX12 yX12_isSitter yX12_isSitter, Cond.code yX12_isSitter cX12_isSitter 3 (some .boolean), Cond.fieldLink RX12 106 "SetAgainModel" "sitters" "I", Cond.methodLink RX12 214 yX12_lossOf, Cond.instanceMethod yX12_lossOf, Cond.selects RX12 yX12_lossOf yX12_lossOf, Cond.code yX12_lossOf cX12_lossOf 7 (some .int), Cond.fieldLink RX12 87 "SetAgainModel" "textMany" "I", Cond.fieldLink RX12 31 "SetAgainModel" "names" "[I", Cond.methodLink RX12 208 yX12_numberOf, Cond.instanceMethod yX12_numberOf, Cond.selects RX12 yX12_numberOf yX12_numberOf]
def wsX12_shifts_r3 : List Cond := [Cond.code yX12_numberOf cX12_numberOf 3 (some .int), Cond.fieldLink RX12 9 "SetAgainModel" "may" "[I", Cond.methodLink RX12 211 yX12_sizeOf, Cond.static yX12_sizeOf, Cond.code yX12_sizeOf cX12_sizeOf 1 (some .int), Cond.methodLink RX12 205 yX12_workOut, Cond.instanceMethod yX12_workOut, Cond.selects RX12 yX12_workOut yX12_workOut, Cond.code yX12_workOut cX12_workOut 8 (some .int), Cond.fieldLink RX12 165 "SetAgainModel" "base" "I", Cond.fieldLink RX12 159 "SetAgainModel" "at" "I", Cond.fieldLink RX12 162 "SetAgainModel" "ends" "I", Cond.fieldLink RX12 168 "SetAgainModel" "fault" "I", Cond.fieldLink RX12 193 "SetAgainModel" "opened" "I", Cond.methodLink RX12 199 yX12_either, Cond.instanceMethod yX12_either, Cond.selects RX12 yX12_either yX12_either, Cond.code yX12_either cX12_either 3 (some .int), Cond.methodLink RX12 175 yX12_both, Cond.instanceMethod yX12_both, Cond.selects RX12 yX12_both yX12_both, Cond.methodLink RX12 178 yX12_takes, Cond.instanceMethod yX12_takes, Cond.selects RX12 yX12_takes yX12_takes]
def wsX12_shifts_r4 : List Cond := [Cond.code yX12_takes cX12_takes 2 (some .boolean), Cond.methodLink RX12 171 yX12_byteAt, Cond.instanceMethod yX12_byteAt, Cond.selects RX12 yX12_byteAt yX12_byteAt, Cond.code yX12_byteAt cX12_byteAt 1 (some .int), Cond.fieldLink RX12 25 "SetAgainModel" "tape" "[I", Cond.fieldLink RX12 28 "SetAgainModel" "text" "[I", Cond.code yX12_both cX12_both 3 (some .int), Cond.methodLink RX12 181 yX12_compared, Cond.instanceMethod yX12_compared, Cond.selects RX12 yX12_compared yX12_compared, Cond.code yX12_compared cX12_compared 4 (some .int), Cond.methodLink RX12 184 yX12_sums, Cond.instanceMethod yX12_sums, Cond.selects RX12 yX12_sums yX12_sums, Cond.code yX12_one cX12_one 5 (some .int), Cond.methodLink RX12 196 yX12_wrong, Cond.instanceMethod yX12_wrong, Cond.selects RX12 yX12_wrong yX12_wrong, Cond.code yX12_wrong cX12_wrong 1 (some .int), Cond.methodLink RX12 190 yX12_one, Cond.instanceMethod yX12_one, Cond.selects RX12 yX12_one yX12_one, Cond.methodLink RX12 202 yX12_nameOf]
def wsX12_shifts_r5 : List Cond := [Cond.static yX12_nameOf, Cond.code yX12_nameOf cX12_nameOf 1 (some .int), Cond.code yX12_product cX12_product 4 (some .int), Cond.code yX12_sums cX12_sums 4 (some .int), Cond.methodLink RX12 187 yX12_product, Cond.instanceMethod yX12_product, Cond.selects RX12 yX12_product yX12_product, Cond.methodLink RX12 255 yX12_costBy, Cond.instanceMethod yX12_costBy, Cond.selects RX12 yX12_costBy yX12_costBy, Cond.code yX12_costBy cX12_costBy 5 (some .int), Cond.methodLink RX12 248 yX12_slipped, Cond.instanceMethod yX12_slipped, Cond.selects RX12 yX12_slipped yX12_slipped, Cond.code yX12_slipped cX12_slipped 4 (some .int)]
def wsX12_shifts : List Cond := .code yX12_shifts cX12_shifts 10 (some .int) :: ((wsX12_shifts_r1 ++ (wsX12_shifts_r2 ++ (wsX12_shifts_r3 ++ (wsX12_shifts_r4 ++ wsX12_shifts_r5)))) ++ wsX120)
def wsX12_once_r1 : List Cond := [Cond.constantLong RX12 113 (2), Cond.fieldLink RX12 22 "SetAgainModel" "stands" "[I", Cond.fieldLink RX12 9 "SetAgainModel" "may" "[I", Cond.fieldLink RX12 34 "SetAgainModel" "lossIn" "[I", Cond.methodLink RX12 224 yX12_bytesIs, Cond.instanceMethod yX12_bytesIs, Cond.selects RX12 yX12_bytesIs yX12_bytesIs, Cond.initialized RX12, Cond.code yX12_bytesIs cX12_bytesIs 2 (some .int), Cond.fieldLink RX12 74 "SetAgainModel" "shelf" "[I", Cond.methodLink RX12 127 yX12_isShelf, Cond.static yX12_isShelf, Cond.code yX12_isShelf cX12_isShelf 1 (some .boolean), Cond.constantLong RX12 385 (5), Cond.methodLink RX12 109 yX12_within, Cond.static yX12_within, Cond.code yX12_within cX12_within 6 (some .boolean), Cond.methodLink RX12 140 yX12_isPart, Cond.static yX12_isPart, Cond.code yX12_isPart cX12_isPart 1 (some .boolean), Cond.methodLink RX12 218 yX12_shiftsOf, Cond.instanceMethod yX12_shiftsOf, Cond.selects RX12 yX12_shiftsOf yX12_shiftsOf, Cond.code yX12_shiftsOf cX12_shiftsOf 2 (some .int)]
def wsX12_once_r2 : List Cond := [Cond.fieldLink RX12 77 "SetAgainModel" "many" "[I", Cond.methodLink RX12 251 yX12_asksLosses, Cond.instanceMethod yX12_asksLosses, Cond.selects RX12 yX12_asksLosses yX12_asksLosses, Cond.code yX12_asksLosses cX12_asksLosses 5 none, Cond.methodLink RX12 221 yX12_whoSits, Cond.instanceMethod yX12_whoSits, Cond.selects RX12 yX12_whoSits yX12_whoSits, Cond.code yX12_whoSits cX12_whoSits 5 (some .int), Cond.fieldLink RX12 80 "SetAgainModel" "items" "[J", Cond.methodLink RX12 135 yX12_isSitter, Cond.instanceMethod yX12_isSitter, Cond.selects RX12 yX12_isSitter yX12_isSitter, Cond.code yX12_isSitter cX12_isSitter 3 (some .boolean), Cond.fieldLink RX12 106 "SetAgainModel" "sitters" "I", Cond.methodLink RX12 214 yX12_lossOf, Cond.instanceMethod yX12_lossOf, Cond.selects RX12 yX12_lossOf yX12_lossOf, Cond.code yX12_lossOf cX12_lossOf 7 (some .int), Cond.fieldLink RX12 87 "SetAgainModel" "textMany" "I", Cond.fieldLink RX12 31 "SetAgainModel" "names" "[I", Cond.methodLink RX12 208 yX12_numberOf, Cond.instanceMethod yX12_numberOf, Cond.selects RX12 yX12_numberOf yX12_numberOf]
def wsX12_once_r3 : List Cond := [Cond.code yX12_numberOf cX12_numberOf 3 (some .int), Cond.methodLink RX12 211 yX12_sizeOf, Cond.static yX12_sizeOf, Cond.code yX12_sizeOf cX12_sizeOf 1 (some .int), Cond.methodLink RX12 205 yX12_workOut, Cond.instanceMethod yX12_workOut, Cond.selects RX12 yX12_workOut yX12_workOut, Cond.code yX12_workOut cX12_workOut 8 (some .int), Cond.fieldLink RX12 165 "SetAgainModel" "base" "I", Cond.fieldLink RX12 159 "SetAgainModel" "at" "I", Cond.fieldLink RX12 162 "SetAgainModel" "ends" "I", Cond.fieldLink RX12 168 "SetAgainModel" "fault" "I", Cond.fieldLink RX12 193 "SetAgainModel" "opened" "I", Cond.methodLink RX12 199 yX12_either, Cond.instanceMethod yX12_either, Cond.selects RX12 yX12_either yX12_either, Cond.code yX12_either cX12_either 3 (some .int), Cond.methodLink RX12 175 yX12_both, Cond.instanceMethod yX12_both, Cond.selects RX12 yX12_both yX12_both, Cond.methodLink RX12 178 yX12_takes, Cond.instanceMethod yX12_takes, Cond.selects RX12 yX12_takes yX12_takes, Cond.code yX12_takes cX12_takes 2 (some .boolean)]
def wsX12_once_r4 : List Cond := [Cond.methodLink RX12 171 yX12_byteAt, Cond.instanceMethod yX12_byteAt, Cond.selects RX12 yX12_byteAt yX12_byteAt, Cond.code yX12_byteAt cX12_byteAt 1 (some .int), Cond.fieldLink RX12 25 "SetAgainModel" "tape" "[I", Cond.fieldLink RX12 28 "SetAgainModel" "text" "[I", Cond.code yX12_both cX12_both 3 (some .int), Cond.methodLink RX12 181 yX12_compared, Cond.instanceMethod yX12_compared, Cond.selects RX12 yX12_compared yX12_compared, Cond.code yX12_compared cX12_compared 4 (some .int), Cond.methodLink RX12 184 yX12_sums, Cond.instanceMethod yX12_sums, Cond.selects RX12 yX12_sums yX12_sums, Cond.code yX12_one cX12_one 5 (some .int), Cond.methodLink RX12 196 yX12_wrong, Cond.instanceMethod yX12_wrong, Cond.selects RX12 yX12_wrong yX12_wrong, Cond.code yX12_wrong cX12_wrong 1 (some .int), Cond.methodLink RX12 190 yX12_one, Cond.instanceMethod yX12_one, Cond.selects RX12 yX12_one yX12_one, Cond.methodLink RX12 202 yX12_nameOf, Cond.static yX12_nameOf]
def wsX12_once_r5 : List Cond := [Cond.code yX12_nameOf cX12_nameOf 1 (some .int), Cond.code yX12_product cX12_product 4 (some .int), Cond.code yX12_sums cX12_sums 4 (some .int), Cond.methodLink RX12 187 yX12_product, Cond.instanceMethod yX12_product, Cond.selects RX12 yX12_product yX12_product, Cond.methodLink RX12 248 yX12_slipped, Cond.instanceMethod yX12_slipped, Cond.selects RX12 yX12_slipped yX12_slipped, Cond.code yX12_slipped cX12_slipped 4 (some .int)]
def wsX12_once : List Cond := .code yX12_once cX12_once 13 (some .int) :: ((wsX12_once_r1 ++ (wsX12_once_r2 ++ (wsX12_once_r3 ++ (wsX12_once_r4 ++ wsX12_once_r5)))) ++ wsX120)
def wsX12_week_r1 : List Cond := [Cond.constantLong RX12 113 (2), Cond.fieldLink RX12 269 "SetAgainModel" "turnsAll" "I", Cond.fieldLink RX12 289 "SetAgainModel" "lossesAll" "I", Cond.methodLink RX12 224 yX12_bytesIs, Cond.instanceMethod yX12_bytesIs, Cond.selects RX12 yX12_bytesIs yX12_bytesIs, Cond.initialized RX12, Cond.code yX12_bytesIs cX12_bytesIs 2 (some .int), Cond.fieldLink RX12 74 "SetAgainModel" "shelf" "[I", Cond.methodLink RX12 127 yX12_isShelf, Cond.static yX12_isShelf, Cond.code yX12_isShelf cX12_isShelf 1 (some .boolean), Cond.constantLong RX12 385 (5), Cond.methodLink RX12 109 yX12_within, Cond.static yX12_within, Cond.code yX12_within cX12_within 6 (some .boolean), Cond.methodLink RX12 302 yX12_weekOf, Cond.instanceMethod yX12_weekOf, Cond.selects RX12 yX12_weekOf yX12_weekOf, Cond.code yX12_weekOf cX12_weekOf 5 (some .int), Cond.fieldLink RX12 47 "SetAgainModel" "standBehind" "[I", Cond.fieldLink RX12 44 "SetAgainModel" "stand1" "[I", Cond.fieldLink RX12 40 "SetAgainModel" "isIll" "[Z", Cond.fieldLink RX12 272 "SetAgainModel" "turnCosts" "I"]
def wsX12_week_r2 : List Cond := [Cond.methodLink RX12 295 yX12_beginsWeek, Cond.instanceMethod yX12_beginsWeek, Cond.selects RX12 yX12_beginsWeek yX12_beginsWeek, Cond.code yX12_beginsWeek cX12_beginsWeek 2 none, Cond.fieldLink RX12 22 "SetAgainModel" "stands" "[I", Cond.methodLink RX12 218 yX12_shiftsOf, Cond.instanceMethod yX12_shiftsOf, Cond.selects RX12 yX12_shiftsOf yX12_shiftsOf, Cond.code yX12_shiftsOf cX12_shiftsOf 2 (some .int), Cond.fieldLink RX12 77 "SetAgainModel" "many" "[I", Cond.methodLink RX12 221 yX12_whoSits, Cond.instanceMethod yX12_whoSits, Cond.selects RX12 yX12_whoSits yX12_whoSits, Cond.code yX12_whoSits cX12_whoSits 5 (some .int), Cond.fieldLink RX12 80 "SetAgainModel" "items" "[J", Cond.methodLink RX12 135 yX12_isSitter, Cond.instanceMethod yX12_isSitter, Cond.selects RX12 yX12_isSitter yX12_isSitter, Cond.code yX12_isSitter cX12_isSitter 3 (some .boolean), Cond.fieldLink RX12 106 "SetAgainModel" "sitters" "I", Cond.methodLink RX12 298 yX12_comes, Cond.instanceMethod yX12_comes, Cond.selects RX12 yX12_comes yX12_comes, Cond.code yX12_comes cX12_comes 4 none]
def wsX12_week_r3 : List Cond := [Cond.fieldLink RX12 97 "SetAgainModel" "wilfulOf" "I", Cond.fieldLink RX12 292 "SetAgainModel" "wilfulTo" "I", Cond.methodLink RX12 208 yX12_numberOf, Cond.instanceMethod yX12_numberOf, Cond.selects RX12 yX12_numberOf yX12_numberOf, Cond.code yX12_numberOf cX12_numberOf 3 (some .int), Cond.fieldLink RX12 9 "SetAgainModel" "may" "[I", Cond.methodLink RX12 211 yX12_sizeOf, Cond.static yX12_sizeOf, Cond.code yX12_sizeOf cX12_sizeOf 1 (some .int), Cond.methodLink RX12 282 yX12_nearBy, Cond.instanceMethod yX12_nearBy, Cond.selects RX12 yX12_nearBy yX12_nearBy, Cond.code yX12_nearBy cX12_nearBy 2 (some .int), Cond.fieldLink RX12 94 "SetAgainModel" "nearOf" "I", Cond.fieldLink RX12 259 "SetAgainModel" "nearIs" "I", Cond.methodLink RX12 285 yX12_turnsTo, Cond.instanceMethod yX12_turnsTo, Cond.selects RX12 yX12_turnsTo yX12_turnsTo, Cond.code yX12_turnsTo cX12_turnsTo 6 none, Cond.fieldLink RX12 275 "SetAgainModel" "memorySet" "I", Cond.methodLink RX12 266 yX12_priceOf, Cond.instanceMethod yX12_priceOf, Cond.selects RX12 yX12_priceOf yX12_priceOf]
def wsX12_week_r4 : List Cond := [Cond.code yX12_priceOf cX12_priceOf 2 (some .int), Cond.fieldLink RX12 262 "SetAgainModel" "isMarked" "Z", Cond.methodLink RX12 278 yX12_isIn, Cond.static yX12_isIn, Cond.code yX12_isIn cX12_isIn 2 (some .boolean), Cond.methodLink RX12 214 yX12_lossOf, Cond.instanceMethod yX12_lossOf, Cond.selects RX12 yX12_lossOf yX12_lossOf, Cond.code yX12_lossOf cX12_lossOf 7 (some .int), Cond.fieldLink RX12 87 "SetAgainModel" "textMany" "I", Cond.fieldLink RX12 31 "SetAgainModel" "names" "[I", Cond.methodLink RX12 205 yX12_workOut, Cond.instanceMethod yX12_workOut, Cond.selects RX12 yX12_workOut yX12_workOut, Cond.code yX12_workOut cX12_workOut 8 (some .int), Cond.fieldLink RX12 165 "SetAgainModel" "base" "I", Cond.fieldLink RX12 159 "SetAgainModel" "at" "I", Cond.fieldLink RX12 162 "SetAgainModel" "ends" "I", Cond.fieldLink RX12 168 "SetAgainModel" "fault" "I", Cond.fieldLink RX12 193 "SetAgainModel" "opened" "I", Cond.methodLink RX12 199 yX12_either, Cond.instanceMethod yX12_either, Cond.selects RX12 yX12_either yX12_either, Cond.code yX12_either cX12_either 3 (some .int)]
def wsX12_week_r5 : List Cond := [Cond.methodLink RX12 175 yX12_both, Cond.instanceMethod yX12_both, Cond.selects RX12 yX12_both yX12_both, Cond.methodLink RX12 178 yX12_takes, Cond.instanceMethod yX12_takes, Cond.selects RX12 yX12_takes yX12_takes, Cond.code yX12_takes cX12_takes 2 (some .boolean), Cond.methodLink RX12 171 yX12_byteAt, Cond.instanceMethod yX12_byteAt, Cond.selects RX12 yX12_byteAt yX12_byteAt, Cond.code yX12_byteAt cX12_byteAt 1 (some .int), Cond.fieldLink RX12 25 "SetAgainModel" "tape" "[I", Cond.fieldLink RX12 28 "SetAgainModel" "text" "[I", Cond.code yX12_both cX12_both 3 (some .int), Cond.methodLink RX12 181 yX12_compared, Cond.instanceMethod yX12_compared, Cond.selects RX12 yX12_compared yX12_compared, Cond.code yX12_compared cX12_compared 4 (some .int), Cond.methodLink RX12 184 yX12_sums, Cond.instanceMethod yX12_sums, Cond.selects RX12 yX12_sums yX12_sums, Cond.code yX12_one cX12_one 5 (some .int), Cond.methodLink RX12 196 yX12_wrong, Cond.instanceMethod yX12_wrong]
def wsX12_week_r6 : List Cond := [Cond.selects RX12 yX12_wrong yX12_wrong, Cond.code yX12_wrong cX12_wrong 1 (some .int), Cond.methodLink RX12 190 yX12_one, Cond.instanceMethod yX12_one, Cond.selects RX12 yX12_one yX12_one, Cond.methodLink RX12 202 yX12_nameOf, Cond.static yX12_nameOf, Cond.code yX12_nameOf cX12_nameOf 1 (some .int), Cond.code yX12_product cX12_product 4 (some .int), Cond.code yX12_sums cX12_sums 4 (some .int), Cond.methodLink RX12 187 yX12_product, Cond.instanceMethod yX12_product, Cond.selects RX12 yX12_product yX12_product, Cond.methodLink RX12 248 yX12_slipped, Cond.instanceMethod yX12_slipped, Cond.selects RX12 yX12_slipped yX12_slipped, Cond.code yX12_slipped cX12_slipped 4 (some .int)]
def wsX12_week : List Cond := .code yX12_week cX12_week 4 (some .int) :: ((wsX12_week_r1 ++ (wsX12_week_r2 ++ (wsX12_week_r3 ++ (wsX12_week_r4 ++ (wsX12_week_r5 ++ wsX12_week_r6))))) ++ wsX120)
def wsX12_stands_r1 : List Cond := [Cond.fieldLink RX12 22 "SetAgainModel" "stands" "[I", Cond.fieldLink RX12 47 "SetAgainModel" "standBehind" "[I", Cond.methodLink RX12 224 yX12_bytesIs, Cond.instanceMethod yX12_bytesIs, Cond.selects RX12 yX12_bytesIs yX12_bytesIs, Cond.initialized RX12, Cond.code yX12_bytesIs cX12_bytesIs 2 (some .int), Cond.fieldLink RX12 74 "SetAgainModel" "shelf" "[I", Cond.methodLink RX12 127 yX12_isShelf, Cond.static yX12_isShelf, Cond.code yX12_isShelf cX12_isShelf 1 (some .boolean), Cond.constantLong RX12 385 (5), Cond.methodLink RX12 109 yX12_within, Cond.static yX12_within, Cond.code yX12_within cX12_within 6 (some .boolean), Cond.methodLink RX12 140 yX12_isPart, Cond.static yX12_isPart, Cond.code yX12_isPart cX12_isPart 1 (some .boolean), Cond.constantLong RX12 113 (2), Cond.methodLink RX12 218 yX12_shiftsOf, Cond.instanceMethod yX12_shiftsOf, Cond.selects RX12 yX12_shiftsOf yX12_shiftsOf, Cond.code yX12_shiftsOf cX12_shiftsOf 2 (some .int), Cond.fieldLink RX12 77 "SetAgainModel" "many" "[I"]
def wsX12_stands_r2 : List Cond := [Cond.methodLink RX12 302 yX12_weekOf, Cond.instanceMethod yX12_weekOf, Cond.selects RX12 yX12_weekOf yX12_weekOf, Cond.code yX12_weekOf cX12_weekOf 5 (some .int), Cond.fieldLink RX12 44 "SetAgainModel" "stand1" "[I", Cond.fieldLink RX12 40 "SetAgainModel" "isIll" "[Z", Cond.fieldLink RX12 272 "SetAgainModel" "turnCosts" "I", Cond.fieldLink RX12 289 "SetAgainModel" "lossesAll" "I", Cond.methodLink RX12 295 yX12_beginsWeek, Cond.instanceMethod yX12_beginsWeek, Cond.selects RX12 yX12_beginsWeek yX12_beginsWeek, Cond.code yX12_beginsWeek cX12_beginsWeek 2 none, Cond.fieldLink RX12 269 "SetAgainModel" "turnsAll" "I", Cond.methodLink RX12 221 yX12_whoSits, Cond.instanceMethod yX12_whoSits, Cond.selects RX12 yX12_whoSits yX12_whoSits, Cond.code yX12_whoSits cX12_whoSits 5 (some .int), Cond.fieldLink RX12 80 "SetAgainModel" "items" "[J", Cond.methodLink RX12 135 yX12_isSitter, Cond.instanceMethod yX12_isSitter, Cond.selects RX12 yX12_isSitter yX12_isSitter, Cond.code yX12_isSitter cX12_isSitter 3 (some .boolean), Cond.fieldLink RX12 106 "SetAgainModel" "sitters" "I", Cond.methodLink RX12 298 yX12_comes]
def wsX12_stands_r3 : List Cond := [Cond.instanceMethod yX12_comes, Cond.selects RX12 yX12_comes yX12_comes, Cond.code yX12_comes cX12_comes 4 none, Cond.fieldLink RX12 97 "SetAgainModel" "wilfulOf" "I", Cond.fieldLink RX12 292 "SetAgainModel" "wilfulTo" "I", Cond.methodLink RX12 208 yX12_numberOf, Cond.instanceMethod yX12_numberOf, Cond.selects RX12 yX12_numberOf yX12_numberOf, Cond.code yX12_numberOf cX12_numberOf 3 (some .int), Cond.fieldLink RX12 9 "SetAgainModel" "may" "[I", Cond.methodLink RX12 211 yX12_sizeOf, Cond.static yX12_sizeOf, Cond.code yX12_sizeOf cX12_sizeOf 1 (some .int), Cond.methodLink RX12 282 yX12_nearBy, Cond.instanceMethod yX12_nearBy, Cond.selects RX12 yX12_nearBy yX12_nearBy, Cond.code yX12_nearBy cX12_nearBy 2 (some .int), Cond.fieldLink RX12 94 "SetAgainModel" "nearOf" "I", Cond.fieldLink RX12 259 "SetAgainModel" "nearIs" "I", Cond.methodLink RX12 285 yX12_turnsTo, Cond.instanceMethod yX12_turnsTo, Cond.selects RX12 yX12_turnsTo yX12_turnsTo, Cond.code yX12_turnsTo cX12_turnsTo 6 none, Cond.fieldLink RX12 275 "SetAgainModel" "memorySet" "I"]
def wsX12_stands_r4 : List Cond := [Cond.methodLink RX12 266 yX12_priceOf, Cond.instanceMethod yX12_priceOf, Cond.selects RX12 yX12_priceOf yX12_priceOf, Cond.code yX12_priceOf cX12_priceOf 2 (some .int), Cond.fieldLink RX12 262 "SetAgainModel" "isMarked" "Z", Cond.methodLink RX12 278 yX12_isIn, Cond.static yX12_isIn, Cond.code yX12_isIn cX12_isIn 2 (some .boolean), Cond.methodLink RX12 214 yX12_lossOf, Cond.instanceMethod yX12_lossOf, Cond.selects RX12 yX12_lossOf yX12_lossOf, Cond.code yX12_lossOf cX12_lossOf 7 (some .int), Cond.fieldLink RX12 87 "SetAgainModel" "textMany" "I", Cond.fieldLink RX12 31 "SetAgainModel" "names" "[I", Cond.methodLink RX12 205 yX12_workOut, Cond.instanceMethod yX12_workOut, Cond.selects RX12 yX12_workOut yX12_workOut, Cond.code yX12_workOut cX12_workOut 8 (some .int), Cond.fieldLink RX12 165 "SetAgainModel" "base" "I", Cond.fieldLink RX12 159 "SetAgainModel" "at" "I", Cond.fieldLink RX12 162 "SetAgainModel" "ends" "I", Cond.fieldLink RX12 168 "SetAgainModel" "fault" "I", Cond.fieldLink RX12 193 "SetAgainModel" "opened" "I", Cond.methodLink RX12 199 yX12_either]
def wsX12_stands_r5 : List Cond := [Cond.instanceMethod yX12_either, Cond.selects RX12 yX12_either yX12_either, Cond.code yX12_either cX12_either 3 (some .int), Cond.methodLink RX12 175 yX12_both, Cond.instanceMethod yX12_both, Cond.selects RX12 yX12_both yX12_both, Cond.methodLink RX12 178 yX12_takes, Cond.instanceMethod yX12_takes, Cond.selects RX12 yX12_takes yX12_takes, Cond.code yX12_takes cX12_takes 2 (some .boolean), Cond.methodLink RX12 171 yX12_byteAt, Cond.instanceMethod yX12_byteAt, Cond.selects RX12 yX12_byteAt yX12_byteAt, Cond.code yX12_byteAt cX12_byteAt 1 (some .int), Cond.fieldLink RX12 25 "SetAgainModel" "tape" "[I", Cond.fieldLink RX12 28 "SetAgainModel" "text" "[I", Cond.code yX12_both cX12_both 3 (some .int), Cond.methodLink RX12 181 yX12_compared, Cond.instanceMethod yX12_compared, Cond.selects RX12 yX12_compared yX12_compared, Cond.code yX12_compared cX12_compared 4 (some .int), Cond.methodLink RX12 184 yX12_sums, Cond.instanceMethod yX12_sums, Cond.selects RX12 yX12_sums yX12_sums]
def wsX12_stands_r6 : List Cond := [Cond.code yX12_one cX12_one 5 (some .int), Cond.methodLink RX12 196 yX12_wrong, Cond.instanceMethod yX12_wrong, Cond.selects RX12 yX12_wrong yX12_wrong, Cond.code yX12_wrong cX12_wrong 1 (some .int), Cond.methodLink RX12 190 yX12_one, Cond.instanceMethod yX12_one, Cond.selects RX12 yX12_one yX12_one, Cond.methodLink RX12 202 yX12_nameOf, Cond.static yX12_nameOf, Cond.code yX12_nameOf cX12_nameOf 1 (some .int), Cond.code yX12_product cX12_product 4 (some .int), Cond.code yX12_sums cX12_sums 4 (some .int), Cond.methodLink RX12 187 yX12_product, Cond.instanceMethod yX12_product, Cond.selects RX12 yX12_product yX12_product, Cond.methodLink RX12 248 yX12_slipped, Cond.instanceMethod yX12_slipped, Cond.selects RX12 yX12_slipped yX12_slipped, Cond.code yX12_slipped cX12_slipped 4 (some .int)]
def wsX12_stands : List Cond := .code yX12_stands cX12_stands 4 (some .int) :: ((wsX12_stands_r1 ++ (wsX12_stands_r2 ++ (wsX12_stands_r3 ++ (wsX12_stands_r4 ++ (wsX12_stands_r5 ++ wsX12_stands_r6))))) ++ wsX120)
def wsX12_pays_r1 : List Cond := [Cond.fieldLink RX12 94 "SetAgainModel" "nearOf" "I", Cond.fieldLink RX12 259 "SetAgainModel" "nearIs" "I", Cond.methodLink RX12 224 yX12_bytesIs, Cond.instanceMethod yX12_bytesIs, Cond.selects RX12 yX12_bytesIs yX12_bytesIs, Cond.initialized RX12, Cond.code yX12_bytesIs cX12_bytesIs 2 (some .int), Cond.fieldLink RX12 74 "SetAgainModel" "shelf" "[I", Cond.methodLink RX12 127 yX12_isShelf, Cond.static yX12_isShelf, Cond.code yX12_isShelf cX12_isShelf 1 (some .boolean), Cond.constantLong RX12 385 (5), Cond.methodLink RX12 109 yX12_within, Cond.static yX12_within, Cond.code yX12_within cX12_within 6 (some .boolean), Cond.methodLink RX12 135 yX12_isSitter, Cond.instanceMethod yX12_isSitter, Cond.selects RX12 yX12_isSitter yX12_isSitter, Cond.code yX12_isSitter cX12_isSitter 3 (some .boolean), Cond.fieldLink RX12 106 "SetAgainModel" "sitters" "I", Cond.methodLink RX12 302 yX12_weekOf, Cond.instanceMethod yX12_weekOf, Cond.selects RX12 yX12_weekOf yX12_weekOf, Cond.code yX12_weekOf cX12_weekOf 5 (some .int)]
def wsX12_pays_r2 : List Cond := [Cond.fieldLink RX12 47 "SetAgainModel" "standBehind" "[I", Cond.fieldLink RX12 44 "SetAgainModel" "stand1" "[I", Cond.fieldLink RX12 40 "SetAgainModel" "isIll" "[Z", Cond.fieldLink RX12 272 "SetAgainModel" "turnCosts" "I", Cond.fieldLink RX12 289 "SetAgainModel" "lossesAll" "I", Cond.methodLink RX12 295 yX12_beginsWeek, Cond.instanceMethod yX12_beginsWeek, Cond.selects RX12 yX12_beginsWeek yX12_beginsWeek, Cond.code yX12_beginsWeek cX12_beginsWeek 2 none, Cond.fieldLink RX12 22 "SetAgainModel" "stands" "[I", Cond.fieldLink RX12 269 "SetAgainModel" "turnsAll" "I", Cond.methodLink RX12 218 yX12_shiftsOf, Cond.instanceMethod yX12_shiftsOf, Cond.selects RX12 yX12_shiftsOf yX12_shiftsOf, Cond.code yX12_shiftsOf cX12_shiftsOf 2 (some .int), Cond.fieldLink RX12 77 "SetAgainModel" "many" "[I", Cond.methodLink RX12 221 yX12_whoSits, Cond.instanceMethod yX12_whoSits, Cond.selects RX12 yX12_whoSits yX12_whoSits, Cond.code yX12_whoSits cX12_whoSits 5 (some .int), Cond.fieldLink RX12 80 "SetAgainModel" "items" "[J", Cond.methodLink RX12 298 yX12_comes, Cond.instanceMethod yX12_comes, Cond.selects RX12 yX12_comes yX12_comes]
def wsX12_pays_r3 : List Cond := [Cond.code yX12_comes cX12_comes 4 none, Cond.fieldLink RX12 97 "SetAgainModel" "wilfulOf" "I", Cond.fieldLink RX12 292 "SetAgainModel" "wilfulTo" "I", Cond.methodLink RX12 208 yX12_numberOf, Cond.instanceMethod yX12_numberOf, Cond.selects RX12 yX12_numberOf yX12_numberOf, Cond.code yX12_numberOf cX12_numberOf 3 (some .int), Cond.fieldLink RX12 9 "SetAgainModel" "may" "[I", Cond.methodLink RX12 211 yX12_sizeOf, Cond.static yX12_sizeOf, Cond.code yX12_sizeOf cX12_sizeOf 1 (some .int), Cond.methodLink RX12 282 yX12_nearBy, Cond.instanceMethod yX12_nearBy, Cond.selects RX12 yX12_nearBy yX12_nearBy, Cond.code yX12_nearBy cX12_nearBy 2 (some .int), Cond.methodLink RX12 285 yX12_turnsTo, Cond.instanceMethod yX12_turnsTo, Cond.selects RX12 yX12_turnsTo yX12_turnsTo, Cond.code yX12_turnsTo cX12_turnsTo 6 none, Cond.fieldLink RX12 275 "SetAgainModel" "memorySet" "I", Cond.methodLink RX12 266 yX12_priceOf, Cond.instanceMethod yX12_priceOf, Cond.selects RX12 yX12_priceOf yX12_priceOf, Cond.code yX12_priceOf cX12_priceOf 2 (some .int)]
def wsX12_pays_r4 : List Cond := [Cond.fieldLink RX12 262 "SetAgainModel" "isMarked" "Z", Cond.methodLink RX12 278 yX12_isIn, Cond.static yX12_isIn, Cond.code yX12_isIn cX12_isIn 2 (some .boolean), Cond.methodLink RX12 214 yX12_lossOf, Cond.instanceMethod yX12_lossOf, Cond.selects RX12 yX12_lossOf yX12_lossOf, Cond.code yX12_lossOf cX12_lossOf 7 (some .int), Cond.fieldLink RX12 87 "SetAgainModel" "textMany" "I", Cond.fieldLink RX12 31 "SetAgainModel" "names" "[I", Cond.methodLink RX12 205 yX12_workOut, Cond.instanceMethod yX12_workOut, Cond.selects RX12 yX12_workOut yX12_workOut, Cond.code yX12_workOut cX12_workOut 8 (some .int), Cond.fieldLink RX12 165 "SetAgainModel" "base" "I", Cond.fieldLink RX12 159 "SetAgainModel" "at" "I", Cond.fieldLink RX12 162 "SetAgainModel" "ends" "I", Cond.fieldLink RX12 168 "SetAgainModel" "fault" "I", Cond.fieldLink RX12 193 "SetAgainModel" "opened" "I", Cond.methodLink RX12 199 yX12_either, Cond.instanceMethod yX12_either, Cond.selects RX12 yX12_either yX12_either, Cond.code yX12_either cX12_either 3 (some .int), Cond.methodLink RX12 175 yX12_both]
def wsX12_pays_r5 : List Cond := [Cond.instanceMethod yX12_both, Cond.selects RX12 yX12_both yX12_both, Cond.methodLink RX12 178 yX12_takes, Cond.instanceMethod yX12_takes, Cond.selects RX12 yX12_takes yX12_takes, Cond.code yX12_takes cX12_takes 2 (some .boolean), Cond.methodLink RX12 171 yX12_byteAt, Cond.instanceMethod yX12_byteAt, Cond.selects RX12 yX12_byteAt yX12_byteAt, Cond.code yX12_byteAt cX12_byteAt 1 (some .int), Cond.fieldLink RX12 25 "SetAgainModel" "tape" "[I", Cond.fieldLink RX12 28 "SetAgainModel" "text" "[I", Cond.code yX12_both cX12_both 3 (some .int), Cond.methodLink RX12 181 yX12_compared, Cond.instanceMethod yX12_compared, Cond.selects RX12 yX12_compared yX12_compared, Cond.code yX12_compared cX12_compared 4 (some .int), Cond.methodLink RX12 184 yX12_sums, Cond.instanceMethod yX12_sums, Cond.selects RX12 yX12_sums yX12_sums, Cond.code yX12_one cX12_one 5 (some .int), Cond.methodLink RX12 196 yX12_wrong, Cond.instanceMethod yX12_wrong, Cond.selects RX12 yX12_wrong yX12_wrong]
def wsX12_pays_r6 : List Cond := [Cond.code yX12_wrong cX12_wrong 1 (some .int), Cond.methodLink RX12 190 yX12_one, Cond.instanceMethod yX12_one, Cond.selects RX12 yX12_one yX12_one, Cond.methodLink RX12 202 yX12_nameOf, Cond.static yX12_nameOf, Cond.code yX12_nameOf cX12_nameOf 1 (some .int), Cond.code yX12_product cX12_product 4 (some .int), Cond.code yX12_sums cX12_sums 4 (some .int), Cond.methodLink RX12 187 yX12_product, Cond.instanceMethod yX12_product, Cond.selects RX12 yX12_product yX12_product, Cond.methodLink RX12 248 yX12_slipped, Cond.instanceMethod yX12_slipped, Cond.selects RX12 yX12_slipped yX12_slipped, Cond.code yX12_slipped cX12_slipped 4 (some .int)]
def wsX12_pays : List Cond := .code yX12_pays cX12_pays 7 (some .int) :: ((wsX12_pays_r1 ++ (wsX12_pays_r2 ++ (wsX12_pays_r3 ++ (wsX12_pays_r4 ++ (wsX12_pays_r5 ++ wsX12_pays_r6))))) ++ wsX120)
def wsX12_memories_r1 : List Cond := [Cond.constantLong RX12 230 (3), Cond.fieldLink RX12 275 "SetAgainModel" "memorySet" "I", Cond.fieldLink RX12 106 "SetAgainModel" "sitters" "I", Cond.methodLink RX12 224 yX12_bytesIs, Cond.instanceMethod yX12_bytesIs, Cond.selects RX12 yX12_bytesIs yX12_bytesIs, Cond.initialized RX12, Cond.code yX12_bytesIs cX12_bytesIs 2 (some .int), Cond.fieldLink RX12 74 "SetAgainModel" "shelf" "[I", Cond.methodLink RX12 127 yX12_isShelf, Cond.static yX12_isShelf, Cond.code yX12_isShelf cX12_isShelf 1 (some .boolean), Cond.constantLong RX12 385 (5), Cond.methodLink RX12 109 yX12_within, Cond.static yX12_within, Cond.code yX12_within cX12_within 6 (some .boolean), Cond.methodLink RX12 305 yX12_bitsOf, Cond.static yX12_bitsOf, Cond.code yX12_bitsOf cX12_bitsOf 3 (some .int), Cond.methodLink RX12 302 yX12_weekOf, Cond.instanceMethod yX12_weekOf, Cond.selects RX12 yX12_weekOf yX12_weekOf, Cond.code yX12_weekOf cX12_weekOf 5 (some .int), Cond.fieldLink RX12 47 "SetAgainModel" "standBehind" "[I"]
def wsX12_memories_r2 : List Cond := [Cond.fieldLink RX12 44 "SetAgainModel" "stand1" "[I", Cond.fieldLink RX12 40 "SetAgainModel" "isIll" "[Z", Cond.fieldLink RX12 272 "SetAgainModel" "turnCosts" "I", Cond.fieldLink RX12 289 "SetAgainModel" "lossesAll" "I", Cond.methodLink RX12 295 yX12_beginsWeek, Cond.instanceMethod yX12_beginsWeek, Cond.selects RX12 yX12_beginsWeek yX12_beginsWeek, Cond.code yX12_beginsWeek cX12_beginsWeek 2 none, Cond.fieldLink RX12 22 "SetAgainModel" "stands" "[I", Cond.fieldLink RX12 269 "SetAgainModel" "turnsAll" "I", Cond.methodLink RX12 218 yX12_shiftsOf, Cond.instanceMethod yX12_shiftsOf, Cond.selects RX12 yX12_shiftsOf yX12_shiftsOf, Cond.code yX12_shiftsOf cX12_shiftsOf 2 (some .int), Cond.fieldLink RX12 77 "SetAgainModel" "many" "[I", Cond.methodLink RX12 221 yX12_whoSits, Cond.instanceMethod yX12_whoSits, Cond.selects RX12 yX12_whoSits yX12_whoSits, Cond.code yX12_whoSits cX12_whoSits 5 (some .int), Cond.fieldLink RX12 80 "SetAgainModel" "items" "[J", Cond.methodLink RX12 135 yX12_isSitter, Cond.instanceMethod yX12_isSitter, Cond.selects RX12 yX12_isSitter yX12_isSitter, Cond.code yX12_isSitter cX12_isSitter 3 (some .boolean)]
def wsX12_memories_r3 : List Cond := [Cond.methodLink RX12 298 yX12_comes, Cond.instanceMethod yX12_comes, Cond.selects RX12 yX12_comes yX12_comes, Cond.code yX12_comes cX12_comes 4 none, Cond.fieldLink RX12 97 "SetAgainModel" "wilfulOf" "I", Cond.fieldLink RX12 292 "SetAgainModel" "wilfulTo" "I", Cond.methodLink RX12 208 yX12_numberOf, Cond.instanceMethod yX12_numberOf, Cond.selects RX12 yX12_numberOf yX12_numberOf, Cond.code yX12_numberOf cX12_numberOf 3 (some .int), Cond.fieldLink RX12 9 "SetAgainModel" "may" "[I", Cond.methodLink RX12 211 yX12_sizeOf, Cond.static yX12_sizeOf, Cond.code yX12_sizeOf cX12_sizeOf 1 (some .int), Cond.methodLink RX12 282 yX12_nearBy, Cond.instanceMethod yX12_nearBy, Cond.selects RX12 yX12_nearBy yX12_nearBy, Cond.code yX12_nearBy cX12_nearBy 2 (some .int), Cond.fieldLink RX12 94 "SetAgainModel" "nearOf" "I", Cond.fieldLink RX12 259 "SetAgainModel" "nearIs" "I", Cond.methodLink RX12 285 yX12_turnsTo, Cond.instanceMethod yX12_turnsTo, Cond.selects RX12 yX12_turnsTo yX12_turnsTo, Cond.code yX12_turnsTo cX12_turnsTo 6 none]
def wsX12_memories_r4 : List Cond := [Cond.methodLink RX12 266 yX12_priceOf, Cond.instanceMethod yX12_priceOf, Cond.selects RX12 yX12_priceOf yX12_priceOf, Cond.code yX12_priceOf cX12_priceOf 2 (some .int), Cond.fieldLink RX12 262 "SetAgainModel" "isMarked" "Z", Cond.methodLink RX12 278 yX12_isIn, Cond.static yX12_isIn, Cond.code yX12_isIn cX12_isIn 2 (some .boolean), Cond.methodLink RX12 214 yX12_lossOf, Cond.instanceMethod yX12_lossOf, Cond.selects RX12 yX12_lossOf yX12_lossOf, Cond.code yX12_lossOf cX12_lossOf 7 (some .int), Cond.fieldLink RX12 87 "SetAgainModel" "textMany" "I", Cond.fieldLink RX12 31 "SetAgainModel" "names" "[I", Cond.methodLink RX12 205 yX12_workOut, Cond.instanceMethod yX12_workOut, Cond.selects RX12 yX12_workOut yX12_workOut, Cond.code yX12_workOut cX12_workOut 8 (some .int), Cond.fieldLink RX12 165 "SetAgainModel" "base" "I", Cond.fieldLink RX12 159 "SetAgainModel" "at" "I", Cond.fieldLink RX12 162 "SetAgainModel" "ends" "I", Cond.fieldLink RX12 168 "SetAgainModel" "fault" "I", Cond.fieldLink RX12 193 "SetAgainModel" "opened" "I", Cond.methodLink RX12 199 yX12_either]
def wsX12_memories_r5 : List Cond := [Cond.instanceMethod yX12_either, Cond.selects RX12 yX12_either yX12_either, Cond.code yX12_either cX12_either 3 (some .int), Cond.methodLink RX12 175 yX12_both, Cond.instanceMethod yX12_both, Cond.selects RX12 yX12_both yX12_both, Cond.methodLink RX12 178 yX12_takes, Cond.instanceMethod yX12_takes, Cond.selects RX12 yX12_takes yX12_takes, Cond.code yX12_takes cX12_takes 2 (some .boolean), Cond.methodLink RX12 171 yX12_byteAt, Cond.instanceMethod yX12_byteAt, Cond.selects RX12 yX12_byteAt yX12_byteAt, Cond.code yX12_byteAt cX12_byteAt 1 (some .int), Cond.fieldLink RX12 25 "SetAgainModel" "tape" "[I", Cond.fieldLink RX12 28 "SetAgainModel" "text" "[I", Cond.code yX12_both cX12_both 3 (some .int), Cond.methodLink RX12 181 yX12_compared, Cond.instanceMethod yX12_compared, Cond.selects RX12 yX12_compared yX12_compared, Cond.code yX12_compared cX12_compared 4 (some .int), Cond.methodLink RX12 184 yX12_sums, Cond.instanceMethod yX12_sums, Cond.selects RX12 yX12_sums yX12_sums]
def wsX12_memories_r6 : List Cond := [Cond.code yX12_one cX12_one 5 (some .int), Cond.methodLink RX12 196 yX12_wrong, Cond.instanceMethod yX12_wrong, Cond.selects RX12 yX12_wrong yX12_wrong, Cond.code yX12_wrong cX12_wrong 1 (some .int), Cond.methodLink RX12 190 yX12_one, Cond.instanceMethod yX12_one, Cond.selects RX12 yX12_one yX12_one, Cond.methodLink RX12 202 yX12_nameOf, Cond.static yX12_nameOf, Cond.code yX12_nameOf cX12_nameOf 1 (some .int), Cond.code yX12_product cX12_product 4 (some .int), Cond.code yX12_sums cX12_sums 4 (some .int), Cond.methodLink RX12 187 yX12_product, Cond.instanceMethod yX12_product, Cond.selects RX12 yX12_product yX12_product, Cond.methodLink RX12 248 yX12_slipped, Cond.instanceMethod yX12_slipped, Cond.selects RX12 yX12_slipped yX12_slipped, Cond.code yX12_slipped cX12_slipped 4 (some .int)]
def wsX12_memories : List Cond := .code yX12_memories cX12_memories 8 (some .int) :: ((wsX12_memories_r1 ++ (wsX12_memories_r2 ++ (wsX12_memories_r3 ++ (wsX12_memories_r4 ++ (wsX12_memories_r5 ++ wsX12_memories_r6))))) ++ wsX120)
def wsX12_marked_r1 : List Cond := [Cond.fieldLink RX12 262 "SetAgainModel" "isMarked" "Z", Cond.methodLink RX12 224 yX12_bytesIs, Cond.instanceMethod yX12_bytesIs, Cond.selects RX12 yX12_bytesIs yX12_bytesIs, Cond.initialized RX12, Cond.code yX12_bytesIs cX12_bytesIs 2 (some .int), Cond.fieldLink RX12 74 "SetAgainModel" "shelf" "[I", Cond.methodLink RX12 127 yX12_isShelf, Cond.static yX12_isShelf, Cond.code yX12_isShelf cX12_isShelf 1 (some .boolean), Cond.constantLong RX12 385 (5), Cond.methodLink RX12 109 yX12_within, Cond.static yX12_within, Cond.code yX12_within cX12_within 6 (some .boolean), Cond.methodLink RX12 302 yX12_weekOf, Cond.instanceMethod yX12_weekOf, Cond.selects RX12 yX12_weekOf yX12_weekOf, Cond.code yX12_weekOf cX12_weekOf 5 (some .int), Cond.fieldLink RX12 47 "SetAgainModel" "standBehind" "[I", Cond.fieldLink RX12 44 "SetAgainModel" "stand1" "[I", Cond.fieldLink RX12 40 "SetAgainModel" "isIll" "[Z", Cond.fieldLink RX12 272 "SetAgainModel" "turnCosts" "I", Cond.fieldLink RX12 289 "SetAgainModel" "lossesAll" "I", Cond.methodLink RX12 295 yX12_beginsWeek]
def wsX12_marked_r2 : List Cond := [Cond.instanceMethod yX12_beginsWeek, Cond.selects RX12 yX12_beginsWeek yX12_beginsWeek, Cond.code yX12_beginsWeek cX12_beginsWeek 2 none, Cond.fieldLink RX12 22 "SetAgainModel" "stands" "[I", Cond.fieldLink RX12 269 "SetAgainModel" "turnsAll" "I", Cond.methodLink RX12 218 yX12_shiftsOf, Cond.instanceMethod yX12_shiftsOf, Cond.selects RX12 yX12_shiftsOf yX12_shiftsOf, Cond.code yX12_shiftsOf cX12_shiftsOf 2 (some .int), Cond.fieldLink RX12 77 "SetAgainModel" "many" "[I", Cond.methodLink RX12 221 yX12_whoSits, Cond.instanceMethod yX12_whoSits, Cond.selects RX12 yX12_whoSits yX12_whoSits, Cond.code yX12_whoSits cX12_whoSits 5 (some .int), Cond.fieldLink RX12 80 "SetAgainModel" "items" "[J", Cond.methodLink RX12 135 yX12_isSitter, Cond.instanceMethod yX12_isSitter, Cond.selects RX12 yX12_isSitter yX12_isSitter, Cond.code yX12_isSitter cX12_isSitter 3 (some .boolean), Cond.fieldLink RX12 106 "SetAgainModel" "sitters" "I", Cond.methodLink RX12 298 yX12_comes, Cond.instanceMethod yX12_comes, Cond.selects RX12 yX12_comes yX12_comes, Cond.code yX12_comes cX12_comes 4 none]
def wsX12_marked_r3 : List Cond := [Cond.fieldLink RX12 97 "SetAgainModel" "wilfulOf" "I", Cond.fieldLink RX12 292 "SetAgainModel" "wilfulTo" "I", Cond.methodLink RX12 208 yX12_numberOf, Cond.instanceMethod yX12_numberOf, Cond.selects RX12 yX12_numberOf yX12_numberOf, Cond.code yX12_numberOf cX12_numberOf 3 (some .int), Cond.fieldLink RX12 9 "SetAgainModel" "may" "[I", Cond.methodLink RX12 211 yX12_sizeOf, Cond.static yX12_sizeOf, Cond.code yX12_sizeOf cX12_sizeOf 1 (some .int), Cond.methodLink RX12 282 yX12_nearBy, Cond.instanceMethod yX12_nearBy, Cond.selects RX12 yX12_nearBy yX12_nearBy, Cond.code yX12_nearBy cX12_nearBy 2 (some .int), Cond.fieldLink RX12 94 "SetAgainModel" "nearOf" "I", Cond.fieldLink RX12 259 "SetAgainModel" "nearIs" "I", Cond.methodLink RX12 285 yX12_turnsTo, Cond.instanceMethod yX12_turnsTo, Cond.selects RX12 yX12_turnsTo yX12_turnsTo, Cond.code yX12_turnsTo cX12_turnsTo 6 none, Cond.fieldLink RX12 275 "SetAgainModel" "memorySet" "I", Cond.methodLink RX12 266 yX12_priceOf, Cond.instanceMethod yX12_priceOf, Cond.selects RX12 yX12_priceOf yX12_priceOf]
def wsX12_marked_r4 : List Cond := [Cond.code yX12_priceOf cX12_priceOf 2 (some .int), Cond.methodLink RX12 278 yX12_isIn, Cond.static yX12_isIn, Cond.code yX12_isIn cX12_isIn 2 (some .boolean), Cond.methodLink RX12 214 yX12_lossOf, Cond.instanceMethod yX12_lossOf, Cond.selects RX12 yX12_lossOf yX12_lossOf, Cond.code yX12_lossOf cX12_lossOf 7 (some .int), Cond.fieldLink RX12 87 "SetAgainModel" "textMany" "I", Cond.fieldLink RX12 31 "SetAgainModel" "names" "[I", Cond.methodLink RX12 205 yX12_workOut, Cond.instanceMethod yX12_workOut, Cond.selects RX12 yX12_workOut yX12_workOut, Cond.code yX12_workOut cX12_workOut 8 (some .int), Cond.fieldLink RX12 165 "SetAgainModel" "base" "I", Cond.fieldLink RX12 159 "SetAgainModel" "at" "I", Cond.fieldLink RX12 162 "SetAgainModel" "ends" "I", Cond.fieldLink RX12 168 "SetAgainModel" "fault" "I", Cond.fieldLink RX12 193 "SetAgainModel" "opened" "I", Cond.methodLink RX12 199 yX12_either, Cond.instanceMethod yX12_either, Cond.selects RX12 yX12_either yX12_either, Cond.code yX12_either cX12_either 3 (some .int), Cond.methodLink RX12 175 yX12_both]
def wsX12_marked_r5 : List Cond := [Cond.instanceMethod yX12_both, Cond.selects RX12 yX12_both yX12_both, Cond.methodLink RX12 178 yX12_takes, Cond.instanceMethod yX12_takes, Cond.selects RX12 yX12_takes yX12_takes, Cond.code yX12_takes cX12_takes 2 (some .boolean), Cond.methodLink RX12 171 yX12_byteAt, Cond.instanceMethod yX12_byteAt, Cond.selects RX12 yX12_byteAt yX12_byteAt, Cond.code yX12_byteAt cX12_byteAt 1 (some .int), Cond.fieldLink RX12 25 "SetAgainModel" "tape" "[I", Cond.fieldLink RX12 28 "SetAgainModel" "text" "[I", Cond.code yX12_both cX12_both 3 (some .int), Cond.methodLink RX12 181 yX12_compared, Cond.instanceMethod yX12_compared, Cond.selects RX12 yX12_compared yX12_compared, Cond.code yX12_compared cX12_compared 4 (some .int), Cond.methodLink RX12 184 yX12_sums, Cond.instanceMethod yX12_sums, Cond.selects RX12 yX12_sums yX12_sums, Cond.code yX12_one cX12_one 5 (some .int), Cond.methodLink RX12 196 yX12_wrong, Cond.instanceMethod yX12_wrong, Cond.selects RX12 yX12_wrong yX12_wrong]
def wsX12_marked_r6 : List Cond := [Cond.code yX12_wrong cX12_wrong 1 (some .int), Cond.methodLink RX12 190 yX12_one, Cond.instanceMethod yX12_one, Cond.selects RX12 yX12_one yX12_one, Cond.methodLink RX12 202 yX12_nameOf, Cond.static yX12_nameOf, Cond.code yX12_nameOf cX12_nameOf 1 (some .int), Cond.code yX12_product cX12_product 4 (some .int), Cond.code yX12_sums cX12_sums 4 (some .int), Cond.methodLink RX12 187 yX12_product, Cond.instanceMethod yX12_product, Cond.selects RX12 yX12_product yX12_product, Cond.methodLink RX12 248 yX12_slipped, Cond.instanceMethod yX12_slipped, Cond.selects RX12 yX12_slipped yX12_slipped, Cond.code yX12_slipped cX12_slipped 4 (some .int)]
def wsX12_marked : List Cond := .code yX12_marked cX12_marked 4 (some .int) :: ((wsX12_marked_r1 ++ (wsX12_marked_r2 ++ (wsX12_marked_r3 ++ (wsX12_marked_r4 ++ (wsX12_marked_r5 ++ wsX12_marked_r6))))) ++ wsX120)
def wsX12_wilful_r1 : List Cond := [Cond.constant RX12 308 (-2000000000), Cond.fieldLink RX12 97 "SetAgainModel" "wilfulOf" "I", Cond.fieldLink RX12 292 "SetAgainModel" "wilfulTo" "I", Cond.methodLink RX12 224 yX12_bytesIs, Cond.instanceMethod yX12_bytesIs, Cond.selects RX12 yX12_bytesIs yX12_bytesIs, Cond.initialized RX12, Cond.code yX12_bytesIs cX12_bytesIs 2 (some .int), Cond.fieldLink RX12 74 "SetAgainModel" "shelf" "[I", Cond.methodLink RX12 127 yX12_isShelf, Cond.static yX12_isShelf, Cond.code yX12_isShelf cX12_isShelf 1 (some .boolean), Cond.constantLong RX12 385 (5), Cond.methodLink RX12 109 yX12_within, Cond.static yX12_within, Cond.code yX12_within cX12_within 6 (some .boolean), Cond.methodLink RX12 135 yX12_isSitter, Cond.instanceMethod yX12_isSitter, Cond.selects RX12 yX12_isSitter yX12_isSitter, Cond.code yX12_isSitter cX12_isSitter 3 (some .boolean), Cond.fieldLink RX12 106 "SetAgainModel" "sitters" "I", Cond.methodLink RX12 117 yX12_isSetting, Cond.static yX12_isSetting, Cond.code yX12_isSetting cX12_isSetting 2 (some .boolean)]
def wsX12_wilful_r2 : List Cond := [Cond.constantLong RX12 115 (60), Cond.methodLink RX12 302 yX12_weekOf, Cond.instanceMethod yX12_weekOf, Cond.selects RX12 yX12_weekOf yX12_weekOf, Cond.code yX12_weekOf cX12_weekOf 5 (some .int), Cond.fieldLink RX12 47 "SetAgainModel" "standBehind" "[I", Cond.fieldLink RX12 44 "SetAgainModel" "stand1" "[I", Cond.fieldLink RX12 40 "SetAgainModel" "isIll" "[Z", Cond.fieldLink RX12 272 "SetAgainModel" "turnCosts" "I", Cond.fieldLink RX12 289 "SetAgainModel" "lossesAll" "I", Cond.methodLink RX12 295 yX12_beginsWeek, Cond.instanceMethod yX12_beginsWeek, Cond.selects RX12 yX12_beginsWeek yX12_beginsWeek, Cond.code yX12_beginsWeek cX12_beginsWeek 2 none, Cond.fieldLink RX12 22 "SetAgainModel" "stands" "[I", Cond.fieldLink RX12 269 "SetAgainModel" "turnsAll" "I", Cond.methodLink RX12 218 yX12_shiftsOf, Cond.instanceMethod yX12_shiftsOf, Cond.selects RX12 yX12_shiftsOf yX12_shiftsOf, Cond.code yX12_shiftsOf cX12_shiftsOf 2 (some .int), Cond.fieldLink RX12 77 "SetAgainModel" "many" "[I", Cond.methodLink RX12 221 yX12_whoSits, Cond.instanceMethod yX12_whoSits, Cond.selects RX12 yX12_whoSits yX12_whoSits]
def wsX12_wilful_r3 : List Cond := [Cond.code yX12_whoSits cX12_whoSits 5 (some .int), Cond.fieldLink RX12 80 "SetAgainModel" "items" "[J", Cond.methodLink RX12 298 yX12_comes, Cond.instanceMethod yX12_comes, Cond.selects RX12 yX12_comes yX12_comes, Cond.code yX12_comes cX12_comes 4 none, Cond.methodLink RX12 208 yX12_numberOf, Cond.instanceMethod yX12_numberOf, Cond.selects RX12 yX12_numberOf yX12_numberOf, Cond.code yX12_numberOf cX12_numberOf 3 (some .int), Cond.fieldLink RX12 9 "SetAgainModel" "may" "[I", Cond.methodLink RX12 211 yX12_sizeOf, Cond.static yX12_sizeOf, Cond.code yX12_sizeOf cX12_sizeOf 1 (some .int), Cond.methodLink RX12 282 yX12_nearBy, Cond.instanceMethod yX12_nearBy, Cond.selects RX12 yX12_nearBy yX12_nearBy, Cond.code yX12_nearBy cX12_nearBy 2 (some .int), Cond.fieldLink RX12 94 "SetAgainModel" "nearOf" "I", Cond.fieldLink RX12 259 "SetAgainModel" "nearIs" "I", Cond.methodLink RX12 285 yX12_turnsTo, Cond.instanceMethod yX12_turnsTo, Cond.selects RX12 yX12_turnsTo yX12_turnsTo, Cond.code yX12_turnsTo cX12_turnsTo 6 none]
def wsX12_wilful_r4 : List Cond := [Cond.fieldLink RX12 275 "SetAgainModel" "memorySet" "I", Cond.methodLink RX12 266 yX12_priceOf, Cond.instanceMethod yX12_priceOf, Cond.selects RX12 yX12_priceOf yX12_priceOf, Cond.code yX12_priceOf cX12_priceOf 2 (some .int), Cond.fieldLink RX12 262 "SetAgainModel" "isMarked" "Z", Cond.methodLink RX12 278 yX12_isIn, Cond.static yX12_isIn, Cond.code yX12_isIn cX12_isIn 2 (some .boolean), Cond.methodLink RX12 214 yX12_lossOf, Cond.instanceMethod yX12_lossOf, Cond.selects RX12 yX12_lossOf yX12_lossOf, Cond.code yX12_lossOf cX12_lossOf 7 (some .int), Cond.fieldLink RX12 87 "SetAgainModel" "textMany" "I", Cond.fieldLink RX12 31 "SetAgainModel" "names" "[I", Cond.methodLink RX12 205 yX12_workOut, Cond.instanceMethod yX12_workOut, Cond.selects RX12 yX12_workOut yX12_workOut, Cond.code yX12_workOut cX12_workOut 8 (some .int), Cond.fieldLink RX12 165 "SetAgainModel" "base" "I", Cond.fieldLink RX12 159 "SetAgainModel" "at" "I", Cond.fieldLink RX12 162 "SetAgainModel" "ends" "I", Cond.fieldLink RX12 168 "SetAgainModel" "fault" "I", Cond.fieldLink RX12 193 "SetAgainModel" "opened" "I"]
def wsX12_wilful_r5 : List Cond := [Cond.methodLink RX12 199 yX12_either, Cond.instanceMethod yX12_either, Cond.selects RX12 yX12_either yX12_either, Cond.code yX12_either cX12_either 3 (some .int), Cond.methodLink RX12 175 yX12_both, Cond.instanceMethod yX12_both, Cond.selects RX12 yX12_both yX12_both, Cond.methodLink RX12 178 yX12_takes, Cond.instanceMethod yX12_takes, Cond.selects RX12 yX12_takes yX12_takes, Cond.code yX12_takes cX12_takes 2 (some .boolean), Cond.methodLink RX12 171 yX12_byteAt, Cond.instanceMethod yX12_byteAt, Cond.selects RX12 yX12_byteAt yX12_byteAt, Cond.code yX12_byteAt cX12_byteAt 1 (some .int), Cond.fieldLink RX12 25 "SetAgainModel" "tape" "[I", Cond.fieldLink RX12 28 "SetAgainModel" "text" "[I", Cond.code yX12_both cX12_both 3 (some .int), Cond.methodLink RX12 181 yX12_compared, Cond.instanceMethod yX12_compared, Cond.selects RX12 yX12_compared yX12_compared, Cond.code yX12_compared cX12_compared 4 (some .int), Cond.methodLink RX12 184 yX12_sums, Cond.instanceMethod yX12_sums]
def wsX12_wilful_r6 : List Cond := [Cond.selects RX12 yX12_sums yX12_sums, Cond.code yX12_one cX12_one 5 (some .int), Cond.methodLink RX12 196 yX12_wrong, Cond.instanceMethod yX12_wrong, Cond.selects RX12 yX12_wrong yX12_wrong, Cond.code yX12_wrong cX12_wrong 1 (some .int), Cond.methodLink RX12 190 yX12_one, Cond.instanceMethod yX12_one, Cond.selects RX12 yX12_one yX12_one, Cond.methodLink RX12 202 yX12_nameOf, Cond.static yX12_nameOf, Cond.code yX12_nameOf cX12_nameOf 1 (some .int), Cond.code yX12_product cX12_product 4 (some .int), Cond.code yX12_sums cX12_sums 4 (some .int), Cond.methodLink RX12 187 yX12_product, Cond.instanceMethod yX12_product, Cond.selects RX12 yX12_product yX12_product, Cond.methodLink RX12 248 yX12_slipped, Cond.instanceMethod yX12_slipped, Cond.selects RX12 yX12_slipped yX12_slipped, Cond.code yX12_slipped cX12_slipped 4 (some .int)]
def wsX12_wilful : List Cond := .code yX12_wilful cX12_wilful 6 (some .int) :: ((wsX12_wilful_r1 ++ (wsX12_wilful_r2 ++ (wsX12_wilful_r3 ++ (wsX12_wilful_r4 ++ (wsX12_wilful_r5 ++ wsX12_wilful_r6))))) ++ wsX120)
def wsX12_chairs_r1 : List Cond := [Cond.constantLong RX12 230 (3), Cond.fieldLink RX12 50 "SetAgainModel" "lossAt" "[I", Cond.fieldLink RX12 312 "SetAgainModel" "leastChairs" "I", Cond.fieldLink RX12 56 "SetAgainModel" "bestChair" "[I", Cond.methodLink RX12 224 yX12_bytesIs, Cond.instanceMethod yX12_bytesIs, Cond.selects RX12 yX12_bytesIs yX12_bytesIs, Cond.initialized RX12, Cond.code yX12_bytesIs cX12_bytesIs 2 (some .int), Cond.fieldLink RX12 74 "SetAgainModel" "shelf" "[I", Cond.methodLink RX12 127 yX12_isShelf, Cond.static yX12_isShelf, Cond.code yX12_isShelf cX12_isShelf 1 (some .boolean), Cond.constantLong RX12 385 (5), Cond.methodLink RX12 109 yX12_within, Cond.static yX12_within, Cond.code yX12_within cX12_within 6 (some .boolean), Cond.methodLink RX12 140 yX12_isPart, Cond.static yX12_isPart, Cond.code yX12_isPart cX12_isPart 1 (some .boolean), Cond.constantLong RX12 113 (2), Cond.methodLink RX12 135 yX12_isSitter, Cond.instanceMethod yX12_isSitter, Cond.selects RX12 yX12_isSitter yX12_isSitter]
def wsX12_chairs_r2 : List Cond := [Cond.code yX12_isSitter cX12_isSitter 3 (some .boolean), Cond.fieldLink RX12 106 "SetAgainModel" "sitters" "I", Cond.methodLink RX12 218 yX12_shiftsOf, Cond.instanceMethod yX12_shiftsOf, Cond.selects RX12 yX12_shiftsOf yX12_shiftsOf, Cond.code yX12_shiftsOf cX12_shiftsOf 2 (some .int), Cond.fieldLink RX12 77 "SetAgainModel" "many" "[I", Cond.methodLink RX12 221 yX12_whoSits, Cond.instanceMethod yX12_whoSits, Cond.selects RX12 yX12_whoSits yX12_whoSits, Cond.code yX12_whoSits cX12_whoSits 5 (some .int), Cond.fieldLink RX12 80 "SetAgainModel" "items" "[J", Cond.methodLink RX12 214 yX12_lossOf, Cond.instanceMethod yX12_lossOf, Cond.selects RX12 yX12_lossOf yX12_lossOf, Cond.code yX12_lossOf cX12_lossOf 7 (some .int), Cond.fieldLink RX12 87 "SetAgainModel" "textMany" "I", Cond.fieldLink RX12 31 "SetAgainModel" "names" "[I", Cond.methodLink RX12 208 yX12_numberOf, Cond.instanceMethod yX12_numberOf, Cond.selects RX12 yX12_numberOf yX12_numberOf, Cond.code yX12_numberOf cX12_numberOf 3 (some .int), Cond.fieldLink RX12 9 "SetAgainModel" "may" "[I", Cond.methodLink RX12 211 yX12_sizeOf]
def wsX12_chairs_r3 : List Cond := [Cond.static yX12_sizeOf, Cond.code yX12_sizeOf cX12_sizeOf 1 (some .int), Cond.methodLink RX12 205 yX12_workOut, Cond.instanceMethod yX12_workOut, Cond.selects RX12 yX12_workOut yX12_workOut, Cond.code yX12_workOut cX12_workOut 8 (some .int), Cond.fieldLink RX12 165 "SetAgainModel" "base" "I", Cond.fieldLink RX12 159 "SetAgainModel" "at" "I", Cond.fieldLink RX12 162 "SetAgainModel" "ends" "I", Cond.fieldLink RX12 168 "SetAgainModel" "fault" "I", Cond.fieldLink RX12 193 "SetAgainModel" "opened" "I", Cond.methodLink RX12 199 yX12_either, Cond.instanceMethod yX12_either, Cond.selects RX12 yX12_either yX12_either, Cond.code yX12_either cX12_either 3 (some .int), Cond.methodLink RX12 175 yX12_both, Cond.instanceMethod yX12_both, Cond.selects RX12 yX12_both yX12_both, Cond.methodLink RX12 178 yX12_takes, Cond.instanceMethod yX12_takes, Cond.selects RX12 yX12_takes yX12_takes, Cond.code yX12_takes cX12_takes 2 (some .boolean), Cond.methodLink RX12 171 yX12_byteAt, Cond.instanceMethod yX12_byteAt]
def wsX12_chairs_r4 : List Cond := [Cond.selects RX12 yX12_byteAt yX12_byteAt, Cond.code yX12_byteAt cX12_byteAt 1 (some .int), Cond.fieldLink RX12 25 "SetAgainModel" "tape" "[I", Cond.fieldLink RX12 28 "SetAgainModel" "text" "[I", Cond.code yX12_both cX12_both 3 (some .int), Cond.methodLink RX12 181 yX12_compared, Cond.instanceMethod yX12_compared, Cond.selects RX12 yX12_compared yX12_compared, Cond.code yX12_compared cX12_compared 4 (some .int), Cond.methodLink RX12 184 yX12_sums, Cond.instanceMethod yX12_sums, Cond.selects RX12 yX12_sums yX12_sums, Cond.code yX12_one cX12_one 5 (some .int), Cond.methodLink RX12 196 yX12_wrong, Cond.instanceMethod yX12_wrong, Cond.selects RX12 yX12_wrong yX12_wrong, Cond.code yX12_wrong cX12_wrong 1 (some .int), Cond.methodLink RX12 190 yX12_one, Cond.instanceMethod yX12_one, Cond.selects RX12 yX12_one yX12_one, Cond.methodLink RX12 202 yX12_nameOf, Cond.static yX12_nameOf, Cond.code yX12_nameOf cX12_nameOf 1 (some .int), Cond.code yX12_product cX12_product 4 (some .int)]
def wsX12_chairs_r5 : List Cond := [Cond.code yX12_sums cX12_sums 4 (some .int), Cond.methodLink RX12 187 yX12_product, Cond.instanceMethod yX12_product, Cond.selects RX12 yX12_product yX12_product, Cond.methodLink RX12 318 yX12_sitsSet, Cond.instanceMethod yX12_sitsSet, Cond.selects RX12 yX12_sitsSet yX12_sitsSet, Cond.code yX12_sitsSet cX12_sitsSet 4 (some .int), Cond.methodLink RX12 315 yX12_chairsOn, Cond.instanceMethod yX12_chairsOn, Cond.selects RX12 yX12_chairsOn yX12_chairsOn, Cond.code yX12_chairsOn cX12_chairsOn 7 none, Cond.fieldLink RX12 53 "SetAgainModel" "chairOf" "[I", Cond.methodLink RX12 309 yX12_chairLoss, Cond.instanceMethod yX12_chairLoss, Cond.selects RX12 yX12_chairLoss yX12_chairLoss, Cond.code yX12_chairLoss cX12_chairLoss 7 (some .int), Cond.methodLink RX12 278 yX12_isIn, Cond.static yX12_isIn, Cond.code yX12_isIn cX12_isIn 2 (some .boolean)]
def wsX12_chairs : List Cond := .code yX12_chairs cX12_chairs 7 (some .int) :: ((wsX12_chairs_r1 ++ (wsX12_chairs_r2 ++ (wsX12_chairs_r3 ++ (wsX12_chairs_r4 ++ wsX12_chairs_r5)))) ++ wsX120)
def wsX12_who_r1 : List Cond := [Cond.constantLong RX12 323 (11), Cond.fieldLink RX12 77 "SetAgainModel" "many" "[I", Cond.fieldLink RX12 59 "SetAgainModel" "canStand" "[Z", Cond.fieldLink RX12 22 "SetAgainModel" "stands" "[I", Cond.fieldLink RX12 62 "SetAgainModel" "canGoOn" "[Z", Cond.methodLink RX12 224 yX12_bytesIs, Cond.instanceMethod yX12_bytesIs, Cond.selects RX12 yX12_bytesIs yX12_bytesIs, Cond.initialized RX12, Cond.code yX12_bytesIs cX12_bytesIs 2 (some .int), Cond.fieldLink RX12 74 "SetAgainModel" "shelf" "[I", Cond.methodLink RX12 127 yX12_isShelf, Cond.static yX12_isShelf, Cond.code yX12_isShelf cX12_isShelf 1 (some .boolean), Cond.constantLong RX12 385 (5), Cond.methodLink RX12 109 yX12_within, Cond.static yX12_within, Cond.code yX12_within cX12_within 6 (some .boolean), Cond.methodLink RX12 140 yX12_isPart, Cond.static yX12_isPart, Cond.code yX12_isPart cX12_isPart 1 (some .boolean), Cond.constantLong RX12 113 (2), Cond.methodLink RX12 325 yX12_may1, Cond.instanceMethod yX12_may1]
def wsX12_who_r2 : List Cond := [Cond.selects RX12 yX12_may1 yX12_may1, Cond.code yX12_may1 cX12_may1 2 (some .boolean), Cond.fieldLink RX12 106 "SetAgainModel" "sitters" "I", Cond.methodLink RX12 328 yX12_standsBy, Cond.instanceMethod yX12_standsBy, Cond.selects RX12 yX12_standsBy yX12_standsBy, Cond.code yX12_standsBy cX12_standsBy 5 (some .int), Cond.methodLink RX12 208 yX12_numberOf, Cond.instanceMethod yX12_numberOf, Cond.selects RX12 yX12_numberOf yX12_numberOf, Cond.code yX12_numberOf cX12_numberOf 3 (some .int), Cond.fieldLink RX12 9 "SetAgainModel" "may" "[I", Cond.methodLink RX12 211 yX12_sizeOf, Cond.static yX12_sizeOf, Cond.code yX12_sizeOf cX12_sizeOf 1 (some .int), Cond.methodLink RX12 248 yX12_slipped, Cond.instanceMethod yX12_slipped, Cond.selects RX12 yX12_slipped yX12_slipped, Cond.code yX12_slipped cX12_slipped 4 (some .int), Cond.methodLink RX12 331 yX12_isSeen, Cond.instanceMethod yX12_isSeen, Cond.selects RX12 yX12_isSeen yX12_isSeen, Cond.code yX12_isSeen cX12_isSeen 6 (some .boolean), Cond.fieldLink RX12 80 "SetAgainModel" "items" "[J"]
def wsX12_who_r3 : List Cond := [Cond.constantLong RX12 321 (-1)]
def wsX12_who : List Cond := .code yX12_who cX12_who 10 (some .int) :: ((wsX12_who_r1 ++ (wsX12_who_r2 ++ wsX12_who_r3)) ++ wsX120)
def wsX12_judge_r1 : List Cond := [Cond.fieldLink RX12 74 "SetAgainModel" "shelf" "[I", Cond.fieldLink RX12 77 "SetAgainModel" "many" "[I", Cond.fieldLink RX12 47 "SetAgainModel" "standBehind" "[I", Cond.methodLink RX12 127 yX12_isShelf, Cond.static yX12_isShelf, Cond.initialized RX12, Cond.code yX12_isShelf cX12_isShelf 1 (some .boolean), Cond.constantLong RX12 385 (5), Cond.methodLink RX12 109 yX12_within, Cond.static yX12_within, Cond.code yX12_within cX12_within 6 (some .boolean), Cond.methodLink RX12 140 yX12_isPart, Cond.static yX12_isPart, Cond.code yX12_isPart cX12_isPart 1 (some .boolean), Cond.constantLong RX12 113 (2), Cond.methodLink RX12 224 yX12_bytesIs, Cond.instanceMethod yX12_bytesIs, Cond.selects RX12 yX12_bytesIs yX12_bytesIs, Cond.code yX12_bytesIs cX12_bytesIs 2 (some .int), Cond.methodLink RX12 302 yX12_weekOf, Cond.instanceMethod yX12_weekOf, Cond.selects RX12 yX12_weekOf yX12_weekOf, Cond.code yX12_weekOf cX12_weekOf 5 (some .int), Cond.fieldLink RX12 44 "SetAgainModel" "stand1" "[I"]
def wsX12_judge_r2 : List Cond := [Cond.fieldLink RX12 40 "SetAgainModel" "isIll" "[Z", Cond.fieldLink RX12 272 "SetAgainModel" "turnCosts" "I", Cond.fieldLink RX12 289 "SetAgainModel" "lossesAll" "I", Cond.methodLink RX12 295 yX12_beginsWeek, Cond.instanceMethod yX12_beginsWeek, Cond.selects RX12 yX12_beginsWeek yX12_beginsWeek, Cond.code yX12_beginsWeek cX12_beginsWeek 2 none, Cond.fieldLink RX12 22 "SetAgainModel" "stands" "[I", Cond.fieldLink RX12 269 "SetAgainModel" "turnsAll" "I", Cond.methodLink RX12 218 yX12_shiftsOf, Cond.instanceMethod yX12_shiftsOf, Cond.selects RX12 yX12_shiftsOf yX12_shiftsOf, Cond.code yX12_shiftsOf cX12_shiftsOf 2 (some .int), Cond.methodLink RX12 221 yX12_whoSits, Cond.instanceMethod yX12_whoSits, Cond.selects RX12 yX12_whoSits yX12_whoSits, Cond.code yX12_whoSits cX12_whoSits 5 (some .int), Cond.fieldLink RX12 80 "SetAgainModel" "items" "[J", Cond.methodLink RX12 135 yX12_isSitter, Cond.instanceMethod yX12_isSitter, Cond.selects RX12 yX12_isSitter yX12_isSitter, Cond.code yX12_isSitter cX12_isSitter 3 (some .boolean), Cond.fieldLink RX12 106 "SetAgainModel" "sitters" "I", Cond.methodLink RX12 298 yX12_comes]
def wsX12_judge_r3 : List Cond := [Cond.instanceMethod yX12_comes, Cond.selects RX12 yX12_comes yX12_comes, Cond.code yX12_comes cX12_comes 4 none, Cond.fieldLink RX12 97 "SetAgainModel" "wilfulOf" "I", Cond.fieldLink RX12 292 "SetAgainModel" "wilfulTo" "I", Cond.methodLink RX12 208 yX12_numberOf, Cond.instanceMethod yX12_numberOf, Cond.selects RX12 yX12_numberOf yX12_numberOf, Cond.code yX12_numberOf cX12_numberOf 3 (some .int), Cond.fieldLink RX12 9 "SetAgainModel" "may" "[I", Cond.methodLink RX12 211 yX12_sizeOf, Cond.static yX12_sizeOf, Cond.code yX12_sizeOf cX12_sizeOf 1 (some .int), Cond.methodLink RX12 282 yX12_nearBy, Cond.instanceMethod yX12_nearBy, Cond.selects RX12 yX12_nearBy yX12_nearBy, Cond.code yX12_nearBy cX12_nearBy 2 (some .int), Cond.fieldLink RX12 94 "SetAgainModel" "nearOf" "I", Cond.fieldLink RX12 259 "SetAgainModel" "nearIs" "I", Cond.methodLink RX12 285 yX12_turnsTo, Cond.instanceMethod yX12_turnsTo, Cond.selects RX12 yX12_turnsTo yX12_turnsTo, Cond.code yX12_turnsTo cX12_turnsTo 6 none, Cond.fieldLink RX12 275 "SetAgainModel" "memorySet" "I"]
def wsX12_judge_r4 : List Cond := [Cond.methodLink RX12 266 yX12_priceOf, Cond.instanceMethod yX12_priceOf, Cond.selects RX12 yX12_priceOf yX12_priceOf, Cond.code yX12_priceOf cX12_priceOf 2 (some .int), Cond.fieldLink RX12 262 "SetAgainModel" "isMarked" "Z", Cond.methodLink RX12 278 yX12_isIn, Cond.static yX12_isIn, Cond.code yX12_isIn cX12_isIn 2 (some .boolean), Cond.methodLink RX12 214 yX12_lossOf, Cond.instanceMethod yX12_lossOf, Cond.selects RX12 yX12_lossOf yX12_lossOf, Cond.code yX12_lossOf cX12_lossOf 7 (some .int), Cond.fieldLink RX12 87 "SetAgainModel" "textMany" "I", Cond.fieldLink RX12 31 "SetAgainModel" "names" "[I", Cond.methodLink RX12 205 yX12_workOut, Cond.instanceMethod yX12_workOut, Cond.selects RX12 yX12_workOut yX12_workOut, Cond.code yX12_workOut cX12_workOut 8 (some .int), Cond.fieldLink RX12 165 "SetAgainModel" "base" "I", Cond.fieldLink RX12 159 "SetAgainModel" "at" "I", Cond.fieldLink RX12 162 "SetAgainModel" "ends" "I", Cond.fieldLink RX12 168 "SetAgainModel" "fault" "I", Cond.fieldLink RX12 193 "SetAgainModel" "opened" "I", Cond.methodLink RX12 199 yX12_either]
def wsX12_judge_r5 : List Cond := [Cond.instanceMethod yX12_either, Cond.selects RX12 yX12_either yX12_either, Cond.code yX12_either cX12_either 3 (some .int), Cond.methodLink RX12 175 yX12_both, Cond.instanceMethod yX12_both, Cond.selects RX12 yX12_both yX12_both, Cond.methodLink RX12 178 yX12_takes, Cond.instanceMethod yX12_takes, Cond.selects RX12 yX12_takes yX12_takes, Cond.code yX12_takes cX12_takes 2 (some .boolean), Cond.methodLink RX12 171 yX12_byteAt, Cond.instanceMethod yX12_byteAt, Cond.selects RX12 yX12_byteAt yX12_byteAt, Cond.code yX12_byteAt cX12_byteAt 1 (some .int), Cond.fieldLink RX12 25 "SetAgainModel" "tape" "[I", Cond.fieldLink RX12 28 "SetAgainModel" "text" "[I", Cond.code yX12_both cX12_both 3 (some .int), Cond.methodLink RX12 181 yX12_compared, Cond.instanceMethod yX12_compared, Cond.selects RX12 yX12_compared yX12_compared, Cond.code yX12_compared cX12_compared 4 (some .int), Cond.methodLink RX12 184 yX12_sums, Cond.instanceMethod yX12_sums, Cond.selects RX12 yX12_sums yX12_sums]
def wsX12_judge_r6 : List Cond := [Cond.code yX12_one cX12_one 5 (some .int), Cond.methodLink RX12 196 yX12_wrong, Cond.instanceMethod yX12_wrong, Cond.selects RX12 yX12_wrong yX12_wrong, Cond.code yX12_wrong cX12_wrong 1 (some .int), Cond.methodLink RX12 190 yX12_one, Cond.instanceMethod yX12_one, Cond.selects RX12 yX12_one yX12_one, Cond.methodLink RX12 202 yX12_nameOf, Cond.static yX12_nameOf, Cond.code yX12_nameOf cX12_nameOf 1 (some .int), Cond.code yX12_product cX12_product 4 (some .int), Cond.code yX12_sums cX12_sums 4 (some .int), Cond.methodLink RX12 187 yX12_product, Cond.instanceMethod yX12_product, Cond.selects RX12 yX12_product yX12_product, Cond.methodLink RX12 248 yX12_slipped, Cond.instanceMethod yX12_slipped, Cond.selects RX12 yX12_slipped yX12_slipped, Cond.code yX12_slipped cX12_slipped 4 (some .int), Cond.methodLink RX12 331 yX12_isSeen, Cond.instanceMethod yX12_isSeen, Cond.selects RX12 yX12_isSeen yX12_isSeen, Cond.code yX12_isSeen cX12_isSeen 6 (some .boolean)]
def wsX12_judge_r7 : List Cond := [Cond.constantLong RX12 321 (-1)]
def wsX12_judge : List Cond := .code yX12_judge cX12_judge 4 (some .int) :: ((wsX12_judge_r1 ++ (wsX12_judge_r2 ++ (wsX12_judge_r3 ++ (wsX12_judge_r4 ++ (wsX12_judge_r5 ++ (wsX12_judge_r6 ++ wsX12_judge_r7)))))) ++ wsX120)
def wsX12_drawn_r1 : List Cond := [Cond.constantLong RX12 334 (20), Cond.constant RX12 336 (1103515245), Cond.fieldLink RX12 40 "SetAgainModel" "isIll" "[Z", Cond.methodLink RX12 224 yX12_bytesIs, Cond.instanceMethod yX12_bytesIs, Cond.selects RX12 yX12_bytesIs yX12_bytesIs, Cond.initialized RX12, Cond.code yX12_bytesIs cX12_bytesIs 2 (some .int), Cond.fieldLink RX12 74 "SetAgainModel" "shelf" "[I", Cond.methodLink RX12 127 yX12_isShelf, Cond.static yX12_isShelf, Cond.code yX12_isShelf cX12_isShelf 1 (some .boolean), Cond.constantLong RX12 385 (5), Cond.methodLink RX12 109 yX12_within, Cond.static yX12_within, Cond.code yX12_within cX12_within 6 (some .boolean), Cond.methodLink RX12 218 yX12_shiftsOf, Cond.instanceMethod yX12_shiftsOf, Cond.selects RX12 yX12_shiftsOf yX12_shiftsOf, Cond.code yX12_shiftsOf cX12_shiftsOf 2 (some .int), Cond.fieldLink RX12 77 "SetAgainModel" "many" "[I", Cond.methodLink RX12 221 yX12_whoSits, Cond.instanceMethod yX12_whoSits, Cond.selects RX12 yX12_whoSits yX12_whoSits]
def wsX12_drawn_r2 : List Cond := [Cond.code yX12_whoSits cX12_whoSits 5 (some .int), Cond.fieldLink RX12 80 "SetAgainModel" "items" "[J", Cond.methodLink RX12 135 yX12_isSitter, Cond.instanceMethod yX12_isSitter, Cond.selects RX12 yX12_isSitter yX12_isSitter, Cond.code yX12_isSitter cX12_isSitter 3 (some .boolean), Cond.fieldLink RX12 106 "SetAgainModel" "sitters" "I", Cond.methodLink RX12 208 yX12_numberOf, Cond.instanceMethod yX12_numberOf, Cond.selects RX12 yX12_numberOf yX12_numberOf, Cond.code yX12_numberOf cX12_numberOf 3 (some .int), Cond.fieldLink RX12 9 "SetAgainModel" "may" "[I", Cond.methodLink RX12 302 yX12_weekOf, Cond.instanceMethod yX12_weekOf, Cond.selects RX12 yX12_weekOf yX12_weekOf, Cond.code yX12_weekOf cX12_weekOf 5 (some .int), Cond.fieldLink RX12 47 "SetAgainModel" "standBehind" "[I", Cond.fieldLink RX12 44 "SetAgainModel" "stand1" "[I", Cond.fieldLink RX12 272 "SetAgainModel" "turnCosts" "I", Cond.fieldLink RX12 289 "SetAgainModel" "lossesAll" "I", Cond.methodLink RX12 295 yX12_beginsWeek, Cond.instanceMethod yX12_beginsWeek, Cond.selects RX12 yX12_beginsWeek yX12_beginsWeek, Cond.code yX12_beginsWeek cX12_beginsWeek 2 none]
def wsX12_drawn_r3 : List Cond := [Cond.fieldLink RX12 22 "SetAgainModel" "stands" "[I", Cond.fieldLink RX12 269 "SetAgainModel" "turnsAll" "I", Cond.methodLink RX12 298 yX12_comes, Cond.instanceMethod yX12_comes, Cond.selects RX12 yX12_comes yX12_comes, Cond.code yX12_comes cX12_comes 4 none, Cond.fieldLink RX12 97 "SetAgainModel" "wilfulOf" "I", Cond.fieldLink RX12 292 "SetAgainModel" "wilfulTo" "I", Cond.methodLink RX12 211 yX12_sizeOf, Cond.static yX12_sizeOf, Cond.code yX12_sizeOf cX12_sizeOf 1 (some .int), Cond.methodLink RX12 282 yX12_nearBy, Cond.instanceMethod yX12_nearBy, Cond.selects RX12 yX12_nearBy yX12_nearBy, Cond.code yX12_nearBy cX12_nearBy 2 (some .int), Cond.fieldLink RX12 94 "SetAgainModel" "nearOf" "I", Cond.fieldLink RX12 259 "SetAgainModel" "nearIs" "I", Cond.methodLink RX12 285 yX12_turnsTo, Cond.instanceMethod yX12_turnsTo, Cond.selects RX12 yX12_turnsTo yX12_turnsTo, Cond.code yX12_turnsTo cX12_turnsTo 6 none, Cond.fieldLink RX12 275 "SetAgainModel" "memorySet" "I", Cond.methodLink RX12 266 yX12_priceOf, Cond.instanceMethod yX12_priceOf]
def wsX12_drawn_r4 : List Cond := [Cond.selects RX12 yX12_priceOf yX12_priceOf, Cond.code yX12_priceOf cX12_priceOf 2 (some .int), Cond.fieldLink RX12 262 "SetAgainModel" "isMarked" "Z", Cond.methodLink RX12 278 yX12_isIn, Cond.static yX12_isIn, Cond.code yX12_isIn cX12_isIn 2 (some .boolean), Cond.methodLink RX12 214 yX12_lossOf, Cond.instanceMethod yX12_lossOf, Cond.selects RX12 yX12_lossOf yX12_lossOf, Cond.code yX12_lossOf cX12_lossOf 7 (some .int), Cond.fieldLink RX12 87 "SetAgainModel" "textMany" "I", Cond.fieldLink RX12 31 "SetAgainModel" "names" "[I", Cond.methodLink RX12 205 yX12_workOut, Cond.instanceMethod yX12_workOut, Cond.selects RX12 yX12_workOut yX12_workOut, Cond.code yX12_workOut cX12_workOut 8 (some .int), Cond.fieldLink RX12 165 "SetAgainModel" "base" "I", Cond.fieldLink RX12 159 "SetAgainModel" "at" "I", Cond.fieldLink RX12 162 "SetAgainModel" "ends" "I", Cond.fieldLink RX12 168 "SetAgainModel" "fault" "I", Cond.fieldLink RX12 193 "SetAgainModel" "opened" "I", Cond.methodLink RX12 199 yX12_either, Cond.instanceMethod yX12_either, Cond.selects RX12 yX12_either yX12_either]
def wsX12_drawn_r5 : List Cond := [Cond.code yX12_either cX12_either 3 (some .int), Cond.methodLink RX12 175 yX12_both, Cond.instanceMethod yX12_both, Cond.selects RX12 yX12_both yX12_both, Cond.methodLink RX12 178 yX12_takes, Cond.instanceMethod yX12_takes, Cond.selects RX12 yX12_takes yX12_takes, Cond.code yX12_takes cX12_takes 2 (some .boolean), Cond.methodLink RX12 171 yX12_byteAt, Cond.instanceMethod yX12_byteAt, Cond.selects RX12 yX12_byteAt yX12_byteAt, Cond.code yX12_byteAt cX12_byteAt 1 (some .int), Cond.fieldLink RX12 25 "SetAgainModel" "tape" "[I", Cond.fieldLink RX12 28 "SetAgainModel" "text" "[I", Cond.code yX12_both cX12_both 3 (some .int), Cond.methodLink RX12 181 yX12_compared, Cond.instanceMethod yX12_compared, Cond.selects RX12 yX12_compared yX12_compared, Cond.code yX12_compared cX12_compared 4 (some .int), Cond.methodLink RX12 184 yX12_sums, Cond.instanceMethod yX12_sums, Cond.selects RX12 yX12_sums yX12_sums, Cond.code yX12_one cX12_one 5 (some .int), Cond.methodLink RX12 196 yX12_wrong]
def wsX12_drawn_r6 : List Cond := [Cond.instanceMethod yX12_wrong, Cond.selects RX12 yX12_wrong yX12_wrong, Cond.code yX12_wrong cX12_wrong 1 (some .int), Cond.methodLink RX12 190 yX12_one, Cond.instanceMethod yX12_one, Cond.selects RX12 yX12_one yX12_one, Cond.methodLink RX12 202 yX12_nameOf, Cond.static yX12_nameOf, Cond.code yX12_nameOf cX12_nameOf 1 (some .int), Cond.code yX12_product cX12_product 4 (some .int), Cond.code yX12_sums cX12_sums 4 (some .int), Cond.methodLink RX12 187 yX12_product, Cond.instanceMethod yX12_product, Cond.selects RX12 yX12_product yX12_product, Cond.methodLink RX12 248 yX12_slipped, Cond.instanceMethod yX12_slipped, Cond.selects RX12 yX12_slipped yX12_slipped, Cond.code yX12_slipped cX12_slipped 4 (some .int)]
def wsX12_drawn : List Cond := .code yX12_drawn cX12_drawn 11 (some .int) :: ((wsX12_drawn_r1 ++ (wsX12_drawn_r2 ++ (wsX12_drawn_r3 ++ (wsX12_drawn_r4 ++ (wsX12_drawn_r5 ++ wsX12_drawn_r6))))) ++ wsX120)
def wsX12_sit_r1 : List Cond := [Cond.fieldLink RX12 22 "SetAgainModel" "stands" "[I", Cond.fieldLink RX12 44 "SetAgainModel" "stand1" "[I", Cond.fieldLink RX12 272 "SetAgainModel" "turnCosts" "I", Cond.fieldLink RX12 289 "SetAgainModel" "lossesAll" "I", Cond.fieldLink RX12 337 "SetAgainModel" "ledShifts" "I", Cond.fieldLink RX12 340 "SetAgainModel" "ledTurns" "I", Cond.fieldLink RX12 269 "SetAgainModel" "turnsAll" "I", Cond.fieldLink RX12 343 "SetAgainModel" "ledLosses" "I", Cond.fieldLink RX12 346 "SetAgainModel" "ledDearest" "I", Cond.fieldLink RX12 91 "SetAgainModel" "ledWho" "I", Cond.methodLink RX12 135 yX12_isSitter, Cond.instanceMethod yX12_isSitter, Cond.selects RX12 yX12_isSitter yX12_isSitter, Cond.initialized RX12, Cond.code yX12_isSitter cX12_isSitter 3 (some .boolean), Cond.fieldLink RX12 106 "SetAgainModel" "sitters" "I", Cond.methodLink RX12 109 yX12_within, Cond.static yX12_within, Cond.code yX12_within cX12_within 6 (some .boolean), Cond.methodLink RX12 295 yX12_beginsWeek, Cond.instanceMethod yX12_beginsWeek, Cond.selects RX12 yX12_beginsWeek yX12_beginsWeek, Cond.code yX12_beginsWeek cX12_beginsWeek 2 none, Cond.methodLink RX12 298 yX12_comes]
def wsX12_sit_r2 : List Cond := [Cond.instanceMethod yX12_comes, Cond.selects RX12 yX12_comes yX12_comes, Cond.code yX12_comes cX12_comes 4 none, Cond.fieldLink RX12 97 "SetAgainModel" "wilfulOf" "I", Cond.fieldLink RX12 292 "SetAgainModel" "wilfulTo" "I", Cond.methodLink RX12 208 yX12_numberOf, Cond.instanceMethod yX12_numberOf, Cond.selects RX12 yX12_numberOf yX12_numberOf, Cond.code yX12_numberOf cX12_numberOf 3 (some .int), Cond.fieldLink RX12 9 "SetAgainModel" "may" "[I", Cond.methodLink RX12 211 yX12_sizeOf, Cond.static yX12_sizeOf, Cond.code yX12_sizeOf cX12_sizeOf 1 (some .int), Cond.methodLink RX12 282 yX12_nearBy, Cond.instanceMethod yX12_nearBy, Cond.selects RX12 yX12_nearBy yX12_nearBy, Cond.code yX12_nearBy cX12_nearBy 2 (some .int), Cond.fieldLink RX12 94 "SetAgainModel" "nearOf" "I", Cond.fieldLink RX12 259 "SetAgainModel" "nearIs" "I", Cond.methodLink RX12 285 yX12_turnsTo, Cond.instanceMethod yX12_turnsTo, Cond.selects RX12 yX12_turnsTo yX12_turnsTo, Cond.code yX12_turnsTo cX12_turnsTo 6 none, Cond.fieldLink RX12 275 "SetAgainModel" "memorySet" "I"]
def wsX12_sit_r3 : List Cond := [Cond.methodLink RX12 266 yX12_priceOf, Cond.instanceMethod yX12_priceOf, Cond.selects RX12 yX12_priceOf yX12_priceOf, Cond.code yX12_priceOf cX12_priceOf 2 (some .int), Cond.fieldLink RX12 262 "SetAgainModel" "isMarked" "Z", Cond.methodLink RX12 278 yX12_isIn, Cond.static yX12_isIn, Cond.code yX12_isIn cX12_isIn 2 (some .boolean), Cond.methodLink RX12 214 yX12_lossOf, Cond.instanceMethod yX12_lossOf, Cond.selects RX12 yX12_lossOf yX12_lossOf, Cond.code yX12_lossOf cX12_lossOf 7 (some .int), Cond.fieldLink RX12 87 "SetAgainModel" "textMany" "I", Cond.fieldLink RX12 31 "SetAgainModel" "names" "[I", Cond.methodLink RX12 205 yX12_workOut, Cond.instanceMethod yX12_workOut, Cond.selects RX12 yX12_workOut yX12_workOut, Cond.code yX12_workOut cX12_workOut 8 (some .int), Cond.fieldLink RX12 165 "SetAgainModel" "base" "I", Cond.fieldLink RX12 159 "SetAgainModel" "at" "I", Cond.fieldLink RX12 162 "SetAgainModel" "ends" "I", Cond.fieldLink RX12 168 "SetAgainModel" "fault" "I", Cond.fieldLink RX12 193 "SetAgainModel" "opened" "I", Cond.methodLink RX12 199 yX12_either]
def wsX12_sit_r4 : List Cond := [Cond.instanceMethod yX12_either, Cond.selects RX12 yX12_either yX12_either, Cond.code yX12_either cX12_either 3 (some .int), Cond.methodLink RX12 175 yX12_both, Cond.instanceMethod yX12_both, Cond.selects RX12 yX12_both yX12_both, Cond.methodLink RX12 178 yX12_takes, Cond.instanceMethod yX12_takes, Cond.selects RX12 yX12_takes yX12_takes, Cond.code yX12_takes cX12_takes 2 (some .boolean), Cond.methodLink RX12 171 yX12_byteAt, Cond.instanceMethod yX12_byteAt, Cond.selects RX12 yX12_byteAt yX12_byteAt, Cond.code yX12_byteAt cX12_byteAt 1 (some .int), Cond.fieldLink RX12 25 "SetAgainModel" "tape" "[I", Cond.fieldLink RX12 28 "SetAgainModel" "text" "[I", Cond.code yX12_both cX12_both 3 (some .int), Cond.methodLink RX12 181 yX12_compared, Cond.instanceMethod yX12_compared, Cond.selects RX12 yX12_compared yX12_compared, Cond.code yX12_compared cX12_compared 4 (some .int), Cond.methodLink RX12 184 yX12_sums, Cond.instanceMethod yX12_sums, Cond.selects RX12 yX12_sums yX12_sums]
def wsX12_sit_r5 : List Cond := [Cond.code yX12_one cX12_one 5 (some .int), Cond.methodLink RX12 196 yX12_wrong, Cond.instanceMethod yX12_wrong, Cond.selects RX12 yX12_wrong yX12_wrong, Cond.code yX12_wrong cX12_wrong 1 (some .int), Cond.methodLink RX12 190 yX12_one, Cond.instanceMethod yX12_one, Cond.selects RX12 yX12_one yX12_one, Cond.methodLink RX12 202 yX12_nameOf, Cond.static yX12_nameOf, Cond.code yX12_nameOf cX12_nameOf 1 (some .int), Cond.code yX12_product cX12_product 4 (some .int), Cond.code yX12_sums cX12_sums 4 (some .int), Cond.methodLink RX12 187 yX12_product, Cond.instanceMethod yX12_product, Cond.selects RX12 yX12_product yX12_product]
def wsX12_sit : List Cond := .code yX12_sit cX12_sit 3 (some .int) :: ((wsX12_sit_r1 ++ (wsX12_sit_r2 ++ (wsX12_sit_r3 ++ (wsX12_sit_r4 ++ wsX12_sit_r5)))) ++ wsX120)
def wsX12_set : List Cond := .code yX12_set cX12_set 4 (some .int) :: ([.fieldLink RX12 22 "SetAgainModel" "stands" "[I", .fieldLink RX12 340 "SetAgainModel" "ledTurns" "I", .methodLink RX12 140 yX12_isPart, .static yX12_isPart, .initialized RX12, .code yX12_isPart cX12_isPart 1 (some .boolean), .constantLong RX12 113 (2), .methodLink RX12 109 yX12_within, .static yX12_within, .code yX12_within cX12_within 6 (some .boolean), .methodLink RX12 117 yX12_isSetting, .static yX12_isSetting, .code yX12_isSetting cX12_isSetting 2 (some .boolean), .constantLong RX12 115 (60), .methodLink RX12 211 yX12_sizeOf, .static yX12_sizeOf, .code yX12_sizeOf cX12_sizeOf 1 (some .int)] ++ wsX120)
def wsX12_night : List Cond := .code yX12_night cX12_night 4 (some .int) :: ([.fieldLink RX12 22 "SetAgainModel" "stands" "[I", .methodLink RX12 248 yX12_slipped, .instanceMethod yX12_slipped, .selects RX12 yX12_slipped yX12_slipped, .initialized RX12, .code yX12_slipped cX12_slipped 4 (some .int), .fieldLink RX12 9 "SetAgainModel" "may" "[I"] ++ wsX120)
def wsX12_led : List Cond := .code yX12_led cX12_led 2 (some .int) :: ([.fieldLink RX12 337 "SetAgainModel" "ledShifts" "I", .fieldLink RX12 340 "SetAgainModel" "ledTurns" "I", .fieldLink RX12 343 "SetAgainModel" "ledLosses" "I", .fieldLink RX12 346 "SetAgainModel" "ledDearest" "I", .fieldLink RX12 91 "SetAgainModel" "ledWho" "I"] ++ wsX120)
def wsX12_image : List Cond := .code yX12_image cX12_image 2 (some .int) :: ([.fieldLink RX12 349 "SetAgainModel" "isKept" "Z", .fieldLink RX12 65 "SetAgainModel" "image" "[I", .fieldLink RX12 22 "SetAgainModel" "stands" "[I", .fieldLink RX12 337 "SetAgainModel" "ledShifts" "I", .methodLink RX12 352 yX12_led, .instanceMethod yX12_led, .selects RX12 yX12_led yX12_led, .initialized RX12, .code yX12_led cX12_led 2 (some .int), .fieldLink RX12 340 "SetAgainModel" "ledTurns" "I", .fieldLink RX12 343 "SetAgainModel" "ledLosses" "I", .fieldLink RX12 346 "SetAgainModel" "ledDearest" "I", .fieldLink RX12 91 "SetAgainModel" "ledWho" "I"] ++ wsX120)
def wsX12_back : List Cond := .code yX12_back cX12_back 2 (some .int) :: ([.fieldLink RX12 349 "SetAgainModel" "isKept" "Z", .fieldLink RX12 22 "SetAgainModel" "stands" "[I", .fieldLink RX12 65 "SetAgainModel" "image" "[I", .fieldLink RX12 337 "SetAgainModel" "ledShifts" "I", .fieldLink RX12 340 "SetAgainModel" "ledTurns" "I", .fieldLink RX12 343 "SetAgainModel" "ledLosses" "I", .fieldLink RX12 346 "SetAgainModel" "ledDearest" "I", .fieldLink RX12 91 "SetAgainModel" "ledWho" "I"] ++ wsX120)
def wsX12_isBody : List Cond := .code yX12_isBody cX12_isBody 2 (some .boolean) :: ([.fieldLink RX12 355 "SetAgainModel" "bodies" "I", .methodLink RX12 109 yX12_within, .static yX12_within, .initialized RX12, .code yX12_within cX12_within 6 (some .boolean)] ++ wsX120)
def wsX12_body : List Cond := .code yX12_body cX12_body 2 (some .int) :: ([.constantLong RX12 133 (7), .fieldLink RX12 355 "SetAgainModel" "bodies" "I", .fieldLink RX12 68 "SetAgainModel" "bodyKind" "[I", .methodLink RX12 109 yX12_within, .static yX12_within, .initialized RX12, .code yX12_within cX12_within 6 (some .boolean)] ++ wsX120)
def wsX12_act_r1 : List Cond := [Cond.fieldLink RX12 358 "SetAgainModel" "ran" "I", Cond.fieldLink RX12 68 "SetAgainModel" "bodyKind" "[I", Cond.fieldLink RX12 373 "SetAgainModel" "ownKind" "I", Cond.fieldLink RX12 367 "SetAgainModel" "ownNumber" "I", Cond.methodLink RX12 382 yX12_isBody, Cond.instanceMethod yX12_isBody, Cond.selects RX12 yX12_isBody yX12_isBody, Cond.initialized RX12, Cond.code yX12_isBody cX12_isBody 2 (some .boolean), Cond.fieldLink RX12 355 "SetAgainModel" "bodies" "I", Cond.methodLink RX12 109 yX12_within, Cond.static yX12_within, Cond.code yX12_within cX12_within 6 (some .boolean), Cond.methodLink RX12 364 yX12_setsAs, Cond.instanceMethod yX12_setsAs, Cond.selects RX12 yX12_setsAs yX12_setsAs, Cond.code yX12_setsAs cX12_setsAs 3 (some .int), Cond.methodLink RX12 361 yX12_begins, Cond.instanceMethod yX12_begins, Cond.selects RX12 yX12_begins yX12_begins, Cond.code yX12_begins cX12_begins 2 none, Cond.fieldLink RX12 71 "SetAgainModel" "trace" "[I", Cond.methodLink RX12 370 yX12_sitsAs, Cond.instanceMethod yX12_sitsAs]
def wsX12_act_r2 : List Cond := [Cond.selects RX12 yX12_sitsAs yX12_sitsAs, Cond.code yX12_sitsAs cX12_sitsAs 4 (some .int), Cond.methodLink RX12 376 yX12_slipsAs, Cond.instanceMethod yX12_slipsAs, Cond.selects RX12 yX12_slipsAs yX12_slipsAs, Cond.code yX12_slipsAs cX12_slipsAs 4 (some .int), Cond.methodLink RX12 379 yX12_tellsAs, Cond.instanceMethod yX12_tellsAs, Cond.selects RX12 yX12_tellsAs yX12_tellsAs, Cond.code yX12_tellsAs cX12_tellsAs 4 (some .int)]
def wsX12_act : List Cond := .code yX12_act cX12_act 4 (some .int) :: ((wsX12_act_r1 ++ wsX12_act_r2) ++ wsX120)
def wsX12_trace : List Cond := .code yX12_trace cX12_trace 2 (some .int) :: ([.fieldLink RX12 358 "SetAgainModel" "ran" "I", .fieldLink RX12 71 "SetAgainModel" "trace" "[I"] ++ wsX120)
def wsX12_keep : List Cond := .code yX12_keep cX12_keep 3 (some .int) :: ([.fieldLink RX12 74 "SetAgainModel" "shelf" "[I", .fieldLink RX12 77 "SetAgainModel" "many" "[I", .methodLink RX12 127 yX12_isShelf, .static yX12_isShelf, .initialized RX12, .code yX12_isShelf cX12_isShelf 1 (some .boolean), .constantLong RX12 385 (5), .methodLink RX12 109 yX12_within, .static yX12_within, .code yX12_within cX12_within 6 (some .boolean), .methodLink RX12 382 yX12_isBody, .instanceMethod yX12_isBody, .selects RX12 yX12_isBody yX12_isBody, .code yX12_isBody cX12_isBody 2 (some .boolean), .fieldLink RX12 355 "SetAgainModel" "bodies" "I"] ++ wsX120)
def wsX12_row : List Cond := .code yX12_row cX12_row 5 (some .int) :: ([.constantLong RX12 387 (4), .fieldLink RX12 74 "SetAgainModel" "shelf" "[I", .fieldLink RX12 77 "SetAgainModel" "many" "[I", .fieldLink RX12 80 "SetAgainModel" "items" "[J", .methodLink RX12 127 yX12_isShelf, .static yX12_isShelf, .initialized RX12, .code yX12_isShelf cX12_isShelf 1 (some .boolean), .constantLong RX12 385 (5), .methodLink RX12 109 yX12_within, .static yX12_within, .code yX12_within cX12_within 6 (some .boolean)] ++ wsX120)
def wsX12_refusal : List Cond := .code yX12_refusal cX12_refusal 3 (some .int) :: ([.fieldLink RX12 74 "SetAgainModel" "shelf" "[I", .fieldLink RX12 77 "SetAgainModel" "many" "[I", .methodLink RX12 127 yX12_isShelf, .static yX12_isShelf, .initialized RX12, .code yX12_isShelf cX12_isShelf 1 (some .boolean), .constantLong RX12 385 (5), .methodLink RX12 109 yX12_within, .static yX12_within, .code yX12_within cX12_within 6 (some .boolean)] ++ wsX120)
def wsX12_put : List Cond := .code yX12_put cX12_put 6 (some .int) :: ([.fieldLink RX12 80 "SetAgainModel" "items" "[J", .fieldLink RX12 74 "SetAgainModel" "shelf" "[I", .methodLink RX12 389 yX12_refusal, .instanceMethod yX12_refusal, .selects RX12 yX12_refusal yX12_refusal, .initialized RX12, .code yX12_refusal cX12_refusal 3 (some .int), .fieldLink RX12 77 "SetAgainModel" "many" "[I", .methodLink RX12 127 yX12_isShelf, .static yX12_isShelf, .code yX12_isShelf cX12_isShelf 1 (some .boolean), .constantLong RX12 385 (5), .methodLink RX12 109 yX12_within, .static yX12_within, .code yX12_within cX12_within 6 (some .boolean), .methodLink RX12 392 yX12_asSort, .static yX12_asSort, .code yX12_asSort cX12_asSort 3 (some .long)] ++ wsX120)
def wsX12_element : List Cond := .code yX12_element cX12_element 3 (some .long) :: ([.constantLong RX12 398 (-9223372036854775808), .fieldLink RX12 80 "SetAgainModel" "items" "[J", .methodLink RX12 389 yX12_refusal, .instanceMethod yX12_refusal, .selects RX12 yX12_refusal yX12_refusal, .initialized RX12, .code yX12_refusal cX12_refusal 3 (some .int), .fieldLink RX12 74 "SetAgainModel" "shelf" "[I", .fieldLink RX12 77 "SetAgainModel" "many" "[I", .methodLink RX12 127 yX12_isShelf, .static yX12_isShelf, .code yX12_isShelf cX12_isShelf 1 (some .boolean), .constantLong RX12 385 (5), .methodLink RX12 109 yX12_within, .static yX12_within, .code yX12_within cX12_within 6 (some .boolean)] ++ wsX120)
def wsX12_shift : List Cond := .code yX12_shift cX12_shift 7 (some .int) :: ([.fieldLink RX12 74 "SetAgainModel" "shelf" "[I", .fieldLink RX12 77 "SetAgainModel" "many" "[I", .fieldLink RX12 84 "SetAgainModel" "carried" "[J", .fieldLink RX12 80 "SetAgainModel" "items" "[J", .methodLink RX12 127 yX12_isShelf, .static yX12_isShelf, .initialized RX12, .code yX12_isShelf cX12_isShelf 1 (some .boolean), .constantLong RX12 385 (5), .methodLink RX12 109 yX12_within, .static yX12_within, .code yX12_within cX12_within 6 (some .boolean)] ++ wsX120)
def wsX12_taken : List Cond := .code yX12_taken cX12_taken 4 (some .int) :: ([.constantLong RX12 133 (7), .fieldLink RX12 74 "SetAgainModel" "shelf" "[I", .methodLink RX12 127 yX12_isShelf, .static yX12_isShelf, .initialized RX12, .code yX12_isShelf cX12_isShelf 1 (some .boolean), .constantLong RX12 385 (5), .methodLink RX12 109 yX12_within, .static yX12_within, .code yX12_within cX12_within 6 (some .boolean), .methodLink RX12 400 yX12_kindOf, .instanceMethod yX12_kindOf, .selects RX12 yX12_kindOf yX12_kindOf, .code yX12_kindOf cX12_kindOf 2 (some .int), .fieldLink RX12 68 "SetAgainModel" "bodyKind" "[I", .methodLink RX12 403 yX12_above, .static yX12_above, .code yX12_above cX12_above 1 (some .int)] ++ wsX120)
def wsX12_count : List Cond := .code yX12_count cX12_count 2 (some .int) :: ([.fieldLink RX12 106 "SetAgainModel" "sitters" "I", .fieldLink RX12 156 "SetAgainModel" "tapeMany" "I", .fieldLink RX12 100 "SetAgainModel" "done" "I", .fieldLink RX12 355 "SetAgainModel" "bodies" "I", .fieldLink RX12 358 "SetAgainModel" "ran" "I"] ++ wsX120)
set_option maxRecDepth 20000 in
theorem ggX0_init_X5_init : GoodIn wsX0_init wsX5_init := goodIn_r _ [13, 14, 2, 3, 4, 15, 16, 17, 18, 24, 25, 26, 27, 28, 29, 30, 31, 32, 33] (by decide +kernel) (by decide +kernel)
set_option maxRecDepth 20000 in
theorem gX0_init_X5_init_n20 : GoodIn wsX0_init (wsX5_init) := ggX0_init_X5_init
theorem dX0_init_0 : decode cX0_init 0 = .ok (.aload_n 0, 1) := by decide +kernel
theorem dX0_init_1 : decode cX0_init 1 = .ok (.invokespecial 5, 3) := by decide +kernel
theorem dX0_init_4 : decode cX0_init 4 = .ok (.aload_n 0, 1) := by decide +kernel
theorem dX0_init_5 : decode cX0_init 5 = .ok (.bipush 71, 2) := by decide +kernel
theorem dX0_init_7 : decode cX0_init 7 = .ok (.newarray .int, 2) := by decide +kernel
theorem dX0_init_9 : decode cX0_init 9 = .ok (.putfield 11, 3) := by decide +kernel
theorem dX0_init_12 : decode cX0_init 12 = .ok (.aload_n 0, 1) := by decide +kernel
theorem dX0_init_13 : decode cX0_init 13 = .ok (.iconst 3, 1) := by decide +kernel
theorem dX0_init_14 : decode cX0_init 14 = .ok (.newarray .int, 2) := by decide +kernel
theorem dX0_init_16 : decode cX0_init 16 = .ok (.putfield 15, 3) := by decide +kernel
theorem dX0_init_19 : decode cX0_init 19 = .ok (.aload_n 0, 1) := by decide +kernel
theorem dX0_init_20 : decode cX0_init 20 = .ok (.new 18, 3) := by decide +kernel
theorem dX0_init_23 : decode cX0_init 23 = .ok (.dup, 1) := by decide +kernel
theorem dX0_init_24 : decode cX0_init 24 = .ok (.invokespecial 20, 3) := by decide +kernel
theorem dX0_init_27 : decode cX0_init 27 = .ok (.putfield 21, 3) := by decide +kernel
theorem dX0_init_30 : decode cX0_init 30 = .ok (.aload_n 0, 1) := by decide +kernel
theorem dX0_init_31 : decode cX0_init 31 = .ok (.sipush 1464, 3) := by decide +kernel
theorem dX0_init_34 : decode cX0_init 34 = .ok (.newarray .int, 2) := by decide +kernel
theorem dX0_init_36 : decode cX0_init 36 = .ok (.putfield 25, 3) := by decide +kernel
theorem dX0_init_39 : decode cX0_init 39 = .ok (.iconst 0, 1) := by decide +kernel
theorem dX0_init_40 : decode cX0_init 40 = .ok (.istore_n 1, 1) := by decide +kernel
theorem dX0_init_41 : decode cX0_init 41 = .ok (.iload_n 1, 1) := by decide +kernel
theorem dX0_init_42 : decode cX0_init 42 = .ok (.iconst 3, 1) := by decide +kernel
theorem dX0_init_43 : decode cX0_init 43 = .ok (.if_icmp .ge 27, 3) := by decide +kernel
theorem dX0_init_46 : decode cX0_init 46 = .ok (.aload_n 0, 1) := by decide +kernel
theorem dX0_init_47 : decode cX0_init 47 = .ok (.getfield 15, 3) := by decide +kernel
theorem dX0_init_50 : decode cX0_init 50 = .ok (.iload_n 1, 1) := by decide +kernel
theorem dX0_init_51 : decode cX0_init 51 = .ok (.bipush 30, 2) := by decide +kernel
theorem dX0_init_53 : decode cX0_init 53 = .ok (.iastore, 1) := by decide +kernel
theorem dX0_init_54 : decode cX0_init 54 = .ok (.aload_n 0, 1) := by decide +kernel
theorem dX0_init_55 : decode cX0_init 55 = .ok (.getfield 11, 3) := by decide +kernel
theorem dX0_init_58 : decode cX0_init 58 = .ok (.bipush 67, 2) := by decide +kernel
theorem dX0_init_60 : decode cX0_init 60 = .ok (.iload_n 1, 1) := by decide +kernel
theorem dX0_init_61 : decode cX0_init 61 = .ok (.iadd, 1) := by decide +kernel
theorem dX0_init_62 : decode cX0_init 62 = .ok (.iconst 1, 1) := by decide +kernel
theorem dX0_init_63 : decode cX0_init 63 = .ok (.iastore, 1) := by decide +kernel
theorem dX0_init_64 : decode cX0_init 64 = .ok (.iinc 1 1, 3) := by decide +kernel
theorem dX0_init_67 : decode cX0_init 67 = .ok (.goto (-26), 3) := by decide +kernel
theorem dX0_init_70 : decode cX0_init 70 = .ok (.aload_n 0, 1) := by decide +kernel
theorem dX0_init_71 : decode cX0_init 71 = .ok (.getfield 11, 3) := by decide +kernel
theorem dX0_init_74 : decode cX0_init 74 = .ok (.bipush 70, 2) := by decide +kernel
theorem dX0_init_76 : decode cX0_init 76 = .ok (.iconst 3, 1) := by decide +kernel
theorem dX0_init_77 : decode cX0_init 77 = .ok (.iastore, 1) := by decide +kernel
theorem dX0_init_78 : decode cX0_init 78 = .ok (.return_, 1) := by decide +kernel
theorem dX0_has_0 : decode cX0_has 0 = .ok (.iload_n 1, 1) := by decide +kernel
theorem dX0_has_1 : decode cX0_has 1 = .ok (.ifCond .lt 15, 3) := by decide +kernel
theorem dX0_has_4 : decode cX0_has 4 = .ok (.iload_n 1, 1) := by decide +kernel
theorem dX0_has_5 : decode cX0_has 5 = .ok (.aload_n 0, 1) := by decide +kernel
theorem dX0_has_6 : decode cX0_has 6 = .ok (.getfield 28, 3) := by decide +kernel
theorem dX0_has_9 : decode cX0_has 9 = .ok (.if_icmp .ge 7, 3) := by decide +kernel
theorem dX0_has_16 : decode cX0_has 16 = .ok (.iconst 0, 1) := by decide +kernel
theorem dX0_has_17 : decode cX0_has 17 = .ok (.ireturn, 1) := by decide +kernel
theorem dX0_placeOf_0 : decode cX0_placeOf 0 = .ok (.iload_n 1, 1) := by decide +kernel
theorem dX0_placeOf_1 : decode cX0_placeOf 1 = .ok (.ifCond .lt 13, 3) := by decide +kernel
theorem dX0_placeOf_4 : decode cX0_placeOf 4 = .ok (.iload_n 2, 1) := by decide +kernel
theorem dX0_placeOf_5 : decode cX0_placeOf 5 = .ok (.ifCond .lt 9, 3) := by decide +kernel
theorem dX0_placeOf_8 : decode cX0_placeOf 8 = .ok (.iload_n 2, 1) := by decide +kernel
theorem dX0_placeOf_9 : decode cX0_placeOf 9 = .ok (.bipush 10, 2) := by decide +kernel
theorem dX0_placeOf_11 : decode cX0_placeOf 11 = .ok (.if_icmp .le 5, 3) := by decide +kernel
theorem dX0_placeOf_14 : decode cX0_placeOf 14 = .ok (.iconst (-1), 1) := by decide +kernel
theorem dX0_placeOf_15 : decode cX0_placeOf 15 = .ok (.ireturn, 1) := by decide +kernel
theorem dX0_placeOf_16 : decode cX0_placeOf 16 = .ok (.iload_n 2, 1) := by decide +kernel
theorem dX0_placeOf_17 : decode cX0_placeOf 17 = .ok (.bipush 8, 2) := by decide +kernel
theorem dX0_placeOf_19 : decode cX0_placeOf 19 = .ok (.if_icmp .ge 22, 3) := by decide +kernel
theorem dX0_placeOf_22 : decode cX0_placeOf 22 = .ok (.iload_n 1, 1) := by decide +kernel
theorem dX0_placeOf_23 : decode cX0_placeOf 23 = .ok (.aload_n 0, 1) := by decide +kernel
theorem dX0_placeOf_24 : decode cX0_placeOf 24 = .ok (.getfield 28, 3) := by decide +kernel
theorem dX0_placeOf_27 : decode cX0_placeOf 27 = .ok (.if_icmp .ge 12, 3) := by decide +kernel
theorem dX0_placeOf_39 : decode cX0_placeOf 39 = .ok (.iconst (-1), 1) := by decide +kernel
theorem dX0_placeOf_40 : decode cX0_placeOf 40 = .ok (.ireturn, 1) := by decide +kernel
theorem dX0_placeOf_41 : decode cX0_placeOf 41 = .ok (.iload_n 2, 1) := by decide +kernel
theorem dX0_placeOf_42 : decode cX0_placeOf 42 = .ok (.bipush 10, 2) := by decide +kernel
theorem dX0_placeOf_44 : decode cX0_placeOf 44 = .ok (.if_icmp .ne 14, 3) := by decide +kernel
theorem dX0_placeOf_47 : decode cX0_placeOf 47 = .ok (.iload_n 1, 1) := by decide +kernel
theorem dX0_placeOf_48 : decode cX0_placeOf 48 = .ok (.ifCond .ne 8, 3) := by decide +kernel
theorem dX0_placeOf_51 : decode cX0_placeOf 51 = .ok (.bipush 70, 2) := by decide +kernel
theorem dX0_placeOf_53 : decode cX0_placeOf 53 = .ok (.goto 4, 3) := by decide +kernel
theorem dX0_placeOf_56 : decode cX0_placeOf 56 = .ok (.iconst (-1), 1) := by decide +kernel
theorem dX0_placeOf_57 : decode cX0_placeOf 57 = .ok (.ireturn, 1) := by decide +kernel
theorem dX0_placeOf_58 : decode cX0_placeOf 58 = .ok (.iload_n 1, 1) := by decide +kernel
theorem dX0_placeOf_59 : decode cX0_placeOf 59 = .ok (.iconst 3, 1) := by decide +kernel
theorem dX0_placeOf_60 : decode cX0_placeOf 60 = .ok (.if_icmp .lt 5, 3) := by decide +kernel
theorem dX0_placeOf_63 : decode cX0_placeOf 63 = .ok (.iconst (-1), 1) := by decide +kernel
theorem dX0_placeOf_64 : decode cX0_placeOf 64 = .ok (.ireturn, 1) := by decide +kernel
theorem dX0_placeOf_65 : decode cX0_placeOf 65 = .ok (.iload_n 2, 1) := by decide +kernel
theorem dX0_placeOf_66 : decode cX0_placeOf 66 = .ok (.bipush 9, 2) := by decide +kernel
theorem dX0_placeOf_68 : decode cX0_placeOf 68 = .ok (.if_icmp .ne 8, 3) := by decide +kernel
theorem dX0_placeOf_71 : decode cX0_placeOf 71 = .ok (.bipush 67, 2) := by decide +kernel
theorem dX0_placeOf_73 : decode cX0_placeOf 73 = .ok (.goto 5, 3) := by decide +kernel
theorem dX0_placeOf_76 : decode cX0_placeOf 76 = .ok (.bipush 64, 2) := by decide +kernel
theorem dX0_placeOf_78 : decode cX0_placeOf 78 = .ok (.iload_n 1, 1) := by decide +kernel
theorem dX0_placeOf_79 : decode cX0_placeOf 79 = .ok (.iadd, 1) := by decide +kernel
theorem dX0_placeOf_80 : decode cX0_placeOf 80 = .ok (.ireturn, 1) := by decide +kernel
set_option maxRecDepth 20000 in
theorem ggX0_comes_X0_forget : GoodIn wsX0_comes wsX0_forget := goodIn_r _ [7, 8, 9, 10, 11, 12, 13] (by decide +kernel) (by decide +kernel)
set_option maxRecDepth 20000 in
theorem gX0_comes_X0_forget : GoodIn wsX0_comes (wsV RX0 32 RX0 yX0_forget wsX0_forget) := goodIn_app (goodIn_of _ (by decide +kernel)) ggX0_comes_X0_forget
theorem dX0_comes_0 : decode cX0_comes 0 = .ok (.aload_n 0, 1) := by decide +kernel
theorem dX0_comes_1 : decode cX0_comes 1 = .ok (.getfield 28, 3) := by decide +kernel
theorem dX0_comes_4 : decode cX0_comes 4 = .ok (.bipush 8, 2) := by decide +kernel
theorem dX0_comes_6 : decode cX0_comes 6 = .ok (.if_icmp .lt 6, 3) := by decide +kernel
theorem dX0_comes_12 : decode cX0_comes 12 = .ok (.aload_n 0, 1) := by decide +kernel
theorem dX0_comes_13 : decode cX0_comes 13 = .ok (.getfield 28, 3) := by decide +kernel
theorem dX0_comes_16 : decode cX0_comes 16 = .ok (.bipush 8, 2) := by decide +kernel
theorem dX0_comes_18 : decode cX0_comes 18 = .ok (.imul, 1) := by decide +kernel
theorem dX0_comes_19 : decode cX0_comes 19 = .ok (.istore 5, 2) := by decide +kernel
theorem dX0_comes_21 : decode cX0_comes 21 = .ok (.aload_n 0, 1) := by decide +kernel
theorem dX0_comes_22 : decode cX0_comes 22 = .ok (.getfield 11, 3) := by decide +kernel
theorem dX0_comes_25 : decode cX0_comes 25 = .ok (.iload 5, 2) := by decide +kernel
theorem dX0_comes_27 : decode cX0_comes 27 = .ok (.iload_n 1, 1) := by decide +kernel
theorem dX0_comes_28 : decode cX0_comes 28 = .ok (.iastore, 1) := by decide +kernel
theorem dX0_comes_29 : decode cX0_comes 29 = .ok (.aload_n 0, 1) := by decide +kernel
theorem dX0_comes_30 : decode cX0_comes 30 = .ok (.getfield 11, 3) := by decide +kernel
theorem dX0_comes_33 : decode cX0_comes 33 = .ok (.iload 5, 2) := by decide +kernel
theorem dX0_comes_35 : decode cX0_comes 35 = .ok (.iconst 1, 1) := by decide +kernel
theorem dX0_comes_36 : decode cX0_comes 36 = .ok (.iadd, 1) := by decide +kernel
theorem dX0_comes_37 : decode cX0_comes 37 = .ok (.iload_n 2, 1) := by decide +kernel
theorem dX0_comes_38 : decode cX0_comes 38 = .ok (.iastore, 1) := by decide +kernel
theorem dX0_comes_39 : decode cX0_comes 39 = .ok (.aload_n 0, 1) := by decide +kernel
theorem dX0_comes_40 : decode cX0_comes 40 = .ok (.getfield 11, 3) := by decide +kernel
theorem dX0_comes_43 : decode cX0_comes 43 = .ok (.iload 5, 2) := by decide +kernel
theorem dX0_comes_45 : decode cX0_comes 45 = .ok (.iconst 2, 1) := by decide +kernel
theorem dX0_comes_46 : decode cX0_comes 46 = .ok (.iadd, 1) := by decide +kernel
theorem dX0_comes_47 : decode cX0_comes 47 = .ok (.iload_n 3, 1) := by decide +kernel
theorem dX0_comes_48 : decode cX0_comes 48 = .ok (.iastore, 1) := by decide +kernel
theorem dX0_comes_49 : decode cX0_comes 49 = .ok (.aload_n 0, 1) := by decide +kernel
theorem dX0_comes_50 : decode cX0_comes 50 = .ok (.getfield 11, 3) := by decide +kernel
theorem dX0_comes_53 : decode cX0_comes 53 = .ok (.iload 5, 2) := by decide +kernel
theorem dX0_comes_55 : decode cX0_comes 55 = .ok (.iconst 3, 1) := by decide +kernel
theorem dX0_comes_56 : decode cX0_comes 56 = .ok (.iadd, 1) := by decide +kernel
theorem dX0_comes_57 : decode cX0_comes 57 = .ok (.iconst 1, 1) := by decide +kernel
theorem dX0_comes_58 : decode cX0_comes 58 = .ok (.iastore, 1) := by decide +kernel
theorem dX0_comes_59 : decode cX0_comes 59 = .ok (.aload_n 0, 1) := by decide +kernel
theorem dX0_comes_60 : decode cX0_comes 60 = .ok (.getfield 11, 3) := by decide +kernel
theorem dX0_comes_63 : decode cX0_comes 63 = .ok (.iload 5, 2) := by decide +kernel
theorem dX0_comes_65 : decode cX0_comes 65 = .ok (.iconst 4, 1) := by decide +kernel
theorem dX0_comes_66 : decode cX0_comes 66 = .ok (.iadd, 1) := by decide +kernel
theorem dX0_comes_67 : decode cX0_comes 67 = .ok (.iconst 1, 1) := by decide +kernel
theorem dX0_comes_68 : decode cX0_comes 68 = .ok (.iastore, 1) := by decide +kernel
theorem dX0_comes_69 : decode cX0_comes 69 = .ok (.aload_n 0, 1) := by decide +kernel
theorem dX0_comes_70 : decode cX0_comes 70 = .ok (.getfield 11, 3) := by decide +kernel
theorem dX0_comes_73 : decode cX0_comes 73 = .ok (.iload 5, 2) := by decide +kernel
theorem dX0_comes_75 : decode cX0_comes 75 = .ok (.iconst 5, 1) := by decide +kernel
theorem dX0_comes_76 : decode cX0_comes 76 = .ok (.iadd, 1) := by decide +kernel
theorem dX0_comes_77 : decode cX0_comes 77 = .ok (.iload 4, 2) := by decide +kernel
theorem dX0_comes_79 : decode cX0_comes 79 = .ok (.iastore, 1) := by decide +kernel
theorem dX0_comes_80 : decode cX0_comes 80 = .ok (.aload_n 0, 1) := by decide +kernel
theorem dX0_comes_81 : decode cX0_comes 81 = .ok (.aload_n 0, 1) := by decide +kernel
theorem dX0_comes_82 : decode cX0_comes 82 = .ok (.getfield 28, 3) := by decide +kernel
theorem dX0_comes_85 : decode cX0_comes 85 = .ok (.invokevirtual 32, 3) := by decide +kernel
theorem dX0_comes_88 : decode cX0_comes 88 = .ok (.aload_n 0, 1) := by decide +kernel
theorem dX0_comes_89 : decode cX0_comes 89 = .ok (.dup, 1) := by decide +kernel
theorem dX0_comes_90 : decode cX0_comes 90 = .ok (.getfield 28, 3) := by decide +kernel
theorem dX0_comes_93 : decode cX0_comes 93 = .ok (.iconst 1, 1) := by decide +kernel
theorem dX0_comes_94 : decode cX0_comes 94 = .ok (.iadd, 1) := by decide +kernel
theorem dX0_comes_95 : decode cX0_comes 95 = .ok (.putfield 28, 3) := by decide +kernel
theorem dX0_comes_98 : decode cX0_comes 98 = .ok (.aload_n 0, 1) := by decide +kernel
theorem dX0_comes_99 : decode cX0_comes 99 = .ok (.getfield 28, 3) := by decide +kernel
theorem dX0_comes_102 : decode cX0_comes 102 = .ok (.iconst 1, 1) := by decide +kernel
theorem dX0_comes_103 : decode cX0_comes 103 = .ok (.isub, 1) := by decide +kernel
theorem dX0_comes_104 : decode cX0_comes 104 = .ok (.ireturn, 1) := by decide +kernel
theorem dX0_becomes_0 : decode cX0_becomes 0 = .ok (.iload_n 1, 1) := by decide +kernel
theorem dX0_becomes_1 : decode cX0_becomes 1 = .ok (.ifCond .lt 9, 3) := by decide +kernel
theorem dX0_becomes_4 : decode cX0_becomes 4 = .ok (.iload_n 1, 1) := by decide +kernel
theorem dX0_becomes_5 : decode cX0_becomes 5 = .ok (.bipush 70, 2) := by decide +kernel
theorem dX0_becomes_7 : decode cX0_becomes 7 = .ok (.if_icmp .le 4, 3) := by decide +kernel
theorem dX0_becomes_11 : decode cX0_becomes 11 = .ok (.aload_n 0, 1) := by decide +kernel
theorem dX0_becomes_12 : decode cX0_becomes 12 = .ok (.getfield 11, 3) := by decide +kernel
theorem dX0_becomes_15 : decode cX0_becomes 15 = .ok (.iload_n 1, 1) := by decide +kernel
theorem dX0_becomes_16 : decode cX0_becomes 16 = .ok (.iload_n 2, 1) := by decide +kernel
theorem dX0_becomes_17 : decode cX0_becomes 17 = .ok (.iastore, 1) := by decide +kernel
theorem dX0_becomes_18 : decode cX0_becomes 18 = .ok (.iload_n 1, 1) := by decide +kernel
theorem dX0_becomes_19 : decode cX0_becomes 19 = .ok (.bipush 64, 2) := by decide +kernel
theorem dX0_becomes_21 : decode cX0_becomes 21 = .ok (.if_icmp .ge 11, 3) := by decide +kernel
theorem dX0_becomes_32 : decode cX0_becomes 32 = .ok (.return_, 1) := by decide +kernel
theorem dX0_slipped_0 : decode cX0_slipped 0 = .ok (.iconst 0, 1) := by decide +kernel
theorem dX0_slipped_1 : decode cX0_slipped 1 = .ok (.iload_n 2, 1) := by decide +kernel
theorem dX0_slipped_2 : decode cX0_slipped 2 = .ok (.aload_n 0, 1) := by decide +kernel
theorem dX0_slipped_3 : decode cX0_slipped 3 = .ok (.getfield 11, 3) := by decide +kernel
theorem dX0_slipped_6 : decode cX0_slipped 6 = .ok (.bipush 64, 2) := by decide +kernel
theorem dX0_slipped_8 : decode cX0_slipped 8 = .ok (.iload_n 1, 1) := by decide +kernel
theorem dX0_slipped_9 : decode cX0_slipped 9 = .ok (.iadd, 1) := by decide +kernel
theorem dX0_slipped_10 : decode cX0_slipped 10 = .ok (.iaload, 1) := by decide +kernel
theorem dX0_slipped_11 : decode cX0_slipped 11 = .ok (.isub, 1) := by decide +kernel
theorem dX0_slipped_12 : decode cX0_slipped 12 = .ok (.invokestatic 36, 3) := by decide +kernel
theorem dX0_slipped_15 : decode cX0_slipped 15 = .ok (.ireturn, 1) := by decide +kernel
theorem dX0_forget_0 : decode cX0_forget 0 = .ok (.iload_n 1, 1) := by decide +kernel
theorem dX0_forget_1 : decode cX0_forget 1 = .ok (.iconst 1, 1) := by decide +kernel
theorem dX0_forget_2 : decode cX0_forget 2 = .ok (.iadd, 1) := by decide +kernel
theorem dX0_forget_3 : decode cX0_forget 3 = .ok (.sipush 183, 3) := by decide +kernel
theorem dX0_forget_6 : decode cX0_forget 6 = .ok (.imul, 1) := by decide +kernel
theorem dX0_forget_7 : decode cX0_forget 7 = .ok (.istore_n 2, 1) := by decide +kernel
theorem dX0_forget_8 : decode cX0_forget 8 = .ok (.iload_n 1, 1) := by decide +kernel
theorem dX0_forget_9 : decode cX0_forget 9 = .ok (.sipush 183, 3) := by decide +kernel
theorem dX0_forget_12 : decode cX0_forget 12 = .ok (.imul, 1) := by decide +kernel
theorem dX0_forget_13 : decode cX0_forget 13 = .ok (.istore_n 3, 1) := by decide +kernel
theorem dX0_forget_14 : decode cX0_forget 14 = .ok (.iload_n 3, 1) := by decide +kernel
theorem dX0_forget_15 : decode cX0_forget 15 = .ok (.iload_n 2, 1) := by decide +kernel
theorem dX0_forget_16 : decode cX0_forget 16 = .ok (.if_icmp .ge 16, 3) := by decide +kernel
theorem dX0_forget_19 : decode cX0_forget 19 = .ok (.aload_n 0, 1) := by decide +kernel
theorem dX0_forget_20 : decode cX0_forget 20 = .ok (.getfield 25, 3) := by decide +kernel
theorem dX0_forget_23 : decode cX0_forget 23 = .ok (.iload_n 3, 1) := by decide +kernel
theorem dX0_forget_24 : decode cX0_forget 24 = .ok (.iconst (-1), 1) := by decide +kernel
theorem dX0_forget_25 : decode cX0_forget 25 = .ok (.iastore, 1) := by decide +kernel
theorem dX0_forget_26 : decode cX0_forget 26 = .ok (.iinc 3 1, 3) := by decide +kernel
theorem dX0_forget_29 : decode cX0_forget 29 = .ok (.goto (-15), 3) := by decide +kernel
theorem dX0_forget_32 : decode cX0_forget 32 = .ok (.return_, 1) := by decide +kernel
theorem dX1_init_0 : decode cX1_init 0 = .ok (.aload_n 0, 1) := by decide +kernel
theorem dX1_init_1 : decode cX1_init 1 = .ok (.invokespecial 1, 3) := by decide +kernel
theorem dX1_init_4 : decode cX1_init 4 = .ok (.aload_n 0, 1) := by decide +kernel
theorem dX1_init_5 : decode cX1_init 5 = .ok (.bipush 40, 2) := by decide +kernel
theorem dX1_init_7 : decode cX1_init 7 = .ok (.newarray .int, 2) := by decide +kernel
theorem dX1_init_9 : decode cX1_init 9 = .ok (.putfield 9, 3) := by decide +kernel
theorem dX1_init_12 : decode cX1_init 12 = .ok (.aload_n 0, 1) := by decide +kernel
theorem dX1_init_13 : decode cX1_init 13 = .ok (.bipush 40, 2) := by decide +kernel
theorem dX1_init_15 : decode cX1_init 15 = .ok (.newarray .int, 2) := by decide +kernel
theorem dX1_init_17 : decode cX1_init 17 = .ok (.putfield 13, 3) := by decide +kernel
theorem dX1_init_20 : decode cX1_init 20 = .ok (.aload_n 0, 1) := by decide +kernel
theorem dX1_init_21 : decode cX1_init 21 = .ok (.bipush 40, 2) := by decide +kernel
theorem dX1_init_23 : decode cX1_init 23 = .ok (.newarray .int, 2) := by decide +kernel
theorem dX1_init_25 : decode cX1_init 25 = .ok (.putfield 16, 3) := by decide +kernel
theorem dX1_init_28 : decode cX1_init 28 = .ok (.return_, 1) := by decide +kernel
theorem dX1_comes_0 : decode cX1_comes 0 = .ok (.aload_n 0, 1) := by decide +kernel
theorem dX1_comes_1 : decode cX1_comes 1 = .ok (.getfield 19, 3) := by decide +kernel
theorem dX1_comes_4 : decode cX1_comes 4 = .ok (.bipush 40, 2) := by decide +kernel
theorem dX1_comes_6 : decode cX1_comes 6 = .ok (.if_icmp .ne 7, 3) := by decide +kernel
theorem dX1_comes_13 : decode cX1_comes 13 = .ok (.aload_n 0, 1) := by decide +kernel
theorem dX1_comes_14 : decode cX1_comes 14 = .ok (.getfield 9, 3) := by decide +kernel
theorem dX1_comes_17 : decode cX1_comes 17 = .ok (.aload_n 0, 1) := by decide +kernel
theorem dX1_comes_18 : decode cX1_comes 18 = .ok (.getfield 19, 3) := by decide +kernel
theorem dX1_comes_21 : decode cX1_comes 21 = .ok (.iload_n 1, 1) := by decide +kernel
theorem dX1_comes_22 : decode cX1_comes 22 = .ok (.iastore, 1) := by decide +kernel
theorem dX1_comes_23 : decode cX1_comes 23 = .ok (.aload_n 0, 1) := by decide +kernel
theorem dX1_comes_24 : decode cX1_comes 24 = .ok (.getfield 13, 3) := by decide +kernel
theorem dX1_comes_27 : decode cX1_comes 27 = .ok (.aload_n 0, 1) := by decide +kernel
theorem dX1_comes_28 : decode cX1_comes 28 = .ok (.getfield 19, 3) := by decide +kernel
theorem dX1_comes_31 : decode cX1_comes 31 = .ok (.iload_n 2, 1) := by decide +kernel
theorem dX1_comes_32 : decode cX1_comes 32 = .ok (.iastore, 1) := by decide +kernel
theorem dX1_comes_33 : decode cX1_comes 33 = .ok (.aload_n 0, 1) := by decide +kernel
theorem dX1_comes_34 : decode cX1_comes 34 = .ok (.getfield 16, 3) := by decide +kernel
theorem dX1_comes_37 : decode cX1_comes 37 = .ok (.aload_n 0, 1) := by decide +kernel
theorem dX1_comes_38 : decode cX1_comes 38 = .ok (.getfield 19, 3) := by decide +kernel
theorem dX1_comes_41 : decode cX1_comes 41 = .ok (.iload_n 3, 1) := by decide +kernel
theorem dX1_comes_42 : decode cX1_comes 42 = .ok (.iastore, 1) := by decide +kernel
theorem dX1_comes_43 : decode cX1_comes 43 = .ok (.aload_n 0, 1) := by decide +kernel
theorem dX1_comes_44 : decode cX1_comes 44 = .ok (.dup, 1) := by decide +kernel
theorem dX1_comes_45 : decode cX1_comes 45 = .ok (.getfield 19, 3) := by decide +kernel
theorem dX1_comes_48 : decode cX1_comes 48 = .ok (.iconst 1, 1) := by decide +kernel
theorem dX1_comes_49 : decode cX1_comes 49 = .ok (.iadd, 1) := by decide +kernel
theorem dX1_comes_50 : decode cX1_comes 50 = .ok (.putfield 19, 3) := by decide +kernel
theorem dX1_comes_53 : decode cX1_comes 53 = .ok (.aload_n 0, 1) := by decide +kernel
theorem dX1_comes_54 : decode cX1_comes 54 = .ok (.aload_n 0, 1) := by decide +kernel
theorem dX1_comes_55 : decode cX1_comes 55 = .ok (.getfield 19, 3) := by decide +kernel
theorem dX1_comes_58 : decode cX1_comes 58 = .ok (.putfield 26, 3) := by decide +kernel
theorem dX1_comes_61 : decode cX1_comes 61 = .ok (.return_, 1) := by decide +kernel
theorem dX2_init_0 : decode cX2_init 0 = .ok (.aload_n 0, 1) := by decide +kernel
theorem dX2_init_1 : decode cX2_init 1 = .ok (.invokespecial 3, 3) := by decide +kernel
theorem dX2_init_4 : decode cX2_init 4 = .ok (.aload_n 0, 1) := by decide +kernel
theorem dX2_init_5 : decode cX2_init 5 = .ok (.iconst 5, 1) := by decide +kernel
theorem dX2_init_6 : decode cX2_init 6 = .ok (.newarray .int, 2) := by decide +kernel
theorem dX2_init_8 : decode cX2_init 8 = .ok (.putfield 11, 3) := by decide +kernel
theorem dX2_init_11 : decode cX2_init 11 = .ok (.aload_n 0, 1) := by decide +kernel
theorem dX2_init_12 : decode cX2_init 12 = .ok (.iconst 5, 1) := by decide +kernel
theorem dX2_init_13 : decode cX2_init 13 = .ok (.newarray .int, 2) := by decide +kernel
theorem dX2_init_15 : decode cX2_init 15 = .ok (.putfield 15, 3) := by decide +kernel
theorem dX2_init_18 : decode cX2_init 18 = .ok (.aload_n 0, 1) := by decide +kernel
theorem dX2_init_19 : decode cX2_init 19 = .ok (.iconst 3, 1) := by decide +kernel
theorem dX2_init_20 : decode cX2_init 20 = .ok (.newarray .int, 2) := by decide +kernel
theorem dX2_init_22 : decode cX2_init 22 = .ok (.putfield 18, 3) := by decide +kernel
theorem dX2_init_25 : decode cX2_init 25 = .ok (.aload_n 0, 1) := by decide +kernel
theorem dX2_init_26 : decode cX2_init 26 = .ok (.aload_n 1, 1) := by decide +kernel
theorem dX2_init_27 : decode cX2_init 27 = .ok (.putfield 21, 3) := by decide +kernel
theorem dX2_init_30 : decode cX2_init 30 = .ok (.aload_n 0, 1) := by decide +kernel
theorem dX2_init_31 : decode cX2_init 31 = .ok (.aload_n 2, 1) := by decide +kernel
theorem dX2_init_32 : decode cX2_init 32 = .ok (.putfield 25, 3) := by decide +kernel
theorem dX2_init_35 : decode cX2_init 35 = .ok (.aload_n 0, 1) := by decide +kernel
theorem dX2_init_36 : decode cX2_init 36 = .ok (.getfield 11, 3) := by decide +kernel
theorem dX2_init_39 : decode cX2_init 39 = .ok (.iconst 4, 1) := by decide +kernel
theorem dX2_init_40 : decode cX2_init 40 = .ok (.bipush (-2), 2) := by decide +kernel
theorem dX2_init_42 : decode cX2_init 42 = .ok (.iastore, 1) := by decide +kernel
theorem dX2_init_43 : decode cX2_init 43 = .ok (.return_, 1) := by decide +kernel
theorem dX2_turns_0 : decode cX2_turns 0 = .ok (.iload_n 2, 1) := by decide +kernel
theorem dX2_turns_1 : decode cX2_turns 1 = .ok (.aload_n 0, 1) := by decide +kernel
theorem dX2_turns_2 : decode cX2_turns 2 = .ok (.getfield 21, 3) := by decide +kernel
theorem dX2_turns_5 : decode cX2_turns 5 = .ok (.getfield 41, 3) := by decide +kernel
theorem dX2_turns_8 : decode cX2_turns 8 = .ok (.iload_n 1, 1) := by decide +kernel
theorem dX2_turns_9 : decode cX2_turns 9 = .ok (.iaload, 1) := by decide +kernel
theorem dX2_turns_10 : decode cX2_turns 10 = .ok (.isub, 1) := by decide +kernel
theorem dX2_turns_11 : decode cX2_turns 11 = .ok (.invokestatic 63, 3) := by decide +kernel
theorem dX2_turns_14 : decode cX2_turns 14 = .ok (.istore_n 3, 1) := by decide +kernel
theorem dX2_turns_15 : decode cX2_turns 15 = .ok (.aload_n 0, 1) := by decide +kernel
theorem dX2_turns_16 : decode cX2_turns 16 = .ok (.getfield 21, 3) := by decide +kernel
theorem dX2_turns_19 : decode cX2_turns 19 = .ok (.getfield 41, 3) := by decide +kernel
theorem dX2_turns_22 : decode cX2_turns 22 = .ok (.iload_n 1, 1) := by decide +kernel
theorem dX2_turns_23 : decode cX2_turns 23 = .ok (.iload_n 2, 1) := by decide +kernel
theorem dX2_turns_24 : decode cX2_turns 24 = .ok (.iastore, 1) := by decide +kernel
theorem dX2_turns_25 : decode cX2_turns 25 = .ok (.aload_n 0, 1) := by decide +kernel
theorem dX2_turns_26 : decode cX2_turns 26 = .ok (.getfield 11, 3) := by decide +kernel
theorem dX2_turns_29 : decode cX2_turns 29 = .ok (.iconst 1, 1) := by decide +kernel
theorem dX2_turns_30 : decode cX2_turns 30 = .ok (.dup2, 1) := by decide +kernel
theorem dX2_turns_31 : decode cX2_turns 31 = .ok (.iaload, 1) := by decide +kernel
theorem dX2_turns_32 : decode cX2_turns 32 = .ok (.iload_n 3, 1) := by decide +kernel
theorem dX2_turns_33 : decode cX2_turns 33 = .ok (.iadd, 1) := by decide +kernel
theorem dX2_turns_34 : decode cX2_turns 34 = .ok (.iastore, 1) := by decide +kernel
theorem dX2_turns_35 : decode cX2_turns 35 = .ok (.iload_n 3, 1) := by decide +kernel
theorem dX2_turns_36 : decode cX2_turns 36 = .ok (.ireturn, 1) := by decide +kernel
set_option maxRecDepth 20000 in
theorem ggX2_allSlip_X0_slipped : GoodIn wsX2_allSlip wsX0_slipped := goodIn_r _ [7, 8, 9, 10, 11, 12, 19, 20, 21, 22, 23] (by decide +kernel) (by decide +kernel)
set_option maxRecDepth 20000 in
theorem gX2_allSlip_X0_slipped : GoodIn wsX2_allSlip (wsV RX2 69 RX0 yX0_slipped wsX0_slipped) := goodIn_app (goodIn_of _ (by decide +kernel)) ggX2_allSlip_X0_slipped
theorem dX2_allSlip_0 : decode cX2_allSlip 0 = .ok (.iconst 0, 1) := by decide +kernel
theorem dX2_allSlip_1 : decode cX2_allSlip 1 = .ok (.istore_n 1, 1) := by decide +kernel
theorem dX2_allSlip_2 : decode cX2_allSlip 2 = .ok (.iconst 0, 1) := by decide +kernel
theorem dX2_allSlip_3 : decode cX2_allSlip 3 = .ok (.istore_n 2, 1) := by decide +kernel
theorem dX2_allSlip_4 : decode cX2_allSlip 4 = .ok (.iload_n 2, 1) := by decide +kernel
theorem dX2_allSlip_5 : decode cX2_allSlip 5 = .ok (.iconst 3, 1) := by decide +kernel
theorem dX2_allSlip_6 : decode cX2_allSlip 6 = .ok (.if_icmp .ge 53, 3) := by decide +kernel
theorem dX2_allSlip_9 : decode cX2_allSlip 9 = .ok (.aload_n 0, 1) := by decide +kernel
theorem dX2_allSlip_10 : decode cX2_allSlip 10 = .ok (.getfield 21, 3) := by decide +kernel
theorem dX2_allSlip_13 : decode cX2_allSlip 13 = .ok (.iload_n 2, 1) := by decide +kernel
theorem dX2_allSlip_14 : decode cX2_allSlip 14 = .ok (.aload_n 0, 1) := by decide +kernel
theorem dX2_allSlip_15 : decode cX2_allSlip 15 = .ok (.getfield 21, 3) := by decide +kernel
theorem dX2_allSlip_18 : decode cX2_allSlip 18 = .ok (.getfield 41, 3) := by decide +kernel
theorem dX2_allSlip_21 : decode cX2_allSlip 21 = .ok (.iload_n 2, 1) := by decide +kernel
theorem dX2_allSlip_22 : decode cX2_allSlip 22 = .ok (.iaload, 1) := by decide +kernel
theorem dX2_allSlip_23 : decode cX2_allSlip 23 = .ok (.invokevirtual 69, 3) := by decide +kernel
theorem dX2_allSlip_26 : decode cX2_allSlip 26 = .ok (.istore_n 3, 1) := by decide +kernel
theorem dX2_allSlip_27 : decode cX2_allSlip 27 = .ok (.iload_n 3, 1) := by decide +kernel
theorem dX2_allSlip_28 : decode cX2_allSlip 28 = .ok (.aload_n 0, 1) := by decide +kernel
theorem dX2_allSlip_29 : decode cX2_allSlip 29 = .ok (.getfield 21, 3) := by decide +kernel
theorem dX2_allSlip_32 : decode cX2_allSlip 32 = .ok (.getfield 41, 3) := by decide +kernel
theorem dX2_allSlip_35 : decode cX2_allSlip 35 = .ok (.iload_n 2, 1) := by decide +kernel
theorem dX2_allSlip_36 : decode cX2_allSlip 36 = .ok (.iaload, 1) := by decide +kernel
theorem dX2_allSlip_37 : decode cX2_allSlip 37 = .ok (.if_icmp .eq 6, 3) := by decide +kernel
theorem dX2_allSlip_43 : decode cX2_allSlip 43 = .ok (.aload_n 0, 1) := by decide +kernel
theorem dX2_allSlip_44 : decode cX2_allSlip 44 = .ok (.getfield 21, 3) := by decide +kernel
theorem dX2_allSlip_47 : decode cX2_allSlip 47 = .ok (.getfield 41, 3) := by decide +kernel
theorem dX2_allSlip_50 : decode cX2_allSlip 50 = .ok (.iload_n 2, 1) := by decide +kernel
theorem dX2_allSlip_51 : decode cX2_allSlip 51 = .ok (.iload_n 3, 1) := by decide +kernel
theorem dX2_allSlip_52 : decode cX2_allSlip 52 = .ok (.iastore, 1) := by decide +kernel
theorem dX2_allSlip_53 : decode cX2_allSlip 53 = .ok (.iinc 2 1, 3) := by decide +kernel
theorem dX2_allSlip_56 : decode cX2_allSlip 56 = .ok (.goto (-52), 3) := by decide +kernel
theorem dX2_allSlip_59 : decode cX2_allSlip 59 = .ok (.iload_n 1, 1) := by decide +kernel
theorem dX2_allSlip_60 : decode cX2_allSlip 60 = .ok (.ireturn, 1) := by decide +kernel
theorem dX2_keepImage_0 : decode cX2_keepImage 0 = .ok (.aload_n 0, 1) := by decide +kernel
theorem dX2_keepImage_1 : decode cX2_keepImage 1 = .ok (.getfield 11, 3) := by decide +kernel
theorem dX2_keepImage_4 : decode cX2_keepImage 4 = .ok (.iconst 0, 1) := by decide +kernel
theorem dX2_keepImage_5 : decode cX2_keepImage 5 = .ok (.aload_n 0, 1) := by decide +kernel
theorem dX2_keepImage_6 : decode cX2_keepImage 6 = .ok (.getfield 15, 3) := by decide +kernel
theorem dX2_keepImage_9 : decode cX2_keepImage 9 = .ok (.iconst 0, 1) := by decide +kernel
theorem dX2_keepImage_10 : decode cX2_keepImage 10 = .ok (.iconst 5, 1) := by decide +kernel
theorem dX2_keepImage_11 : decode cX2_keepImage 11 = .ok (.invokestatic 46, 3) := by decide +kernel
theorem dX2_keepImage_14 : decode cX2_keepImage 14 = .ok (.aload_n 0, 1) := by decide +kernel
theorem dX2_keepImage_15 : decode cX2_keepImage 15 = .ok (.getfield 21, 3) := by decide +kernel
theorem dX2_keepImage_18 : decode cX2_keepImage 18 = .ok (.getfield 41, 3) := by decide +kernel
theorem dX2_keepImage_21 : decode cX2_keepImage 21 = .ok (.iconst 0, 1) := by decide +kernel
theorem dX2_keepImage_22 : decode cX2_keepImage 22 = .ok (.aload_n 0, 1) := by decide +kernel
theorem dX2_keepImage_23 : decode cX2_keepImage 23 = .ok (.getfield 18, 3) := by decide +kernel
theorem dX2_keepImage_26 : decode cX2_keepImage 26 = .ok (.iconst 0, 1) := by decide +kernel
theorem dX2_keepImage_27 : decode cX2_keepImage 27 = .ok (.iconst 3, 1) := by decide +kernel
theorem dX2_keepImage_28 : decode cX2_keepImage 28 = .ok (.invokestatic 46, 3) := by decide +kernel
theorem dX2_keepImage_31 : decode cX2_keepImage 31 = .ok (.aload_n 0, 1) := by decide +kernel
theorem dX2_keepImage_32 : decode cX2_keepImage 32 = .ok (.iconst 1, 1) := by decide +kernel
theorem dX2_keepImage_33 : decode cX2_keepImage 33 = .ok (.putfield 73, 3) := by decide +kernel
theorem dX2_keepImage_36 : decode cX2_keepImage 36 = .ok (.aload_n 0, 1) := by decide +kernel
theorem dX2_keepImage_37 : decode cX2_keepImage 37 = .ok (.getfield 11, 3) := by decide +kernel
theorem dX2_keepImage_40 : decode cX2_keepImage 40 = .ok (.iconst 0, 1) := by decide +kernel
theorem dX2_keepImage_41 : decode cX2_keepImage 41 = .ok (.iaload, 1) := by decide +kernel
theorem dX2_keepImage_42 : decode cX2_keepImage 42 = .ok (.ireturn, 1) := by decide +kernel
theorem dX2_layBack_0 : decode cX2_layBack 0 = .ok (.aload_n 0, 1) := by decide +kernel
theorem dX2_layBack_1 : decode cX2_layBack 1 = .ok (.getfield 73, 3) := by decide +kernel
theorem dX2_layBack_4 : decode cX2_layBack 4 = .ok (.ifCond .ne 6, 3) := by decide +kernel
theorem dX2_layBack_7 : decode cX2_layBack 7 = .ok (.bipush (-5), 2) := by decide +kernel
theorem dX2_layBack_9 : decode cX2_layBack 9 = .ok (.ireturn, 1) := by decide +kernel
theorem dX3_init_0 : decode cX3_init 0 = .ok (.aload_n 0, 1) := by decide +kernel
theorem dX3_init_1 : decode cX3_init 1 = .ok (.invokespecial 3, 3) := by decide +kernel
theorem dX3_init_4 : decode cX3_init 4 = .ok (.aload_n 0, 1) := by decide +kernel
theorem dX3_init_5 : decode cX3_init 5 = .ok (.bipush 50, 2) := by decide +kernel
theorem dX3_init_7 : decode cX3_init 7 = .ok (.newarray .int, 2) := by decide +kernel
theorem dX3_init_9 : decode cX3_init 9 = .ok (.putfield 9, 3) := by decide +kernel
theorem dX3_init_12 : decode cX3_init 12 = .ok (.aload_n 0, 1) := by decide +kernel
theorem dX3_init_13 : decode cX3_init 13 = .ok (.bipush 24, 2) := by decide +kernel
theorem dX3_init_15 : decode cX3_init 15 = .ok (.newarray .int, 2) := by decide +kernel
theorem dX3_init_17 : decode cX3_init 17 = .ok (.putfield 15, 3) := by decide +kernel
theorem dX3_init_20 : decode cX3_init 20 = .ok (.return_, 1) := by decide +kernel
theorem dX3_comes_0 : decode cX3_comes 0 = .ok (.aload_n 0, 1) := by decide +kernel
theorem dX3_comes_1 : decode cX3_comes 1 = .ok (.getfield 18, 3) := by decide +kernel
theorem dX3_comes_4 : decode cX3_comes 4 = .ok (.bipush 50, 2) := by decide +kernel
theorem dX3_comes_6 : decode cX3_comes 6 = .ok (.if_icmp .lt 6, 3) := by decide +kernel
theorem dX3_comes_12 : decode cX3_comes 12 = .ok (.aload_n 0, 1) := by decide +kernel
theorem dX3_comes_13 : decode cX3_comes 13 = .ok (.getfield 9, 3) := by decide +kernel
theorem dX3_comes_16 : decode cX3_comes 16 = .ok (.aload_n 0, 1) := by decide +kernel
theorem dX3_comes_17 : decode cX3_comes 17 = .ok (.getfield 18, 3) := by decide +kernel
theorem dX3_comes_20 : decode cX3_comes 20 = .ok (.iload_n 1, 1) := by decide +kernel
theorem dX3_comes_21 : decode cX3_comes 21 = .ok (.iastore, 1) := by decide +kernel
theorem dX3_comes_22 : decode cX3_comes 22 = .ok (.aload_n 0, 1) := by decide +kernel
theorem dX3_comes_23 : decode cX3_comes 23 = .ok (.dup, 1) := by decide +kernel
theorem dX3_comes_24 : decode cX3_comes 24 = .ok (.getfield 18, 3) := by decide +kernel
theorem dX3_comes_27 : decode cX3_comes 27 = .ok (.iconst 1, 1) := by decide +kernel
theorem dX3_comes_28 : decode cX3_comes 28 = .ok (.iadd, 1) := by decide +kernel
theorem dX3_comes_29 : decode cX3_comes 29 = .ok (.putfield 18, 3) := by decide +kernel
theorem dX3_comes_32 : decode cX3_comes 32 = .ok (.aload_n 0, 1) := by decide +kernel
theorem dX3_comes_33 : decode cX3_comes 33 = .ok (.getfield 18, 3) := by decide +kernel
theorem dX3_comes_36 : decode cX3_comes 36 = .ok (.iconst 1, 1) := by decide +kernel
theorem dX3_comes_37 : decode cX3_comes 37 = .ok (.isub, 1) := by decide +kernel
theorem dX3_comes_38 : decode cX3_comes 38 = .ok (.ireturn, 1) := by decide +kernel
theorem dX3_acts_0 : decode cX3_acts 0 = .ok (.aload_n 0, 1) := by decide +kernel
theorem dX3_acts_1 : decode cX3_acts 1 = .ok (.iconst 0, 1) := by decide +kernel
theorem dX3_acts_2 : decode cX3_acts 2 = .ok (.putfield 25, 3) := by decide +kernel
theorem dX3_acts_5 : decode cX3_acts 5 = .ok (.iload_n 1, 1) := by decide +kernel
theorem dX3_acts_6 : decode cX3_acts 6 = .ok (.ifCond .lt 20, 3) := by decide +kernel
theorem dX3_acts_9 : decode cX3_acts 9 = .ok (.iload_n 1, 1) := by decide +kernel
theorem dX3_acts_10 : decode cX3_acts 10 = .ok (.aload_n 0, 1) := by decide +kernel
theorem dX3_acts_11 : decode cX3_acts 11 = .ok (.getfield 18, 3) := by decide +kernel
theorem dX3_acts_14 : decode cX3_acts 14 = .ok (.if_icmp .ge 12, 3) := by decide +kernel
theorem dX3_acts_26 : decode cX3_acts 26 = .ok (.iconst 0, 1) := by decide +kernel
theorem dX3_acts_27 : decode cX3_acts 27 = .ok (.ireturn, 1) := by decide +kernel
theorem dX4_init_0 : decode cX4_init 0 = .ok (.aload_n 0, 1) := by decide +kernel
theorem dX4_init_1 : decode cX4_init 1 = .ok (.invokespecial 3, 3) := by decide +kernel
theorem dX4_init_4 : decode cX4_init 4 = .ok (.aload_n 0, 1) := by decide +kernel
theorem dX4_init_5 : decode cX4_init 5 = .ok (.iconst 3, 1) := by decide +kernel
theorem dX4_init_6 : decode cX4_init 6 = .ok (.newarray .int, 2) := by decide +kernel
theorem dX4_init_8 : decode cX4_init 8 = .ok (.putfield 9, 3) := by decide +kernel
theorem dX4_init_11 : decode cX4_init 11 = .ok (.aload_n 0, 1) := by decide +kernel
theorem dX4_init_12 : decode cX4_init 12 = .ok (.iconst 3, 1) := by decide +kernel
theorem dX4_init_13 : decode cX4_init 13 = .ok (.newarray .int, 2) := by decide +kernel
theorem dX4_init_15 : decode cX4_init 15 = .ok (.putfield 15, 3) := by decide +kernel
theorem dX4_init_18 : decode cX4_init 18 = .ok (.aload_n 0, 1) := by decide +kernel
theorem dX4_init_19 : decode cX4_init 19 = .ok (.bipush 8, 2) := by decide +kernel
theorem dX4_init_21 : decode cX4_init 21 = .ok (.newarray .int, 2) := by decide +kernel
theorem dX4_init_23 : decode cX4_init 23 = .ok (.putfield 18, 3) := by decide +kernel
theorem dX4_init_26 : decode cX4_init 26 = .ok (.aload_n 0, 1) := by decide +kernel
theorem dX4_init_27 : decode cX4_init 27 = .ok (.iconst (-1), 1) := by decide +kernel
theorem dX4_init_28 : decode cX4_init 28 = .ok (.putfield 21, 3) := by decide +kernel
theorem dX4_init_31 : decode cX4_init 31 = .ok (.aload_n 0, 1) := by decide +kernel
theorem dX4_init_32 : decode cX4_init 32 = .ok (.iconst (-1), 1) := by decide +kernel
theorem dX4_init_33 : decode cX4_init 33 = .ok (.putfield 25, 3) := by decide +kernel
theorem dX4_init_36 : decode cX4_init 36 = .ok (.aload_n 0, 1) := by decide +kernel
theorem dX4_init_37 : decode cX4_init 37 = .ok (.aload_n 1, 1) := by decide +kernel
theorem dX4_init_38 : decode cX4_init 38 = .ok (.putfield 28, 3) := by decide +kernel
theorem dX4_init_41 : decode cX4_init 41 = .ok (.aload_n 0, 1) := by decide +kernel
theorem dX4_init_42 : decode cX4_init 42 = .ok (.aload_n 2, 1) := by decide +kernel
theorem dX4_init_43 : decode cX4_init 43 = .ok (.putfield 32, 3) := by decide +kernel
theorem dX4_init_46 : decode cX4_init 46 = .ok (.return_, 1) := by decide +kernel
theorem dX5_init_0 : decode cX5_init 0 = .ok (.aload_n 0, 1) := by decide +kernel
theorem dX5_init_1 : decode cX5_init 1 = .ok (.invokespecial 3, 3) := by decide +kernel
theorem dX5_init_4 : decode cX5_init 4 = .ok (.aload_n 0, 1) := by decide +kernel
theorem dX5_init_5 : decode cX5_init 5 = .ok (.bipush 120, 2) := by decide +kernel
theorem dX5_init_7 : decode cX5_init 7 = .ok (.newarray .int, 2) := by decide +kernel
theorem dX5_init_9 : decode cX5_init 9 = .ok (.putfield 11, 3) := by decide +kernel
theorem dX5_init_12 : decode cX5_init 12 = .ok (.aload_n 0, 1) := by decide +kernel
theorem dX5_init_13 : decode cX5_init 13 = .ok (.bipush 121, 2) := by decide +kernel
theorem dX5_init_15 : decode cX5_init 15 = .ok (.newarray .int, 2) := by decide +kernel
theorem dX5_init_17 : decode cX5_init 17 = .ok (.putfield 15, 3) := by decide +kernel
theorem dX5_init_20 : decode cX5_init 20 = .ok (.aload_n 0, 1) := by decide +kernel
theorem dX5_init_21 : decode cX5_init 21 = .ok (.bipush 121, 2) := by decide +kernel
theorem dX5_init_23 : decode cX5_init 23 = .ok (.newarray .int, 2) := by decide +kernel
theorem dX5_init_25 : decode cX5_init 25 = .ok (.putfield 18, 3) := by decide +kernel
theorem dX5_init_28 : decode cX5_init 28 = .ok (.aload_n 0, 1) := by decide +kernel
theorem dX5_init_29 : decode cX5_init 29 = .ok (.bipush 122, 2) := by decide +kernel
theorem dX5_init_31 : decode cX5_init 31 = .ok (.newarray .int, 2) := by decide +kernel
theorem dX5_init_33 : decode cX5_init 33 = .ok (.putfield 21, 3) := by decide +kernel
theorem dX5_init_36 : decode cX5_init 36 = .ok (.return_, 1) := by decide +kernel
theorem dX5_takes_0 : decode cX5_takes 0 = .ok (.aload_n 0, 1) := by decide +kernel
theorem dX5_takes_1 : decode cX5_takes 1 = .ok (.getfield 24, 3) := by decide +kernel
theorem dX5_takes_4 : decode cX5_takes 4 = .ok (.bipush 120, 2) := by decide +kernel
theorem dX5_takes_6 : decode cX5_takes 6 = .ok (.if_icmp .lt 6, 3) := by decide +kernel
theorem dX5_takes_12 : decode cX5_takes 12 = .ok (.aload_n 0, 1) := by decide +kernel
theorem dX5_takes_13 : decode cX5_takes 13 = .ok (.getfield 11, 3) := by decide +kernel
theorem dX5_takes_16 : decode cX5_takes 16 = .ok (.aload_n 0, 1) := by decide +kernel
theorem dX5_takes_17 : decode cX5_takes 17 = .ok (.getfield 24, 3) := by decide +kernel
theorem dX5_takes_20 : decode cX5_takes 20 = .ok (.iload_n 1, 1) := by decide +kernel
theorem dX5_takes_21 : decode cX5_takes 21 = .ok (.iastore, 1) := by decide +kernel
theorem dX5_takes_22 : decode cX5_takes 22 = .ok (.aload_n 0, 1) := by decide +kernel
theorem dX5_takes_23 : decode cX5_takes 23 = .ok (.dup, 1) := by decide +kernel
theorem dX5_takes_24 : decode cX5_takes 24 = .ok (.getfield 24, 3) := by decide +kernel
theorem dX5_takes_27 : decode cX5_takes 27 = .ok (.iconst 1, 1) := by decide +kernel
theorem dX5_takes_28 : decode cX5_takes 28 = .ok (.iadd, 1) := by decide +kernel
theorem dX5_takes_29 : decode cX5_takes 29 = .ok (.putfield 24, 3) := by decide +kernel
theorem dX5_takes_32 : decode cX5_takes 32 = .ok (.aload_n 0, 1) := by decide +kernel
theorem dX5_takes_33 : decode cX5_takes 33 = .ok (.getfield 24, 3) := by decide +kernel
theorem dX5_takes_36 : decode cX5_takes 36 = .ok (.ireturn, 1) := by decide +kernel
set_option maxRecDepth 20000 in
theorem ggX5_isRead_X5_lines : GoodIn wsX5_isRead wsX5_lines := goodIn_r _ [17, 1, 4, 18, 19, 20, 16, 21, 22, 23, 24, 25, 26, 27, 28, 29, 30, 31, 32, 2, 33, 34, 35, 36, 37, 3, 5, 38, 39, 40, 41, 42, 43, 44, 45, 46, 47, 48, 49, 50, 51, 52, 53, 54, 55, 56, 57, 58, 59, 60, 61, 62, 63, 64, 65, 66, 67, 68, 69, 70, 71, 72, 73, 74, 75, 76, 77, 78, 79, 80, 81, 82] (by decide +kernel) (by decide +kernel)
set_option maxRecDepth 20000 in
theorem gX5_isRead_X5_lines : GoodIn wsX5_isRead (wsV RX5 37 RX5 yX5_lines wsX5_lines) := goodIn_app (goodIn_of _ (by decide +kernel)) ggX5_isRead_X5_lines
theorem dX5_isRead_0 : decode cX5_isRead 0 = .ok (.aload_n 0, 1) := by decide +kernel
theorem dX5_isRead_1 : decode cX5_isRead 1 = .ok (.iconst 0, 1) := by decide +kernel
theorem dX5_isRead_2 : decode cX5_isRead 2 = .ok (.putfield 28, 3) := by decide +kernel
theorem dX5_isRead_5 : decode cX5_isRead 5 = .ok (.aload_n 0, 1) := by decide +kernel
theorem dX5_isRead_6 : decode cX5_isRead 6 = .ok (.iconst (-1), 1) := by decide +kernel
theorem dX5_isRead_7 : decode cX5_isRead 7 = .ok (.putfield 31, 3) := by decide +kernel
theorem dX5_isRead_10 : decode cX5_isRead 10 = .ok (.aload_n 0, 1) := by decide +kernel
theorem dX5_isRead_11 : decode cX5_isRead 11 = .ok (.iconst 0, 1) := by decide +kernel
theorem dX5_isRead_12 : decode cX5_isRead 12 = .ok (.putfield 34, 3) := by decide +kernel
theorem dX5_isRead_15 : decode cX5_isRead 15 = .ok (.aload_n 0, 1) := by decide +kernel
theorem dX5_isRead_16 : decode cX5_isRead 16 = .ok (.invokevirtual 37, 3) := by decide +kernel
theorem dX5_isRead_19 : decode cX5_isRead 19 = .ok (.aload_n 0, 1) := by decide +kernel
theorem dX5_isRead_20 : decode cX5_isRead 20 = .ok (.iconst 0, 1) := by decide +kernel
theorem dX5_isRead_21 : decode cX5_isRead 21 = .ok (.putfield 24, 3) := by decide +kernel
theorem dX5_isRead_24 : decode cX5_isRead 24 = .ok (.aload_n 0, 1) := by decide +kernel
theorem dX5_isRead_25 : decode cX5_isRead 25 = .ok (.getfield 31, 3) := by decide +kernel
theorem dX5_isRead_28 : decode cX5_isRead 28 = .ok (.ifCond .lt 11, 3) := by decide +kernel
theorem dX5_isRead_31 : decode cX5_isRead 31 = .ok (.bipush (-100), 2) := by decide +kernel
theorem dX5_isRead_33 : decode cX5_isRead 33 = .ok (.aload_n 0, 1) := by decide +kernel
theorem dX5_isRead_34 : decode cX5_isRead 34 = .ok (.getfield 31, 3) := by decide +kernel
theorem dX5_isRead_37 : decode cX5_isRead 37 = .ok (.isub, 1) := by decide +kernel
theorem dX5_isRead_38 : decode cX5_isRead 38 = .ok (.ireturn, 1) := by decide +kernel
set_option maxRecDepth 20000 in
theorem ggX5_lines_X5_line : GoodIn wsX5_lines wsX5_line := goodIn_r _ [7, 1, 8, 9, 10, 6, 11, 12, 13, 14, 15, 16, 17, 18, 19, 2, 20, 21, 22, 23, 24, 25, 26, 27, 28, 29, 30, 31, 32, 33, 34, 35, 36, 37, 38, 39, 40, 41, 42, 43, 44, 45, 46, 47, 48, 49, 50, 51, 52, 53, 54, 55, 56, 57, 58, 59, 60, 61, 62, 63, 64, 65, 66, 67, 68, 69, 70, 71] (by decide +kernel) (by decide +kernel)
set_option maxRecDepth 20000 in
theorem gX5_lines_X5_line : GoodIn wsX5_lines (wsV RX5 53 RX5 yX5_line wsX5_line) := goodIn_app (goodIn_of _ (by decide +kernel)) ggX5_lines_X5_line
set_option maxRecDepth 20000 in
theorem ggX5_lines_X5_next : GoodIn wsX5_lines wsX5_next := goodIn_r _ [18, 19, 1, 2, 20, 62, 63, 64, 65, 66, 67, 68, 69, 70, 71] (by decide +kernel) (by decide +kernel)
set_option maxRecDepth 20000 in
theorem gX5_lines_X5_next : GoodIn wsX5_lines (wsV RX5 56 RX5 yX5_next wsX5_next) := goodIn_app (goodIn_of _ (by decide +kernel)) ggX5_lines_X5_next
theorem dX5_lines_0 : decode cX5_lines 0 = .ok (.aload_n 0, 1) := by decide +kernel
theorem dX5_lines_1 : decode cX5_lines 1 = .ok (.invokevirtual 53, 3) := by decide +kernel
theorem dX5_lines_4 : decode cX5_lines 4 = .ok (.iconst 0, 1) := by decide +kernel
theorem dX5_lines_5 : decode cX5_lines 5 = .ok (.istore_n 1, 1) := by decide +kernel
theorem dX5_lines_6 : decode cX5_lines 6 = .ok (.iload_n 1, 1) := by decide +kernel
theorem dX5_lines_7 : decode cX5_lines 7 = .ok (.bipush 120, 2) := by decide +kernel
theorem dX5_lines_9 : decode cX5_lines 9 = .ok (.if_icmp .ge 32, 3) := by decide +kernel
theorem dX5_lines_12 : decode cX5_lines 12 = .ok (.aload_n 0, 1) := by decide +kernel
theorem dX5_lines_13 : decode cX5_lines 13 = .ok (.invokevirtual 56, 3) := by decide +kernel
theorem dX5_lines_16 : decode cX5_lines 16 = .ok (.bipush 59, 2) := by decide +kernel
theorem dX5_lines_18 : decode cX5_lines 18 = .ok (.if_icmp .ne 23, 3) := by decide +kernel
theorem dX5_lines_41 : decode cX5_lines 41 = .ok (.aload_n 0, 1) := by decide +kernel
theorem dX5_lines_42 : decode cX5_lines 42 = .ok (.getfield 28, 3) := by decide +kernel
theorem dX5_lines_45 : decode cX5_lines 45 = .ok (.aload_n 0, 1) := by decide +kernel
theorem dX5_lines_46 : decode cX5_lines 46 = .ok (.getfield 24, 3) := by decide +kernel
theorem dX5_lines_49 : decode cX5_lines 49 = .ok (.if_icmp .ge 7, 3) := by decide +kernel
theorem dX5_lines_56 : decode cX5_lines 56 = .ok (.return_, 1) := by decide +kernel
set_option maxRecDepth 20000 in
theorem ggX5_line_X5_either : GoodIn wsX5_line wsX5_either := goodIn_r _ [6, 1, 7, 8, 9, 5, 10, 11, 12, 13, 14, 15, 16, 17, 18, 19, 20, 21, 22, 23, 24, 25, 26, 27, 28, 29, 30, 31, 32, 33, 34, 2, 3, 4, 35, 36, 37, 38, 39, 40, 41, 42, 43, 44, 45, 46, 47, 48, 49, 50, 51, 52, 53, 54, 55, 56, 57, 58, 59, 60, 61, 62, 63, 64, 65, 66, 67] (by decide +kernel) (by decide +kernel)
set_option maxRecDepth 20000 in
theorem gX5_line_X5_either : GoodIn wsX5_line (wsV RX5 63 RX5 yX5_either wsX5_either) := goodIn_app (goodIn_of _ (by decide +kernel)) ggX5_line_X5_either
set_option maxRecDepth 20000 in
theorem ggX5_line_X5_next : GoodIn wsX5_line wsX5_next := goodIn_r _ [13, 14, 1, 15, 16, 58, 59, 60, 61, 62, 63, 64, 65, 66, 67] (by decide +kernel) (by decide +kernel)
set_option maxRecDepth 20000 in
theorem gX5_line_X5_next : GoodIn wsX5_line (wsV RX5 56 RX5 yX5_next wsX5_next) := goodIn_app (goodIn_of _ (by decide +kernel)) ggX5_line_X5_next
set_option maxRecDepth 20000 in
theorem ggX5_line_X5_write : GoodIn wsX5_line wsX5_write := goodIn_r _ [20, 21, 22, 58, 59, 60, 61, 62, 63, 64, 65, 66, 67] (by decide +kernel) (by decide +kernel)
set_option maxRecDepth 20000 in
theorem gX5_line_X5_write : GoodIn wsX5_line (wsV RX5 67 RX5 yX5_write wsX5_write) := goodIn_app (goodIn_of _ (by decide +kernel)) ggX5_line_X5_write
theorem dX5_line_0 : decode cX5_line 0 = .ok (.aload_n 0, 1) := by decide +kernel
theorem dX5_line_1 : decode cX5_line 1 = .ok (.iconst 0, 1) := by decide +kernel
theorem dX5_line_2 : decode cX5_line 2 = .ok (.invokevirtual 63, 3) := by decide +kernel
theorem dX5_line_5 : decode cX5_line 5 = .ok (.aload_n 0, 1) := by decide +kernel
theorem dX5_line_6 : decode cX5_line 6 = .ok (.invokevirtual 56, 3) := by decide +kernel
theorem dX5_line_9 : decode cX5_line 9 = .ok (.bipush 63, 2) := by decide +kernel
theorem dX5_line_11 : decode cX5_line 11 = .ok (.if_icmp .ne 24, 3) := by decide +kernel
theorem dX5_line_35 : decode cX5_line 35 = .ok (.aload_n 0, 1) := by decide +kernel
theorem dX5_line_36 : decode cX5_line 36 = .ok (.bipush 59, 2) := by decide +kernel
theorem dX5_line_38 : decode cX5_line 38 = .ok (.invokevirtual 67, 3) := by decide +kernel
theorem dX5_line_41 : decode cX5_line 41 = .ok (.return_, 1) := by decide +kernel
set_option maxRecDepth 20000 in
theorem ggX5_either_X5_both : GoodIn wsX5_either wsX5_both := goodIn_r _ [19, 1, 20, 21, 22, 5, 6, 7, 8, 9, 10, 11, 12, 13, 14, 15, 16, 17, 18, 23, 24, 25, 26, 0, 2, 3, 4, 27, 28, 29, 30, 31, 32, 33, 34, 35, 36, 37, 38, 39, 40, 41, 42, 43, 44, 45, 46, 47, 48, 49, 50, 51, 52, 53, 54, 55, 56, 57, 58, 59, 60, 61, 62, 63, 64, 65, 66] (by decide +kernel) (by decide +kernel)
set_option maxRecDepth 20000 in
theorem gX5_either_X5_both : GoodIn wsX5_either (wsV RX5 70 RX5 yX5_both wsX5_both) := goodIn_app (goodIn_of _ (by decide +kernel)) ggX5_either_X5_both
set_option maxRecDepth 20000 in
theorem ggX5_either_X5_next : GoodIn wsX5_either wsX5_next := goodIn_r _ [9, 10, 1, 11, 12, 57, 58, 59, 60, 61, 62, 63, 64, 65, 66] (by decide +kernel) (by decide +kernel)
set_option maxRecDepth 20000 in
theorem gX5_either_X5_next : GoodIn wsX5_either (wsV RX5 56 RX5 yX5_next wsX5_next) := goodIn_app (goodIn_of _ (by decide +kernel)) ggX5_either_X5_next
theorem dX5_either_0 : decode cX5_either 0 = .ok (.aload_n 0, 1) := by decide +kernel
theorem dX5_either_1 : decode cX5_either 1 = .ok (.iload_n 1, 1) := by decide +kernel
theorem dX5_either_2 : decode cX5_either 2 = .ok (.invokevirtual 70, 3) := by decide +kernel
theorem dX5_either_5 : decode cX5_either 5 = .ok (.iconst 0, 1) := by decide +kernel
theorem dX5_either_6 : decode cX5_either 6 = .ok (.istore_n 2, 1) := by decide +kernel
theorem dX5_either_7 : decode cX5_either 7 = .ok (.iload_n 2, 1) := by decide +kernel
theorem dX5_either_8 : decode cX5_either 8 = .ok (.bipush 120, 2) := by decide +kernel
theorem dX5_either_10 : decode cX5_either 10 = .ok (.if_icmp .ge 39, 3) := by decide +kernel
theorem dX5_either_13 : decode cX5_either 13 = .ok (.aload_n 0, 1) := by decide +kernel
theorem dX5_either_14 : decode cX5_either 14 = .ok (.invokevirtual 56, 3) := by decide +kernel
theorem dX5_either_17 : decode cX5_either 17 = .ok (.bipush 124, 2) := by decide +kernel
theorem dX5_either_19 : decode cX5_either 19 = .ok (.if_icmp .ne 30, 3) := by decide +kernel
theorem dX5_either_49 : decode cX5_either 49 = .ok (.return_, 1) := by decide +kernel
set_option maxRecDepth 20000 in
theorem ggX5_both_X5_compared : GoodIn wsX5_both wsX5_compared := goodIn_r _ [19, 1, 20, 21, 22, 5, 6, 7, 8, 9, 10, 11, 12, 13, 14, 15, 16, 17, 18, 0, 2, 3, 4, 23, 24, 25, 26, 27, 28, 29, 30, 31, 32, 33, 34, 35, 36, 37, 38, 39, 40, 41, 42, 43, 44, 45, 46, 47, 48, 49, 50, 51, 52, 53, 54, 55, 56, 57, 58, 59, 60, 61, 62, 63, 64, 65, 66] (by decide +kernel) (by decide +kernel)
set_option maxRecDepth 20000 in
theorem gX5_both_X5_compared : GoodIn wsX5_both (wsV RX5 73 RX5 yX5_compared wsX5_compared) := goodIn_app (goodIn_of _ (by decide +kernel)) ggX5_both_X5_compared
set_option maxRecDepth 20000 in
theorem ggX5_both_X5_next : GoodIn wsX5_both wsX5_next := goodIn_r _ [9, 10, 1, 11, 12, 57, 58, 59, 60, 61, 62, 63, 64, 65, 66] (by decide +kernel) (by decide +kernel)
set_option maxRecDepth 20000 in
theorem gX5_both_X5_next : GoodIn wsX5_both (wsV RX5 56 RX5 yX5_next wsX5_next) := goodIn_app (goodIn_of _ (by decide +kernel)) ggX5_both_X5_next
theorem dX5_both_0 : decode cX5_both 0 = .ok (.aload_n 0, 1) := by decide +kernel
theorem dX5_both_1 : decode cX5_both 1 = .ok (.iload_n 1, 1) := by decide +kernel
theorem dX5_both_2 : decode cX5_both 2 = .ok (.invokevirtual 73, 3) := by decide +kernel
theorem dX5_both_5 : decode cX5_both 5 = .ok (.iconst 0, 1) := by decide +kernel
theorem dX5_both_6 : decode cX5_both 6 = .ok (.istore_n 2, 1) := by decide +kernel
theorem dX5_both_7 : decode cX5_both 7 = .ok (.iload_n 2, 1) := by decide +kernel
theorem dX5_both_8 : decode cX5_both 8 = .ok (.bipush 120, 2) := by decide +kernel
theorem dX5_both_10 : decode cX5_both 10 = .ok (.if_icmp .ge 39, 3) := by decide +kernel
theorem dX5_both_13 : decode cX5_both 13 = .ok (.aload_n 0, 1) := by decide +kernel
theorem dX5_both_14 : decode cX5_both 14 = .ok (.invokevirtual 56, 3) := by decide +kernel
theorem dX5_both_17 : decode cX5_both 17 = .ok (.bipush 38, 2) := by decide +kernel
theorem dX5_both_19 : decode cX5_both 19 = .ok (.if_icmp .ne 30, 3) := by decide +kernel
theorem dX5_both_49 : decode cX5_both 49 = .ok (.return_, 1) := by decide +kernel
set_option maxRecDepth 20000 in
theorem ggX5_compared_X5_sum : GoodIn wsX5_compared wsX5_sum := goodIn_r _ [53, 1, 54, 55, 56, 5, 6, 7, 8, 9, 10, 11, 12, 13, 14, 15, 16, 17, 18, 19, 20, 21, 22, 0, 2, 3, 4, 23, 24, 25, 26, 27, 28, 29, 30, 31, 32, 33, 34, 35, 36, 37, 38, 39, 40, 41, 42, 43, 44, 45, 46, 47, 48, 49, 50, 51, 52, 57, 58, 59, 60, 61, 62, 63, 64, 65, 66] (by decide +kernel) (by decide +kernel)
set_option maxRecDepth 20000 in
theorem gX5_compared_X5_sum : GoodIn wsX5_compared (wsV RX5 76 RX5 yX5_sum wsX5_sum) := goodIn_app (goodIn_of _ (by decide +kernel)) ggX5_compared_X5_sum
set_option maxRecDepth 20000 in
theorem ggX5_compared_X5_next : GoodIn wsX5_compared wsX5_next := goodIn_r _ [9, 10, 1, 11, 12, 57, 58, 59, 60, 61, 62, 63, 64, 65, 66] (by decide +kernel) (by decide +kernel)
set_option maxRecDepth 20000 in
theorem gX5_compared_X5_next : GoodIn wsX5_compared (wsV RX5 56 RX5 yX5_next wsX5_next) := goodIn_app (goodIn_of _ (by decide +kernel)) ggX5_compared_X5_next
theorem dX5_compared_0 : decode cX5_compared 0 = .ok (.aload_n 0, 1) := by decide +kernel
theorem dX5_compared_1 : decode cX5_compared 1 = .ok (.iload_n 1, 1) := by decide +kernel
theorem dX5_compared_2 : decode cX5_compared 2 = .ok (.invokevirtual 76, 3) := by decide +kernel
theorem dX5_compared_5 : decode cX5_compared 5 = .ok (.aload_n 0, 1) := by decide +kernel
theorem dX5_compared_6 : decode cX5_compared 6 = .ok (.invokevirtual 56, 3) := by decide +kernel
theorem dX5_compared_9 : decode cX5_compared 9 = .ok (.istore_n 2, 1) := by decide +kernel
theorem dX5_compared_10 : decode cX5_compared 10 = .ok (.iload_n 2, 1) := by decide +kernel
theorem dX5_compared_11 : decode cX5_compared 11 = .ok (.bipush 60, 2) := by decide +kernel
theorem dX5_compared_13 : decode cX5_compared 13 = .ok (.if_icmp .eq 15, 3) := by decide +kernel
theorem dX5_compared_16 : decode cX5_compared 16 = .ok (.iload_n 2, 1) := by decide +kernel
theorem dX5_compared_17 : decode cX5_compared 17 = .ok (.bipush 61, 2) := by decide +kernel
theorem dX5_compared_19 : decode cX5_compared 19 = .ok (.if_icmp .eq 9, 3) := by decide +kernel
theorem dX5_compared_22 : decode cX5_compared 22 = .ok (.iload_n 2, 1) := by decide +kernel
theorem dX5_compared_23 : decode cX5_compared 23 = .ok (.bipush 62, 2) := by decide +kernel
theorem dX5_compared_25 : decode cX5_compared 25 = .ok (.if_icmp .ne 23, 3) := by decide +kernel
theorem dX5_compared_48 : decode cX5_compared 48 = .ok (.return_, 1) := by decide +kernel
set_option maxRecDepth 20000 in
theorem ggX5_sum_X5_product : GoodIn wsX5_sum wsX5_product := goodIn_r _ [56, 1, 32, 33, 34, 5, 6, 7, 8, 9, 10, 11, 12, 13, 14, 15, 16, 17, 18, 19, 20, 21, 22, 23, 24, 25, 26, 27, 28, 29, 30, 31, 35, 36, 37, 38, 39, 40, 41, 42, 43, 44, 45, 46, 47, 48, 49, 50, 51, 52, 53, 54, 55, 0, 2, 3, 4, 57, 58, 59, 60, 61, 62, 63, 64, 65, 66] (by decide +kernel) (by decide +kernel)
set_option maxRecDepth 20000 in
theorem gX5_sum_X5_product : GoodIn wsX5_sum (wsV RX5 79 RX5 yX5_product wsX5_product) := goodIn_app (goodIn_of _ (by decide +kernel)) ggX5_sum_X5_product
set_option maxRecDepth 20000 in
theorem ggX5_sum_X5_next : GoodIn wsX5_sum wsX5_next := goodIn_r _ [9, 10, 1, 11, 12, 57, 58, 59, 60, 61, 62, 63, 64, 65, 66] (by decide +kernel) (by decide +kernel)
set_option maxRecDepth 20000 in
theorem gX5_sum_X5_next : GoodIn wsX5_sum (wsV RX5 56 RX5 yX5_next wsX5_next) := goodIn_app (goodIn_of _ (by decide +kernel)) ggX5_sum_X5_next
theorem dX5_sum_0 : decode cX5_sum 0 = .ok (.aload_n 0, 1) := by decide +kernel
theorem dX5_sum_1 : decode cX5_sum 1 = .ok (.iload_n 1, 1) := by decide +kernel
theorem dX5_sum_2 : decode cX5_sum 2 = .ok (.invokevirtual 79, 3) := by decide +kernel
theorem dX5_sum_5 : decode cX5_sum 5 = .ok (.aload_n 0, 1) := by decide +kernel
theorem dX5_sum_6 : decode cX5_sum 6 = .ok (.invokevirtual 56, 3) := by decide +kernel
theorem dX5_sum_9 : decode cX5_sum 9 = .ok (.istore_n 2, 1) := by decide +kernel
theorem dX5_sum_10 : decode cX5_sum 10 = .ok (.iconst 0, 1) := by decide +kernel
theorem dX5_sum_11 : decode cX5_sum 11 = .ok (.istore_n 3, 1) := by decide +kernel
theorem dX5_sum_12 : decode cX5_sum 12 = .ok (.iload_n 3, 1) := by decide +kernel
theorem dX5_sum_13 : decode cX5_sum 13 = .ok (.bipush 120, 2) := by decide +kernel
theorem dX5_sum_15 : decode cX5_sum 15 = .ok (.if_icmp .ge 46, 3) := by decide +kernel
theorem dX5_sum_18 : decode cX5_sum 18 = .ok (.iload_n 2, 1) := by decide +kernel
theorem dX5_sum_19 : decode cX5_sum 19 = .ok (.bipush 43, 2) := by decide +kernel
theorem dX5_sum_21 : decode cX5_sum 21 = .ok (.if_icmp .eq 9, 3) := by decide +kernel
theorem dX5_sum_24 : decode cX5_sum 24 = .ok (.iload_n 2, 1) := by decide +kernel
theorem dX5_sum_25 : decode cX5_sum 25 = .ok (.bipush 45, 2) := by decide +kernel
theorem dX5_sum_27 : decode cX5_sum 27 = .ok (.if_icmp .ne 34, 3) := by decide +kernel
theorem dX5_sum_61 : decode cX5_sum 61 = .ok (.return_, 1) := by decide +kernel
set_option maxRecDepth 20000 in
theorem ggX5_product_X5_operand : GoodIn wsX5_product wsX5_operand := goodIn_r _ [39, 1, 6, 7, 8, 5, 9, 10, 11, 12, 40, 41, 42, 43, 44, 45, 46, 13, 14, 15, 16, 17, 18, 47, 48, 49, 35, 36, 37, 38, 50, 51, 52, 19, 20, 21, 22, 23, 24, 25, 26, 27, 28, 29, 30, 31, 2, 3, 4, 32, 33, 34, 0, 53, 54, 55, 56, 57, 58, 59, 60, 61, 62, 63, 64, 65, 66] (by decide +kernel) (by decide +kernel)
set_option maxRecDepth 20000 in
theorem gX5_product_X5_operand : GoodIn wsX5_product (wsV RX5 82 RX5 yX5_operand wsX5_operand) := goodIn_app (goodIn_of _ (by decide +kernel)) ggX5_product_X5_operand
set_option maxRecDepth 20000 in
theorem ggX5_product_X5_next : GoodIn wsX5_product wsX5_next := goodIn_r _ [9, 10, 1, 11, 12, 57, 58, 59, 60, 61, 62, 63, 64, 65, 66] (by decide +kernel) (by decide +kernel)
set_option maxRecDepth 20000 in
theorem gX5_product_X5_next : GoodIn wsX5_product (wsV RX5 56 RX5 yX5_next wsX5_next) := goodIn_app (goodIn_of _ (by decide +kernel)) ggX5_product_X5_next
theorem dX5_product_0 : decode cX5_product 0 = .ok (.aload_n 0, 1) := by decide +kernel
theorem dX5_product_1 : decode cX5_product 1 = .ok (.iload_n 1, 1) := by decide +kernel
theorem dX5_product_2 : decode cX5_product 2 = .ok (.invokevirtual 82, 3) := by decide +kernel
theorem dX5_product_5 : decode cX5_product 5 = .ok (.aload_n 0, 1) := by decide +kernel
theorem dX5_product_6 : decode cX5_product 6 = .ok (.invokevirtual 56, 3) := by decide +kernel
theorem dX5_product_9 : decode cX5_product 9 = .ok (.istore_n 2, 1) := by decide +kernel
theorem dX5_product_10 : decode cX5_product 10 = .ok (.iconst 0, 1) := by decide +kernel
theorem dX5_product_11 : decode cX5_product 11 = .ok (.istore_n 3, 1) := by decide +kernel
theorem dX5_product_12 : decode cX5_product 12 = .ok (.iload_n 3, 1) := by decide +kernel
theorem dX5_product_13 : decode cX5_product 13 = .ok (.bipush 120, 2) := by decide +kernel
theorem dX5_product_15 : decode cX5_product 15 = .ok (.if_icmp .ge 52, 3) := by decide +kernel
theorem dX5_product_18 : decode cX5_product 18 = .ok (.iload_n 2, 1) := by decide +kernel
theorem dX5_product_19 : decode cX5_product 19 = .ok (.bipush 42, 2) := by decide +kernel
theorem dX5_product_21 : decode cX5_product 21 = .ok (.if_icmp .eq 15, 3) := by decide +kernel
theorem dX5_product_24 : decode cX5_product 24 = .ok (.iload_n 2, 1) := by decide +kernel
theorem dX5_product_25 : decode cX5_product 25 = .ok (.bipush 47, 2) := by decide +kernel
theorem dX5_product_27 : decode cX5_product 27 = .ok (.if_icmp .eq 9, 3) := by decide +kernel
theorem dX5_product_30 : decode cX5_product 30 = .ok (.iload_n 2, 1) := by decide +kernel
theorem dX5_product_31 : decode cX5_product 31 = .ok (.bipush 37, 2) := by decide +kernel
theorem dX5_product_33 : decode cX5_product 33 = .ok (.if_icmp .ne 34, 3) := by decide +kernel
theorem dX5_product_67 : decode cX5_product 67 = .ok (.return_, 1) := by decide +kernel
set_option maxRecDepth 20000 in
theorem ggX5_operand_X5_next : GoodIn wsX5_operand wsX5_next := goodIn_r _ [6, 7, 1, 8, 9, 57, 58, 59, 60, 61, 62, 63, 64, 65, 66] (by decide +kernel) (by decide +kernel)
set_option maxRecDepth 20000 in
theorem gX5_operand_X5_next : GoodIn wsX5_operand (wsV RX5 56 RX5 yX5_next wsX5_next) := goodIn_app (goodIn_of _ (by decide +kernel)) ggX5_operand_X5_next
set_option maxRecDepth 20000 in
theorem ggX5_operand_X5_isDigit : GoodIn wsX5_operand wsX5_isDigit := goodIn_r _ [12] (by decide +kernel) (by decide +kernel)
set_option maxRecDepth 20000 in
theorem gX5_operand_X5_isDigit : GoodIn wsX5_operand (va_wsS RX5 85 yX5_isDigit wsX5_isDigit) := goodIn_app (goodIn_of _ (by decide +kernel)) ggX5_operand_X5_isDigit
set_option maxRecDepth 20000 in
theorem ggX5_operand_X5_isName : GoodIn wsX5_operand wsX5_isName := goodIn_r _ [25] (by decide +kernel) (by decide +kernel)
set_option maxRecDepth 20000 in
theorem gX5_operand_X5_isName : GoodIn wsX5_operand (va_wsS RX5 92 yX5_isName wsX5_isName) := goodIn_app (goodIn_of _ (by decide +kernel)) ggX5_operand_X5_isName
set_option maxRecDepth 20000 in
theorem ggX5_operand_X5_fail : GoodIn wsX5_operand wsX5_fail := goodIn_r _ [29, 7, 1, 57, 58, 59, 60, 61, 62, 63, 64, 65, 66] (by decide +kernel) (by decide +kernel)
set_option maxRecDepth 20000 in
theorem gX5_operand_X5_fail : GoodIn wsX5_operand (wsV RX5 60 RX5 yX5_fail wsX5_fail) := goodIn_app (goodIn_of _ (by decide +kernel)) ggX5_operand_X5_fail
theorem dX5_operand_0 : decode cX5_operand 0 = .ok (.aload_n 0, 1) := by decide +kernel
theorem dX5_operand_1 : decode cX5_operand 1 = .ok (.invokevirtual 56, 3) := by decide +kernel
theorem dX5_operand_4 : decode cX5_operand 4 = .ok (.istore_n 2, 1) := by decide +kernel
theorem dX5_operand_5 : decode cX5_operand 5 = .ok (.iload_n 2, 1) := by decide +kernel
theorem dX5_operand_6 : decode cX5_operand 6 = .ok (.invokestatic 85, 3) := by decide +kernel
theorem dX5_operand_9 : decode cX5_operand 9 = .ok (.ifCond .eq 10, 3) := by decide +kernel
theorem dX5_operand_19 : decode cX5_operand 19 = .ok (.iload_n 2, 1) := by decide +kernel
theorem dX5_operand_20 : decode cX5_operand 20 = .ok (.invokestatic 92, 3) := by decide +kernel
theorem dX5_operand_23 : decode cX5_operand 23 = .ok (.ifCond .eq 21, 3) := by decide +kernel
theorem dX5_operand_44 : decode cX5_operand 44 = .ok (.iload_n 2, 1) := by decide +kernel
theorem dX5_operand_45 : decode cX5_operand 45 = .ok (.bipush 40, 2) := by decide +kernel
theorem dX5_operand_47 : decode cX5_operand 47 = .ok (.if_icmp .eq 15, 3) := by decide +kernel
theorem dX5_operand_50 : decode cX5_operand 50 = .ok (.iload_n 2, 1) := by decide +kernel
theorem dX5_operand_51 : decode cX5_operand 51 = .ok (.bipush 33, 2) := by decide +kernel
theorem dX5_operand_53 : decode cX5_operand 53 = .ok (.if_icmp .eq 9, 3) := by decide +kernel
theorem dX5_operand_56 : decode cX5_operand 56 = .ok (.iload_n 2, 1) := by decide +kernel
theorem dX5_operand_57 : decode cX5_operand 57 = .ok (.bipush 45, 2) := by decide +kernel
theorem dX5_operand_59 : decode cX5_operand 59 = .ok (.if_icmp .ne 9, 3) := by decide +kernel
theorem dX5_operand_68 : decode cX5_operand 68 = .ok (.aload_n 0, 1) := by decide +kernel
theorem dX5_operand_69 : decode cX5_operand 69 = .ok (.invokevirtual 60, 3) := by decide +kernel
theorem dX5_operand_72 : decode cX5_operand 72 = .ok (.goto 21, 3) := by decide +kernel
theorem dX5_operand_93 : decode cX5_operand 93 = .ok (.return_, 1) := by decide +kernel
theorem dX5_isDigit_0 : decode cX5_isDigit 0 = .ok (.iload_n 0, 1) := by decide +kernel
theorem dX5_isDigit_1 : decode cX5_isDigit 1 = .ok (.bipush 48, 2) := by decide +kernel
theorem dX5_isDigit_3 : decode cX5_isDigit 3 = .ok (.if_icmp .lt 13, 3) := by decide +kernel
theorem dX5_isDigit_16 : decode cX5_isDigit 16 = .ok (.iconst 0, 1) := by decide +kernel
theorem dX5_isDigit_17 : decode cX5_isDigit 17 = .ok (.ireturn, 1) := by decide +kernel
theorem dX5_isName_0 : decode cX5_isName 0 = .ok (.iload_n 0, 1) := by decide +kernel
theorem dX5_isName_1 : decode cX5_isName 1 = .ok (.bipush 100, 2) := by decide +kernel
theorem dX5_isName_3 : decode cX5_isName 3 = .ok (.if_icmp .eq 33, 3) := by decide +kernel
theorem dX5_isName_6 : decode cX5_isName 6 = .ok (.iload_n 0, 1) := by decide +kernel
theorem dX5_isName_7 : decode cX5_isName 7 = .ok (.bipush 117, 2) := by decide +kernel
theorem dX5_isName_9 : decode cX5_isName 9 = .ok (.if_icmp .eq 27, 3) := by decide +kernel
theorem dX5_isName_12 : decode cX5_isName 12 = .ok (.iload_n 0, 1) := by decide +kernel
theorem dX5_isName_13 : decode cX5_isName 13 = .ok (.bipush 115, 2) := by decide +kernel
theorem dX5_isName_15 : decode cX5_isName 15 = .ok (.if_icmp .eq 21, 3) := by decide +kernel
theorem dX5_isName_18 : decode cX5_isName 18 = .ok (.iload_n 0, 1) := by decide +kernel
theorem dX5_isName_19 : decode cX5_isName 19 = .ok (.bipush 119, 2) := by decide +kernel
theorem dX5_isName_21 : decode cX5_isName 21 = .ok (.if_icmp .eq 15, 3) := by decide +kernel
theorem dX5_isName_24 : decode cX5_isName 24 = .ok (.iload_n 0, 1) := by decide +kernel
theorem dX5_isName_25 : decode cX5_isName 25 = .ok (.bipush 104, 2) := by decide +kernel
theorem dX5_isName_27 : decode cX5_isName 27 = .ok (.if_icmp .eq 9, 3) := by decide +kernel
theorem dX5_isName_30 : decode cX5_isName 30 = .ok (.iload_n 0, 1) := by decide +kernel
theorem dX5_isName_31 : decode cX5_isName 31 = .ok (.bipush 107, 2) := by decide +kernel
theorem dX5_isName_33 : decode cX5_isName 33 = .ok (.if_icmp .ne 7, 3) := by decide +kernel
theorem dX5_isName_40 : decode cX5_isName 40 = .ok (.iconst 0, 1) := by decide +kernel
theorem dX5_isName_41 : decode cX5_isName 41 = .ok (.ireturn, 1) := by decide +kernel
theorem dX5_next_0 : decode cX5_next 0 = .ok (.aload_n 0, 1) := by decide +kernel
theorem dX5_next_1 : decode cX5_next 1 = .ok (.getfield 31, 3) := by decide +kernel
theorem dX5_next_4 : decode cX5_next 4 = .ok (.ifCond .ge 26, 3) := by decide +kernel
theorem dX5_next_7 : decode cX5_next 7 = .ok (.aload_n 0, 1) := by decide +kernel
theorem dX5_next_8 : decode cX5_next 8 = .ok (.getfield 28, 3) := by decide +kernel
theorem dX5_next_11 : decode cX5_next 11 = .ok (.aload_n 0, 1) := by decide +kernel
theorem dX5_next_12 : decode cX5_next 12 = .ok (.getfield 24, 3) := by decide +kernel
theorem dX5_next_15 : decode cX5_next 15 = .ok (.if_icmp .ge 15, 3) := by decide +kernel
theorem dX5_next_30 : decode cX5_next 30 = .ok (.iconst (-1), 1) := by decide +kernel
theorem dX5_next_31 : decode cX5_next 31 = .ok (.ireturn, 1) := by decide +kernel
theorem dX5_fail_0 : decode cX5_fail 0 = .ok (.aload_n 0, 1) := by decide +kernel
theorem dX5_fail_1 : decode cX5_fail 1 = .ok (.getfield 31, 3) := by decide +kernel
theorem dX5_fail_4 : decode cX5_fail 4 = .ok (.ifCond .ge 11, 3) := by decide +kernel
theorem dX5_fail_7 : decode cX5_fail 7 = .ok (.aload_n 0, 1) := by decide +kernel
theorem dX5_fail_8 : decode cX5_fail 8 = .ok (.aload_n 0, 1) := by decide +kernel
theorem dX5_fail_9 : decode cX5_fail 9 = .ok (.getfield 28, 3) := by decide +kernel
theorem dX5_fail_12 : decode cX5_fail 12 = .ok (.putfield 31, 3) := by decide +kernel
theorem dX5_fail_15 : decode cX5_fail 15 = .ok (.return_, 1) := by decide +kernel
theorem dX5_write_0 : decode cX5_write 0 = .ok (.aload_n 0, 1) := by decide +kernel
theorem dX5_write_1 : decode cX5_write 1 = .ok (.getfield 34, 3) := by decide +kernel
theorem dX5_write_4 : decode cX5_write 4 = .ok (.aload_n 0, 1) := by decide +kernel
theorem dX5_write_5 : decode cX5_write 5 = .ok (.getfield 15, 3) := by decide +kernel
theorem dX5_write_8 : decode cX5_write 8 = .ok (.arraylength, 1) := by decide +kernel
theorem dX5_write_9 : decode cX5_write 9 = .ok (.if_icmp .ge 23, 3) := by decide +kernel
theorem dX5_write_12 : decode cX5_write 12 = .ok (.aload_n 0, 1) := by decide +kernel
theorem dX5_write_13 : decode cX5_write 13 = .ok (.getfield 15, 3) := by decide +kernel
theorem dX5_write_16 : decode cX5_write 16 = .ok (.aload_n 0, 1) := by decide +kernel
theorem dX5_write_17 : decode cX5_write 17 = .ok (.getfield 34, 3) := by decide +kernel
theorem dX5_write_20 : decode cX5_write 20 = .ok (.iload_n 1, 1) := by decide +kernel
theorem dX5_write_21 : decode cX5_write 21 = .ok (.iastore, 1) := by decide +kernel
theorem dX5_write_22 : decode cX5_write 22 = .ok (.aload_n 0, 1) := by decide +kernel
theorem dX5_write_23 : decode cX5_write 23 = .ok (.dup, 1) := by decide +kernel
theorem dX5_write_24 : decode cX5_write 24 = .ok (.getfield 34, 3) := by decide +kernel
theorem dX5_write_27 : decode cX5_write 27 = .ok (.iconst 1, 1) := by decide +kernel
theorem dX5_write_28 : decode cX5_write 28 = .ok (.iadd, 1) := by decide +kernel
theorem dX5_write_29 : decode cX5_write 29 = .ok (.putfield 34, 3) := by decide +kernel
theorem dX5_write_32 : decode cX5_write 32 = .ok (.return_, 1) := by decide +kernel
theorem dX6_init_0 : decode cX6_init 0 = .ok (.aload_n 0, 1) := by decide +kernel
theorem dX6_init_1 : decode cX6_init 1 = .ok (.invokespecial 3, 3) := by decide +kernel
theorem dX6_init_4 : decode cX6_init 4 = .ok (.aload_n 0, 1) := by decide +kernel
theorem dX6_init_5 : decode cX6_init 5 = .ok (.aload_n 1, 1) := by decide +kernel
theorem dX6_init_6 : decode cX6_init 6 = .ok (.putfield 9, 3) := by decide +kernel
theorem dX6_init_9 : decode cX6_init 9 = .ok (.return_, 1) := by decide +kernel
theorem dX7_init_0 : decode cX7_init 0 = .ok (.aload_n 0, 1) := by decide +kernel
theorem dX7_init_1 : decode cX7_init 1 = .ok (.invokespecial 3, 3) := by decide +kernel
theorem dX7_init_4 : decode cX7_init 4 = .ok (.aload_n 0, 1) := by decide +kernel
theorem dX7_init_5 : decode cX7_init 5 = .ok (.bipush 60, 2) := by decide +kernel
theorem dX7_init_7 : decode cX7_init 7 = .ok (.newarray .long, 2) := by decide +kernel
theorem dX7_init_9 : decode cX7_init 9 = .ok (.putfield 9, 3) := by decide +kernel
theorem dX7_init_12 : decode cX7_init 12 = .ok (.aload_n 0, 1) := by decide +kernel
theorem dX7_init_13 : decode cX7_init 13 = .ok (.iconst (-1), 1) := by decide +kernel
theorem dX7_init_14 : decode cX7_init 14 = .ok (.putfield 15, 3) := by decide +kernel
theorem dX7_init_17 : decode cX7_init 17 = .ok (.return_, 1) := by decide +kernel
theorem dX7_takesDesk_0 : decode cX7_takesDesk 0 = .ok (.aload_n 0, 1) := by decide +kernel
theorem dX7_takesDesk_1 : decode cX7_takesDesk 1 = .ok (.iload_n 1, 1) := by decide +kernel
theorem dX7_takesDesk_2 : decode cX7_takesDesk 2 = .ok (.ifCond .ge 7, 3) := by decide +kernel
theorem dX7_takesDesk_5 : decode cX7_takesDesk 5 = .ok (.iconst (-1), 1) := by decide +kernel
theorem dX7_takesDesk_6 : decode cX7_takesDesk 6 = .ok (.goto 5, 3) := by decide +kernel
theorem dX7_takesDesk_9 : decode cX7_takesDesk 9 = .ok (.bipush (-2), 2) := by decide +kernel
theorem dX7_takesDesk_11 : decode cX7_takesDesk 11 = .ok (.putfield 15, 3) := by decide +kernel
theorem dX7_takesDesk_14 : decode cX7_takesDesk 14 = .ok (.aload_n 0, 1) := by decide +kernel
theorem dX7_takesDesk_15 : decode cX7_takesDesk 15 = .ok (.iload_n 1, 1) := by decide +kernel
theorem dX7_takesDesk_16 : decode cX7_takesDesk 16 = .ok (.putfield 19, 3) := by decide +kernel
theorem dX7_takesDesk_19 : decode cX7_takesDesk 19 = .ok (.return_, 1) := by decide +kernel
theorem dX7_takesRow_0 : decode cX7_takesRow 0 = .ok (.aload_n 0, 1) := by decide +kernel
theorem dX7_takesRow_1 : decode cX7_takesRow 1 = .ok (.iload_n 1, 1) := by decide +kernel
theorem dX7_takesRow_2 : decode cX7_takesRow 2 = .ok (.putfield 15, 3) := by decide +kernel
theorem dX7_takesRow_5 : decode cX7_takesRow 5 = .ok (.aload_n 0, 1) := by decide +kernel
theorem dX7_takesRow_6 : decode cX7_takesRow 6 = .ok (.iload_n 2, 1) := by decide +kernel
theorem dX7_takesRow_7 : decode cX7_takesRow 7 = .ok (.putfield 22, 3) := by decide +kernel
theorem dX7_takesRow_10 : decode cX7_takesRow 10 = .ok (.iconst 0, 1) := by decide +kernel
theorem dX7_takesRow_11 : decode cX7_takesRow 11 = .ok (.istore_n 3, 1) := by decide +kernel
theorem dX7_takesRow_12 : decode cX7_takesRow 12 = .ok (.iload_n 3, 1) := by decide +kernel
theorem dX7_takesRow_13 : decode cX7_takesRow 13 = .ok (.iload_n 2, 1) := by decide +kernel
theorem dX7_takesRow_14 : decode cX7_takesRow 14 = .ok (.if_icmp .ge 16, 3) := by decide +kernel
theorem dX7_takesRow_17 : decode cX7_takesRow 17 = .ok (.aload_n 0, 1) := by decide +kernel
theorem dX7_takesRow_18 : decode cX7_takesRow 18 = .ok (.getfield 9, 3) := by decide +kernel
theorem dX7_takesRow_21 : decode cX7_takesRow 21 = .ok (.iload_n 3, 1) := by decide +kernel
theorem dX7_takesRow_22 : decode cX7_takesRow 22 = .ok (.lconst 0, 1) := by decide +kernel
theorem dX7_takesRow_23 : decode cX7_takesRow 23 = .ok (.lastore, 1) := by decide +kernel
theorem dX7_takesRow_24 : decode cX7_takesRow 24 = .ok (.iinc 3 1, 3) := by decide +kernel
theorem dX7_takesRow_27 : decode cX7_takesRow 27 = .ok (.goto (-15), 3) := by decide +kernel
theorem dX7_takesRow_30 : decode cX7_takesRow 30 = .ok (.return_, 1) := by decide +kernel
theorem dX8_init_0 : decode cX8_init 0 = .ok (.aload_n 0, 1) := by decide +kernel
theorem dX8_init_1 : decode cX8_init 1 = .ok (.invokespecial 3, 3) := by decide +kernel
theorem dX8_init_4 : decode cX8_init 4 = .ok (.aload_n 0, 1) := by decide +kernel
theorem dX8_init_5 : decode cX8_init 5 = .ok (.bipush 61, 2) := by decide +kernel
theorem dX8_init_7 : decode cX8_init 7 = .ok (.newarray .int, 2) := by decide +kernel
theorem dX8_init_9 : decode cX8_init 9 = .ok (.putfield 9, 3) := by decide +kernel
theorem dX8_init_12 : decode cX8_init 12 = .ok (.aload_n 0, 1) := by decide +kernel
theorem dX8_init_13 : decode cX8_init 13 = .ok (.bipush 61, 2) := by decide +kernel
theorem dX8_init_15 : decode cX8_init 15 = .ok (.newarray .boolean, 2) := by decide +kernel
theorem dX8_init_17 : decode cX8_init 17 = .ok (.putfield 15, 3) := by decide +kernel
theorem dX8_init_20 : decode cX8_init 20 = .ok (.aload_n 0, 1) := by decide +kernel
theorem dX8_init_21 : decode cX8_init 21 = .ok (.bipush 8, 2) := by decide +kernel
theorem dX8_init_23 : decode cX8_init 23 = .ok (.newarray .int, 2) := by decide +kernel
theorem dX8_init_25 : decode cX8_init 25 = .ok (.putfield 19, 3) := by decide +kernel
theorem dX8_init_28 : decode cX8_init 28 = .ok (.aload_n 0, 1) := by decide +kernel
theorem dX8_init_29 : decode cX8_init 29 = .ok (.sipush 256, 3) := by decide +kernel
theorem dX8_init_32 : decode cX8_init 32 = .ok (.newarray .int, 2) := by decide +kernel
theorem dX8_init_34 : decode cX8_init 34 = .ok (.putfield 22, 3) := by decide +kernel
theorem dX8_init_37 : decode cX8_init 37 = .ok (.aload_n 0, 1) := by decide +kernel
theorem dX8_init_38 : decode cX8_init 38 = .ok (.sipush 256, 3) := by decide +kernel
theorem dX8_init_41 : decode cX8_init 41 = .ok (.newarray .int, 2) := by decide +kernel
theorem dX8_init_43 : decode cX8_init 43 = .ok (.putfield 25, 3) := by decide +kernel
theorem dX8_init_46 : decode cX8_init 46 = .ok (.aload_n 0, 1) := by decide +kernel
theorem dX8_init_47 : decode cX8_init 47 = .ok (.iconst 3, 1) := by decide +kernel
theorem dX8_init_48 : decode cX8_init 48 = .ok (.newarray .int, 2) := by decide +kernel
theorem dX8_init_50 : decode cX8_init 50 = .ok (.putfield 28, 3) := by decide +kernel
theorem dX8_init_53 : decode cX8_init 53 = .ok (.aload_n 0, 1) := by decide +kernel
theorem dX8_init_54 : decode cX8_init 54 = .ok (.iconst 3, 1) := by decide +kernel
theorem dX8_init_55 : decode cX8_init 55 = .ok (.newarray .int, 2) := by decide +kernel
theorem dX8_init_57 : decode cX8_init 57 = .ok (.putfield 31, 3) := by decide +kernel
theorem dX8_init_60 : decode cX8_init 60 = .ok (.aload_n 0, 1) := by decide +kernel
theorem dX8_init_61 : decode cX8_init 61 = .ok (.aload_n 1, 1) := by decide +kernel
theorem dX8_init_62 : decode cX8_init 62 = .ok (.putfield 34, 3) := by decide +kernel
theorem dX8_init_65 : decode cX8_init 65 = .ok (.aload_n 0, 1) := by decide +kernel
theorem dX8_init_66 : decode cX8_init 66 = .ok (.aload_n 2, 1) := by decide +kernel
theorem dX8_init_67 : decode cX8_init 67 = .ok (.putfield 38, 3) := by decide +kernel
theorem dX8_init_70 : decode cX8_init 70 = .ok (.return_, 1) := by decide +kernel
theorem dX9_init_0 : decode cX9_init 0 = .ok (.aload_n 0, 1) := by decide +kernel
theorem dX9_init_1 : decode cX9_init 1 = .ok (.invokespecial 3, 3) := by decide +kernel
theorem dX9_init_4 : decode cX9_init 4 = .ok (.aload_n 0, 1) := by decide +kernel
theorem dX9_init_5 : decode cX9_init 5 = .ok (.sipush 1342, 3) := by decide +kernel
theorem dX9_init_8 : decode cX9_init 8 = .ok (.newarray .int, 2) := by decide +kernel
theorem dX9_init_10 : decode cX9_init 10 = .ok (.putfield 9, 3) := by decide +kernel
theorem dX9_init_13 : decode cX9_init 13 = .ok (.aload_n 0, 1) := by decide +kernel
theorem dX9_init_14 : decode cX9_init 14 = .ok (.aload_n 1, 1) := by decide +kernel
theorem dX9_init_15 : decode cX9_init 15 = .ok (.putfield 15, 3) := by decide +kernel
theorem dX9_init_18 : decode cX9_init 18 = .ok (.aload_n 0, 1) := by decide +kernel
theorem dX9_init_19 : decode cX9_init 19 = .ok (.aload_n 2, 1) := by decide +kernel
theorem dX9_init_20 : decode cX9_init 20 = .ok (.putfield 19, 3) := by decide +kernel
theorem dX9_init_23 : decode cX9_init 23 = .ok (.return_, 1) := by decide +kernel
theorem dX10_init_0 : decode cX10_init 0 = .ok (.aload_n 0, 1) := by decide +kernel
theorem dX10_init_1 : decode cX10_init 1 = .ok (.invokespecial 3, 3) := by decide +kernel
theorem dX10_init_4 : decode cX10_init 4 = .ok (.aload_n 0, 1) := by decide +kernel
theorem dX10_init_5 : decode cX10_init 5 = .ok (.bipush 21, 2) := by decide +kernel
theorem dX10_init_7 : decode cX10_init 7 = .ok (.newarray .int, 2) := by decide +kernel
theorem dX10_init_9 : decode cX10_init 9 = .ok (.putfield 9, 3) := by decide +kernel
theorem dX10_init_12 : decode cX10_init 12 = .ok (.aload_n 0, 1) := by decide +kernel
theorem dX10_init_13 : decode cX10_init 13 = .ok (.bipush 8, 2) := by decide +kernel
theorem dX10_init_15 : decode cX10_init 15 = .ok (.newarray .int, 2) := by decide +kernel
theorem dX10_init_17 : decode cX10_init 17 = .ok (.putfield 15, 3) := by decide +kernel
theorem dX10_init_20 : decode cX10_init 20 = .ok (.return_, 1) := by decide +kernel
set_option maxRecDepth 20000 in
theorem ggX11_init_X0_init : GoodIn wsX11_init wsX0_init := goodIn_r _ [46, 47, 2, 3, 48, 49, 50, 51, 52, 53, 54, 55, 56, 57, 58, 59, 60, 61, 62, 131, 132, 133, 134, 135, 201, 202, 203, 204, 205, 206, 207, 208, 209, 210] (by decide +kernel) (by decide +kernel)
set_option maxRecDepth 20000 in
theorem gX11_init_X0_init : GoodIn wsX11_init (wsX0_init) := ggX11_init_X0_init
set_option maxRecDepth 20000 in
theorem ggX11_init_X10_init : GoodIn wsX11_init wsX10_init := goodIn_r _ [64, 65, 2, 3, 48, 66, 67, 146, 147, 148, 149] (by decide +kernel) (by decide +kernel)
set_option maxRecDepth 20000 in
theorem gX11_init_X10_init_n18 : GoodIn wsX11_init (wsX10_init) := ggX11_init_X10_init
set_option maxRecDepth 20000 in
theorem ggX11_init_X4_init : GoodIn wsX11_init wsX4_init := goodIn_r _ [70, 71, 2, 3, 48, 72, 73, 74, 75, 76, 77, 78, 150, 151, 152, 153, 154, 155, 156, 157, 158, 159, 160] (by decide +kernel) (by decide +kernel)
set_option maxRecDepth 20000 in
theorem gX11_init_X4_init : GoodIn wsX11_init (wsX4_init) := ggX11_init_X4_init
set_option maxRecDepth 20000 in
theorem ggX11_init_X8_init : GoodIn wsX11_init wsX8_init := goodIn_r _ [81, 82, 2, 3, 48, 83, 84, 85, 86, 87, 88, 89, 90, 91, 92, 161, 162, 163, 164, 165, 166, 167, 168, 169, 170, 171, 172, 173] (by decide +kernel) (by decide +kernel)
set_option maxRecDepth 20000 in
theorem gX11_init_X8_init : GoodIn wsX11_init (wsX8_init) := ggX11_init_X8_init
set_option maxRecDepth 20000 in
theorem ggX11_init_X9_init : GoodIn wsX11_init wsX9_init := goodIn_r _ [95, 96, 2, 3, 48, 97, 98, 99, 174, 175, 176] (by decide +kernel) (by decide +kernel)
set_option maxRecDepth 20000 in
theorem gX11_init_X9_init : GoodIn wsX11_init (wsX9_init) := ggX11_init_X9_init
set_option maxRecDepth 20000 in
theorem ggX11_init_X6_init : GoodIn wsX11_init wsX6_init := goodIn_r _ [102, 103, 2, 3, 104, 177, 178, 179] (by decide +kernel) (by decide +kernel)
set_option maxRecDepth 20000 in
theorem gX11_init_X6_init : GoodIn wsX11_init (wsX6_init) := ggX11_init_X6_init
set_option maxRecDepth 20000 in
theorem ggX11_init_X2_init : GoodIn wsX11_init wsX2_init := goodIn_r _ [107, 108, 2, 3, 48, 109, 110, 111, 112, 113, 180, 181, 182, 183, 184, 185] (by decide +kernel) (by decide +kernel)
set_option maxRecDepth 20000 in
theorem gX11_init_X2_init : GoodIn wsX11_init (wsX2_init) := ggX11_init_X2_init
set_option maxRecDepth 20000 in
theorem ggX11_init_X1_init : GoodIn wsX11_init wsX1_init := goodIn_r _ [115, 116, 2, 3, 48, 117, 118, 119, 186, 187, 188, 189, 190] (by decide +kernel) (by decide +kernel)
set_option maxRecDepth 20000 in
theorem gX11_init_X1_init_n66 : GoodIn wsX11_init (wsX1_init) := ggX11_init_X1_init
set_option maxRecDepth 20000 in
theorem ggX11_init_X3_init : GoodIn wsX11_init wsX3_init := goodIn_r _ [121, 122, 2, 3, 48, 123, 124, 191, 192, 193, 194, 195, 196] (by decide +kernel) (by decide +kernel)
set_option maxRecDepth 20000 in
theorem gX11_init_X3_init_n73 : GoodIn wsX11_init (wsX3_init) := ggX11_init_X3_init
set_option maxRecDepth 20000 in
theorem ggX11_init_X7_init : GoodIn wsX11_init wsX7_init := goodIn_r _ [126, 127, 2, 3, 128, 129, 130, 197, 198, 199, 200] (by decide +kernel) (by decide +kernel)
set_option maxRecDepth 20000 in
theorem gX11_init_X7_init_n84 : GoodIn wsX11_init (wsX7_init) := ggX11_init_X7_init
theorem dX11_init_0 : decode cX11_init 0 = .ok (.aload_n 0, 1) := by decide +kernel
theorem dX11_init_1 : decode cX11_init 1 = .ok (.invokespecial 3, 3) := by decide +kernel
theorem dX11_init_4 : decode cX11_init 4 = .ok (.aload_n 0, 1) := by decide +kernel
theorem dX11_init_5 : decode cX11_init 5 = .ok (.new 9, 3) := by decide +kernel
theorem dX11_init_8 : decode cX11_init 8 = .ok (.dup, 1) := by decide +kernel
theorem dX11_init_9 : decode cX11_init 9 = .ok (.invokespecial 11, 3) := by decide +kernel
theorem dX11_init_12 : decode cX11_init 12 = .ok (.putfield 12, 3) := by decide +kernel
theorem dX11_init_15 : decode cX11_init 15 = .ok (.aload_n 0, 1) := by decide +kernel
theorem dX11_init_16 : decode cX11_init 16 = .ok (.new 16, 3) := by decide +kernel
theorem dX11_init_19 : decode cX11_init 19 = .ok (.dup, 1) := by decide +kernel
theorem dX11_init_20 : decode cX11_init 20 = .ok (.invokespecial 18, 3) := by decide +kernel
theorem dX11_init_23 : decode cX11_init 23 = .ok (.putfield 19, 3) := by decide +kernel
theorem dX11_init_26 : decode cX11_init 26 = .ok (.aload_n 0, 1) := by decide +kernel
theorem dX11_init_27 : decode cX11_init 27 = .ok (.new 23, 3) := by decide +kernel
theorem dX11_init_30 : decode cX11_init 30 = .ok (.dup, 1) := by decide +kernel
theorem dX11_init_31 : decode cX11_init 31 = .ok (.aload_n 0, 1) := by decide +kernel
theorem dX11_init_32 : decode cX11_init 32 = .ok (.getfield 12, 3) := by decide +kernel
theorem dX11_init_35 : decode cX11_init 35 = .ok (.aload_n 0, 1) := by decide +kernel
theorem dX11_init_36 : decode cX11_init 36 = .ok (.getfield 19, 3) := by decide +kernel
theorem dX11_init_39 : decode cX11_init 39 = .ok (.invokespecial 25, 3) := by decide +kernel
theorem dX11_init_42 : decode cX11_init 42 = .ok (.putfield 28, 3) := by decide +kernel
theorem dX11_init_45 : decode cX11_init 45 = .ok (.aload_n 0, 1) := by decide +kernel
theorem dX11_init_46 : decode cX11_init 46 = .ok (.new 32, 3) := by decide +kernel
theorem dX11_init_49 : decode cX11_init 49 = .ok (.dup, 1) := by decide +kernel
theorem dX11_init_50 : decode cX11_init 50 = .ok (.aload_n 0, 1) := by decide +kernel
theorem dX11_init_51 : decode cX11_init 51 = .ok (.getfield 12, 3) := by decide +kernel
theorem dX11_init_54 : decode cX11_init 54 = .ok (.aload_n 0, 1) := by decide +kernel
theorem dX11_init_55 : decode cX11_init 55 = .ok (.getfield 19, 3) := by decide +kernel
theorem dX11_init_58 : decode cX11_init 58 = .ok (.invokespecial 34, 3) := by decide +kernel
theorem dX11_init_61 : decode cX11_init 61 = .ok (.putfield 35, 3) := by decide +kernel
theorem dX11_init_64 : decode cX11_init 64 = .ok (.aload_n 0, 1) := by decide +kernel
theorem dX11_init_65 : decode cX11_init 65 = .ok (.new 39, 3) := by decide +kernel
theorem dX11_init_68 : decode cX11_init 68 = .ok (.dup, 1) := by decide +kernel
theorem dX11_init_69 : decode cX11_init 69 = .ok (.aload_n 0, 1) := by decide +kernel
theorem dX11_init_70 : decode cX11_init 70 = .ok (.getfield 12, 3) := by decide +kernel
theorem dX11_init_73 : decode cX11_init 73 = .ok (.aload_n 0, 1) := by decide +kernel
theorem dX11_init_74 : decode cX11_init 74 = .ok (.getfield 19, 3) := by decide +kernel
theorem dX11_init_77 : decode cX11_init 77 = .ok (.invokespecial 41, 3) := by decide +kernel
theorem dX11_init_80 : decode cX11_init 80 = .ok (.putfield 42, 3) := by decide +kernel
theorem dX11_init_83 : decode cX11_init 83 = .ok (.aload_n 0, 1) := by decide +kernel
theorem dX11_init_84 : decode cX11_init 84 = .ok (.new 46, 3) := by decide +kernel
theorem dX11_init_87 : decode cX11_init 87 = .ok (.dup, 1) := by decide +kernel
theorem dX11_init_88 : decode cX11_init 88 = .ok (.aload_n 0, 1) := by decide +kernel
theorem dX11_init_89 : decode cX11_init 89 = .ok (.getfield 12, 3) := by decide +kernel
theorem dX11_init_92 : decode cX11_init 92 = .ok (.invokespecial 48, 3) := by decide +kernel
theorem dX11_init_95 : decode cX11_init 95 = .ok (.putfield 51, 3) := by decide +kernel
theorem dX11_init_98 : decode cX11_init 98 = .ok (.aload_n 0, 1) := by decide +kernel
theorem dX11_init_99 : decode cX11_init 99 = .ok (.new 55, 3) := by decide +kernel
theorem dX11_init_102 : decode cX11_init 102 = .ok (.dup, 1) := by decide +kernel
theorem dX11_init_103 : decode cX11_init 103 = .ok (.aload_n 0, 1) := by decide +kernel
theorem dX11_init_104 : decode cX11_init 104 = .ok (.getfield 12, 3) := by decide +kernel
theorem dX11_init_107 : decode cX11_init 107 = .ok (.aload_n 0, 1) := by decide +kernel
theorem dX11_init_108 : decode cX11_init 108 = .ok (.getfield 28, 3) := by decide +kernel
theorem dX11_init_111 : decode cX11_init 111 = .ok (.invokespecial 57, 3) := by decide +kernel
theorem dX11_init_114 : decode cX11_init 114 = .ok (.putfield 60, 3) := by decide +kernel
theorem dX11_init_117 : decode cX11_init 117 = .ok (.aload_n 0, 1) := by decide +kernel
theorem dX11_init_118 : decode cX11_init 118 = .ok (.new 64, 3) := by decide +kernel
theorem dX11_init_121 : decode cX11_init 121 = .ok (.dup, 1) := by decide +kernel
theorem dX11_init_122 : decode cX11_init 122 = .ok (.invokespecial 66, 3) := by decide +kernel
theorem dX11_init_125 : decode cX11_init 125 = .ok (.putfield 67, 3) := by decide +kernel
theorem dX11_init_128 : decode cX11_init 128 = .ok (.aload_n 0, 1) := by decide +kernel
theorem dX11_init_129 : decode cX11_init 129 = .ok (.new 71, 3) := by decide +kernel
theorem dX11_init_132 : decode cX11_init 132 = .ok (.dup, 1) := by decide +kernel
theorem dX11_init_133 : decode cX11_init 133 = .ok (.invokespecial 73, 3) := by decide +kernel
theorem dX11_init_136 : decode cX11_init 136 = .ok (.putfield 74, 3) := by decide +kernel
theorem dX11_init_139 : decode cX11_init 139 = .ok (.aload_n 0, 1) := by decide +kernel
theorem dX11_init_140 : decode cX11_init 140 = .ok (.bipush 6, 2) := by decide +kernel
theorem dX11_init_142 : decode cX11_init 142 = .ok (.anewarray 78, 3) := by decide +kernel
theorem dX11_init_145 : decode cX11_init 145 = .ok (.putfield 80, 3) := by decide +kernel
theorem dX11_init_148 : decode cX11_init 148 = .ok (.iconst 0, 1) := by decide +kernel
theorem dX11_init_149 : decode cX11_init 149 = .ok (.istore_n 1, 1) := by decide +kernel
theorem dX11_init_150 : decode cX11_init 150 = .ok (.iload_n 1, 1) := by decide +kernel
theorem dX11_init_151 : decode cX11_init 151 = .ok (.bipush 6, 2) := by decide +kernel
theorem dX11_init_153 : decode cX11_init 153 = .ok (.if_icmp .ge 22, 3) := by decide +kernel
theorem dX11_init_156 : decode cX11_init 156 = .ok (.aload_n 0, 1) := by decide +kernel
theorem dX11_init_157 : decode cX11_init 157 = .ok (.getfield 80, 3) := by decide +kernel
theorem dX11_init_160 : decode cX11_init 160 = .ok (.iload_n 1, 1) := by decide +kernel
theorem dX11_init_161 : decode cX11_init 161 = .ok (.new 78, 3) := by decide +kernel
theorem dX11_init_164 : decode cX11_init 164 = .ok (.dup, 1) := by decide +kernel
theorem dX11_init_165 : decode cX11_init 165 = .ok (.invokespecial 84, 3) := by decide +kernel
theorem dX11_init_168 : decode cX11_init 168 = .ok (.aastore, 1) := by decide +kernel
theorem dX11_init_169 : decode cX11_init 169 = .ok (.iinc 1 1, 3) := by decide +kernel
theorem dX11_init_172 : decode cX11_init 172 = .ok (.goto (-22), 3) := by decide +kernel
theorem dX11_init_175 : decode cX11_init 175 = .ok (.return_, 1) := by decide +kernel
set_option maxRecDepth 20000 in
theorem ggX11_sitter_X11_isSetting : GoodIn wsX11_sitter wsX11_isSetting := goodIn_r _ [5] (by decide +kernel) (by decide +kernel)
set_option maxRecDepth 20000 in
theorem gX11_sitter_X11_isSetting : GoodIn wsX11_sitter (va_wsS RX11 85 yX11_isSetting wsX11_isSetting) := goodIn_app (goodIn_of _ (by decide +kernel)) ggX11_sitter_X11_isSetting
set_option maxRecDepth 20000 in
theorem ggX11_sitter_X11_fits : GoodIn wsX11_sitter wsX11_fits := goodIn_r _ [8, 9, 10] (by decide +kernel) (by decide +kernel)
set_option maxRecDepth 20000 in
theorem gX11_sitter_X11_fits : GoodIn wsX11_sitter (va_wsS RX11 89 yX11_fits wsX11_fits) := goodIn_app (goodIn_of _ (by decide +kernel)) ggX11_sitter_X11_fits
set_option maxRecDepth 20000 in
theorem ggX11_sitter_X0_comes : GoodIn wsX11_sitter wsX0_comes := goodIn_r _ [15, 16, 17, 18, 19, 20, 14, 21, 22, 33, 34, 35, 36, 37] (by decide +kernel) (by decide +kernel)
set_option maxRecDepth 20000 in
theorem gX11_sitter_X0_comes : GoodIn wsX11_sitter (wsV RX11 93 RX0 yX0_comes wsX0_comes) := goodIn_app (goodIn_of _ (by decide +kernel)) ggX11_sitter_X0_comes
theorem dX11_sitter_0 : decode cX11_sitter 0 = .ok (.iload_n 1, 1) := by decide +kernel
theorem dX11_sitter_1 : decode cX11_sitter 1 = .ok (.invokestatic 85, 3) := by decide +kernel
theorem dX11_sitter_4 : decode cX11_sitter 4 = .ok (.ifCond .eq 11, 3) := by decide +kernel
theorem dX11_sitter_7 : decode cX11_sitter 7 = .ok (.iconst 5, 1) := by decide +kernel
theorem dX11_sitter_8 : decode cX11_sitter 8 = .ok (.iload_n 2, 1) := by decide +kernel
theorem dX11_sitter_9 : decode cX11_sitter 9 = .ok (.invokestatic 89, 3) := by decide +kernel
theorem dX11_sitter_12 : decode cX11_sitter 12 = .ok (.ifCond .ne 5, 3) := by decide +kernel
theorem dX11_sitter_15 : decode cX11_sitter 15 = .ok (.iconst (-1), 1) := by decide +kernel
theorem dX11_sitter_16 : decode cX11_sitter 16 = .ok (.ireturn, 1) := by decide +kernel
theorem dX11_sitter_17 : decode cX11_sitter 17 = .ok (.aload_n 0, 1) := by decide +kernel
theorem dX11_sitter_18 : decode cX11_sitter 18 = .ok (.getfield 12, 3) := by decide +kernel
theorem dX11_sitter_21 : decode cX11_sitter 21 = .ok (.iload_n 1, 1) := by decide +kernel
theorem dX11_sitter_22 : decode cX11_sitter 22 = .ok (.iload_n 1, 1) := by decide +kernel
theorem dX11_sitter_23 : decode cX11_sitter 23 = .ok (.iload_n 1, 1) := by decide +kernel
theorem dX11_sitter_24 : decode cX11_sitter 24 = .ok (.iload_n 2, 1) := by decide +kernel
theorem dX11_sitter_25 : decode cX11_sitter 25 = .ok (.invokevirtual 93, 3) := by decide +kernel
theorem dX11_sitter_28 : decode cX11_sitter 28 = .ok (.ireturn, 1) := by decide +kernel
set_option maxRecDepth 20000 in
theorem ggX11_sitters_X11_isShelf : GoodIn wsX11_sitters wsX11_isShelf := goodIn_r _ [6] (by decide +kernel) (by decide +kernel)
set_option maxRecDepth 20000 in
theorem gX11_sitters_X11_isShelf : GoodIn wsX11_sitters (va_wsS RX11 97 yX11_isShelf wsX11_isShelf) := goodIn_app (goodIn_of _ (by decide +kernel)) ggX11_sitters_X11_isShelf
theorem dX11_sitters_0 : decode cX11_sitters 0 = .ok (.iload_n 1, 1) := by decide +kernel
theorem dX11_sitters_1 : decode cX11_sitters 1 = .ok (.invokestatic 97, 3) := by decide +kernel
theorem dX11_sitters_4 : decode cX11_sitters 4 = .ok (.ifCond .eq 14, 3) := by decide +kernel
theorem dX11_sitters_7 : decode cX11_sitters 7 = .ok (.iload_n 3, 1) := by decide +kernel
theorem dX11_sitters_8 : decode cX11_sitters 8 = .ok (.iconst 1, 1) := by decide +kernel
theorem dX11_sitters_9 : decode cX11_sitters 9 = .ok (.if_icmp .lt 9, 3) := by decide +kernel
theorem dX11_sitters_12 : decode cX11_sitters 12 = .ok (.iload_n 3, 1) := by decide +kernel
theorem dX11_sitters_13 : decode cX11_sitters 13 = .ok (.bipush 8, 2) := by decide +kernel
theorem dX11_sitters_15 : decode cX11_sitters 15 = .ok (.if_icmp .le 5, 3) := by decide +kernel
theorem dX11_sitters_18 : decode cX11_sitters 18 = .ok (.iconst (-1), 1) := by decide +kernel
theorem dX11_sitters_19 : decode cX11_sitters 19 = .ok (.ireturn, 1) := by decide +kernel
theorem dX11_sitters_20 : decode cX11_sitters 20 = .ok (.aload_n 0, 1) := by decide +kernel
theorem dX11_sitters_21 : decode cX11_sitters 21 = .ok (.getfield 80, 3) := by decide +kernel
theorem dX11_sitters_24 : decode cX11_sitters 24 = .ok (.iload_n 1, 1) := by decide +kernel
theorem dX11_sitters_25 : decode cX11_sitters 25 = .ok (.aaload, 1) := by decide +kernel
theorem dX11_sitters_26 : decode cX11_sitters 26 = .ok (.astore 4, 2) := by decide +kernel
theorem dX11_sitters_28 : decode cX11_sitters 28 = .ok (.aload 4, 2) := by decide +kernel
theorem dX11_sitters_30 : decode cX11_sitters 30 = .ok (.getfield 100, 3) := by decide +kernel
theorem dX11_sitters_33 : decode cX11_sitters 33 = .ok (.iconst (-1), 1) := by decide +kernel
theorem dX11_sitters_34 : decode cX11_sitters 34 = .ok (.if_icmp .ne 5, 3) := by decide +kernel
theorem dX11_sitters_37 : decode cX11_sitters 37 = .ok (.iconst 0, 1) := by decide +kernel
theorem dX11_sitters_38 : decode cX11_sitters 38 = .ok (.ireturn, 1) := by decide +kernel
set_option maxRecDepth 20000 in
theorem ggX11_mend_X0_placeOf : GoodIn wsX11_mend wsX0_placeOf := goodIn_r _ [8, 9, 54, 55, 56, 57, 58] (by decide +kernel) (by decide +kernel)
set_option maxRecDepth 20000 in
theorem gX11_mend_X0_placeOf : GoodIn wsX11_mend (wsV RX11 108 RX0 yX0_placeOf wsX0_placeOf) := goodIn_app (goodIn_of _ (by decide +kernel)) ggX11_mend_X0_placeOf
set_option maxRecDepth 20000 in
theorem ggX11_mend_X11_fits : GoodIn wsX11_mend wsX11_fits := goodIn_r _ [13, 14, 15] (by decide +kernel) (by decide +kernel)
set_option maxRecDepth 20000 in
theorem gX11_mend_X11_fits : GoodIn wsX11_mend (va_wsS RX11 89 yX11_fits wsX11_fits) := goodIn_app (goodIn_of _ (by decide +kernel)) ggX11_mend_X11_fits
set_option maxRecDepth 20000 in
theorem ggX11_mend_X1_comes : GoodIn wsX11_mend wsX1_comes := goodIn_r _ [20, 21, 22, 23, 24, 25, 26, 27, 28, 19, 29, 30, 31, 32, 33, 59, 60, 61, 62, 63] (by decide +kernel) (by decide +kernel)
set_option maxRecDepth 20000 in
theorem gX11_mend_X1_comes : GoodIn wsX11_mend (wsV RX11 116 RX1 yX1_comes wsX1_comes) := goodIn_app (goodIn_of _ (by decide +kernel)) ggX11_mend_X1_comes
set_option maxRecDepth 20000 in
theorem ggX11_mend_X0_becomes : GoodIn wsX11_mend wsX0_becomes := goodIn_r _ [37, 38, 39, 40, 41, 7, 42, 43, 54, 55, 56, 57, 58] (by decide +kernel) (by decide +kernel)
set_option maxRecDepth 20000 in
theorem gX11_mend_X0_becomes : GoodIn wsX11_mend (wsV RX11 119 RX0 yX0_becomes wsX0_becomes) := goodIn_app (goodIn_of _ (by decide +kernel)) ggX11_mend_X0_becomes
theorem dX11_mend_0 : decode cX11_mend 0 = .ok (.aload_n 0, 1) := by decide +kernel
theorem dX11_mend_1 : decode cX11_mend 1 = .ok (.getfield 12, 3) := by decide +kernel
theorem dX11_mend_4 : decode cX11_mend 4 = .ok (.iload_n 1, 1) := by decide +kernel
theorem dX11_mend_5 : decode cX11_mend 5 = .ok (.iload_n 2, 1) := by decide +kernel
theorem dX11_mend_6 : decode cX11_mend 6 = .ok (.invokevirtual 108, 3) := by decide +kernel
theorem dX11_mend_9 : decode cX11_mend 9 = .ok (.istore 4, 2) := by decide +kernel
theorem dX11_mend_11 : decode cX11_mend 11 = .ok (.iload 4, 2) := by decide +kernel
theorem dX11_mend_13 : decode cX11_mend 13 = .ok (.ifCond .lt 11, 3) := by decide +kernel
theorem dX11_mend_16 : decode cX11_mend 16 = .ok (.iload_n 2, 1) := by decide +kernel
theorem dX11_mend_17 : decode cX11_mend 17 = .ok (.iload_n 3, 1) := by decide +kernel
theorem dX11_mend_18 : decode cX11_mend 18 = .ok (.invokestatic 89, 3) := by decide +kernel
theorem dX11_mend_21 : decode cX11_mend 21 = .ok (.ifCond .ne 5, 3) := by decide +kernel
theorem dX11_mend_24 : decode cX11_mend 24 = .ok (.iconst (-1), 1) := by decide +kernel
theorem dX11_mend_25 : decode cX11_mend 25 = .ok (.ireturn, 1) := by decide +kernel
theorem dX11_mend_26 : decode cX11_mend 26 = .ok (.aload_n 0, 1) := by decide +kernel
theorem dX11_mend_27 : decode cX11_mend 27 = .ok (.getfield 12, 3) := by decide +kernel
theorem dX11_mend_30 : decode cX11_mend 30 = .ok (.getfield 112, 3) := by decide +kernel
theorem dX11_mend_33 : decode cX11_mend 33 = .ok (.iload 4, 2) := by decide +kernel
theorem dX11_mend_35 : decode cX11_mend 35 = .ok (.iaload, 1) := by decide +kernel
theorem dX11_mend_36 : decode cX11_mend 36 = .ok (.istore 5, 2) := by decide +kernel
theorem dX11_mend_38 : decode cX11_mend 38 = .ok (.iload 5, 2) := by decide +kernel
theorem dX11_mend_40 : decode cX11_mend 40 = .ok (.iload_n 3, 1) := by decide +kernel
theorem dX11_mend_41 : decode cX11_mend 41 = .ok (.if_icmp .eq 25, 3) := by decide +kernel
theorem dX11_mend_44 : decode cX11_mend 44 = .ok (.aload_n 0, 1) := by decide +kernel
theorem dX11_mend_45 : decode cX11_mend 45 = .ok (.getfield 67, 3) := by decide +kernel
theorem dX11_mend_48 : decode cX11_mend 48 = .ok (.iload 4, 2) := by decide +kernel
theorem dX11_mend_50 : decode cX11_mend 50 = .ok (.iload 5, 2) := by decide +kernel
theorem dX11_mend_52 : decode cX11_mend 52 = .ok (.iload_n 3, 1) := by decide +kernel
theorem dX11_mend_53 : decode cX11_mend 53 = .ok (.invokevirtual 116, 3) := by decide +kernel
theorem dX11_mend_56 : decode cX11_mend 56 = .ok (.aload_n 0, 1) := by decide +kernel
theorem dX11_mend_57 : decode cX11_mend 57 = .ok (.getfield 12, 3) := by decide +kernel
theorem dX11_mend_60 : decode cX11_mend 60 = .ok (.iload 4, 2) := by decide +kernel
theorem dX11_mend_62 : decode cX11_mend 62 = .ok (.iload_n 3, 1) := by decide +kernel
theorem dX11_mend_63 : decode cX11_mend 63 = .ok (.invokevirtual 119, 3) := by decide +kernel
theorem dX11_mend_66 : decode cX11_mend 66 = .ok (.iload 5, 2) := by decide +kernel
theorem dX11_mend_68 : decode cX11_mend 68 = .ok (.ireturn, 1) := by decide +kernel
set_option maxRecDepth 20000 in
theorem ggX11_of_X11_isPart : GoodIn wsX11_of wsX11_isPart := goodIn_r _ [7] (by decide +kernel) (by decide +kernel)
set_option maxRecDepth 20000 in
theorem gX11_of_X11_isPart : GoodIn wsX11_of (va_wsS RX11 123 yX11_isPart wsX11_isPart) := goodIn_app (goodIn_of _ (by decide +kernel)) ggX11_of_X11_isPart
set_option maxRecDepth 20000 in
theorem ggX11_of_X0_placeOf : GoodIn wsX11_of wsX0_placeOf := goodIn_r _ [12, 13, 24, 25, 26, 27, 28] (by decide +kernel) (by decide +kernel)
set_option maxRecDepth 20000 in
theorem gX11_of_X0_placeOf : GoodIn wsX11_of (wsV RX11 108 RX0 yX0_placeOf wsX0_placeOf) := goodIn_app (goodIn_of _ (by decide +kernel)) ggX11_of_X0_placeOf
theorem dX11_of_0 : decode cX11_of 0 = .ok (.iload_n 2, 1) := by decide +kernel
theorem dX11_of_1 : decode cX11_of 1 = .ok (.bipush 11, 2) := by decide +kernel
theorem dX11_of_3 : decode cX11_of 3 = .ok (.if_icmp .ne 24, 3) := by decide +kernel
theorem dX11_of_6 : decode cX11_of 6 = .ok (.iload_n 1, 1) := by decide +kernel
theorem dX11_of_7 : decode cX11_of 7 = .ok (.invokestatic 123, 3) := by decide +kernel
theorem dX11_of_10 : decode cX11_of 10 = .ok (.ifCond .eq 15, 3) := by decide +kernel
theorem dX11_of_13 : decode cX11_of 13 = .ok (.aload_n 0, 1) := by decide +kernel
theorem dX11_of_14 : decode cX11_of 14 = .ok (.getfield 12, 3) := by decide +kernel
theorem dX11_of_17 : decode cX11_of 17 = .ok (.getfield 126, 3) := by decide +kernel
theorem dX11_of_20 : decode cX11_of 20 = .ok (.iload_n 1, 1) := by decide +kernel
theorem dX11_of_21 : decode cX11_of 21 = .ok (.iaload, 1) := by decide +kernel
theorem dX11_of_22 : decode cX11_of 22 = .ok (.goto 4, 3) := by decide +kernel
theorem dX11_of_25 : decode cX11_of 25 = .ok (.iconst (-1), 1) := by decide +kernel
theorem dX11_of_26 : decode cX11_of 26 = .ok (.ireturn, 1) := by decide +kernel
theorem dX11_of_27 : decode cX11_of 27 = .ok (.aload_n 0, 1) := by decide +kernel
theorem dX11_of_28 : decode cX11_of 28 = .ok (.getfield 12, 3) := by decide +kernel
theorem dX11_of_31 : decode cX11_of 31 = .ok (.iload_n 1, 1) := by decide +kernel
theorem dX11_of_32 : decode cX11_of 32 = .ok (.iload_n 2, 1) := by decide +kernel
theorem dX11_of_33 : decode cX11_of 33 = .ok (.invokevirtual 108, 3) := by decide +kernel
theorem dX11_of_36 : decode cX11_of 36 = .ok (.istore_n 3, 1) := by decide +kernel
theorem dX11_of_37 : decode cX11_of 37 = .ok (.iload_n 3, 1) := by decide +kernel
theorem dX11_of_38 : decode cX11_of 38 = .ok (.ifCond .ge 7, 3) := by decide +kernel
theorem dX11_of_41 : decode cX11_of 41 = .ok (.iconst (-1), 1) := by decide +kernel
theorem dX11_of_42 : decode cX11_of 42 = .ok (.goto 12, 3) := by decide +kernel
theorem dX11_of_45 : decode cX11_of 45 = .ok (.aload_n 0, 1) := by decide +kernel
theorem dX11_of_46 : decode cX11_of 46 = .ok (.getfield 12, 3) := by decide +kernel
theorem dX11_of_49 : decode cX11_of 49 = .ok (.getfield 112, 3) := by decide +kernel
theorem dX11_of_52 : decode cX11_of 52 = .ok (.iload_n 3, 1) := by decide +kernel
theorem dX11_of_53 : decode cX11_of 53 = .ok (.iaload, 1) := by decide +kernel
theorem dX11_of_54 : decode cX11_of 54 = .ok (.ireturn, 1) := by decide +kernel
set_option maxRecDepth 20000 in
theorem ggX11_feed_X5_takes : GoodIn wsX11_feed wsX5_takes := goodIn_r _ [7, 8, 9, 25, 26, 27, 28, 29, 30, 31, 32, 33, 34] (by decide +kernel) (by decide +kernel)
set_option maxRecDepth 20000 in
theorem gX11_feed_X5_takes : GoodIn wsX11_feed (wsV RX11 133 RX5 yX5_takes wsX5_takes) := goodIn_app (goodIn_of _ (by decide +kernel)) ggX11_feed_X5_takes
theorem dX11_feed_0 : decode cX11_feed 0 = .ok (.iload_n 1, 1) := by decide +kernel
theorem dX11_feed_1 : decode cX11_feed 1 = .ok (.ifCond .lt 10, 3) := by decide +kernel
theorem dX11_feed_4 : decode cX11_feed 4 = .ok (.iload_n 1, 1) := by decide +kernel
theorem dX11_feed_5 : decode cX11_feed 5 = .ok (.sipush 255, 3) := by decide +kernel
theorem dX11_feed_8 : decode cX11_feed 8 = .ok (.if_icmp .le 7, 3) := by decide +kernel
theorem dX11_feed_11 : decode cX11_feed 11 = .ok (.iconst (-1), 1) := by decide +kernel
theorem dX11_feed_12 : decode cX11_feed 12 = .ok (.goto 14, 3) := by decide +kernel
theorem dX11_feed_15 : decode cX11_feed 15 = .ok (.aload_n 0, 1) := by decide +kernel
theorem dX11_feed_16 : decode cX11_feed 16 = .ok (.getfield 12, 3) := by decide +kernel
theorem dX11_feed_19 : decode cX11_feed 19 = .ok (.getfield 129, 3) := by decide +kernel
theorem dX11_feed_22 : decode cX11_feed 22 = .ok (.iload_n 1, 1) := by decide +kernel
theorem dX11_feed_23 : decode cX11_feed 23 = .ok (.invokevirtual 133, 3) := by decide +kernel
theorem dX11_feed_26 : decode cX11_feed 26 = .ok (.ireturn, 1) := by decide +kernel
set_option maxRecDepth 20000 in
theorem ggX11_law_X5_isRead : GoodIn wsX11_law wsX5_isRead := goodIn_r _ [7, 8, 9, 10, 11, 12, 13, 14, 15, 16, 17, 18, 19, 20, 21, 22, 6, 23, 24, 25, 26, 27, 28, 29, 30, 31, 32, 33, 34, 35, 36, 37, 38, 39, 40, 41, 42, 43, 44, 45, 46, 47, 48, 49, 50, 51, 52, 53, 54, 55, 56, 57, 58, 59, 60, 61, 62, 63, 64, 65, 66, 67, 68, 69, 70, 71, 72, 73, 74, 75, 76, 77, 78, 104, 105, 106, 107, 108, 109, 110, 111, 112, 113] (by decide +kernel) (by decide +kernel)
set_option maxRecDepth 20000 in
theorem gX11_law_X5_isRead : GoodIn wsX11_law (wsV RX11 139 RX5 yX5_isRead wsX5_isRead) := goodIn_app (goodIn_of _ (by decide +kernel)) ggX11_law_X5_isRead
theorem dX11_law_0 : decode cX11_law 0 = .ok (.aload_n 0, 1) := by decide +kernel
theorem dX11_law_1 : decode cX11_law 1 = .ok (.getfield 12, 3) := by decide +kernel
theorem dX11_law_4 : decode cX11_law 4 = .ok (.getfield 129, 3) := by decide +kernel
theorem dX11_law_7 : decode cX11_law 7 = .ok (.invokevirtual 139, 3) := by decide +kernel
theorem dX11_law_10 : decode cX11_law 10 = .ok (.istore_n 1, 1) := by decide +kernel
theorem dX11_law_11 : decode cX11_law 11 = .ok (.iload_n 1, 1) := by decide +kernel
theorem dX11_law_12 : decode cX11_law 12 = .ok (.iconst 1, 1) := by decide +kernel
theorem dX11_law_13 : decode cX11_law 13 = .ok (.if_icmp .ne 10, 3) := by decide +kernel
theorem dX11_law_23 : decode cX11_law 23 = .ok (.iload_n 1, 1) := by decide +kernel
theorem dX11_law_24 : decode cX11_law 24 = .ok (.ireturn, 1) := by decide +kernel
set_option maxRecDepth 20000 in
theorem ggX11_loss_X0_has : GoodIn wsX11_loss wsX0_has := goodIn_r _ [6, 7, 65, 66, 67, 68, 69] (by decide +kernel) (by decide +kernel)
set_option maxRecDepth 20000 in
theorem gX11_loss_X0_has : GoodIn wsX11_loss (wsV RX11 146 RX0 yX0_has wsX0_has) := goodIn_app (goodIn_of _ (by decide +kernel)) ggX11_loss_X0_has
theorem dX11_loss_0 : decode cX11_loss 0 = .ok (.aload_n 0, 1) := by decide +kernel
theorem dX11_loss_1 : decode cX11_loss 1 = .ok (.getfield 12, 3) := by decide +kernel
theorem dX11_loss_4 : decode cX11_loss 4 = .ok (.iload_n 1, 1) := by decide +kernel
theorem dX11_loss_5 : decode cX11_loss 5 = .ok (.invokevirtual 146, 3) := by decide +kernel
theorem dX11_loss_8 : decode cX11_loss 8 = .ok (.ifCond .eq 17, 3) := by decide +kernel
theorem dX11_loss_25 : decode cX11_loss 25 = .ok (.iconst (-1), 1) := by decide +kernel
theorem dX11_loss_26 : decode cX11_loss 26 = .ok (.ireturn, 1) := by decide +kernel
set_option maxRecDepth 20000 in
theorem ggX11_never_X11_isShelf : GoodIn wsX11_never wsX11_isShelf := goodIn_r _ [5] (by decide +kernel) (by decide +kernel)
set_option maxRecDepth 20000 in
theorem gX11_never_X11_isShelf : GoodIn wsX11_never (va_wsS RX11 97 yX11_isShelf wsX11_isShelf) := goodIn_app (goodIn_of _ (by decide +kernel)) ggX11_never_X11_isShelf
set_option maxRecDepth 20000 in
theorem ggX11_never_X11_isPart : GoodIn wsX11_never wsX11_isPart := goodIn_r _ [8] (by decide +kernel) (by decide +kernel)
set_option maxRecDepth 20000 in
theorem gX11_never_X11_isPart : GoodIn wsX11_never (va_wsS RX11 123 yX11_isPart wsX11_isPart) := goodIn_app (goodIn_of _ (by decide +kernel)) ggX11_never_X11_isPart
set_option maxRecDepth 20000 in
theorem ggX11_never_X11_isSetting : GoodIn wsX11_never wsX11_isSetting := goodIn_r _ [11] (by decide +kernel) (by decide +kernel)
set_option maxRecDepth 20000 in
theorem gX11_never_X11_isSetting : GoodIn wsX11_never (va_wsS RX11 85 yX11_isSetting wsX11_isSetting) := goodIn_app (goodIn_of _ (by decide +kernel)) ggX11_never_X11_isSetting
set_option maxRecDepth 20000 in
theorem ggX11_never_X11_readWeek : GoodIn wsX11_never wsX11_readWeek := goodIn_r _ [15, 16, 17, 18, 19, 20, 21, 22, 4, 23, 24, 25, 26, 27, 28, 29, 30, 31, 32, 33, 34, 35, 36, 37, 38, 39, 86, 87, 88, 89, 90, 91, 92, 93, 94, 95, 96, 97, 98, 99, 100, 101, 102, 103, 104, 105, 106, 107, 108] (by decide +kernel) (by decide +kernel)
set_option maxRecDepth 20000 in
theorem gX11_never_X11_readWeek : GoodIn wsX11_never (wsV RX11 153 RX11 yX11_readWeek wsX11_readWeek) := goodIn_app (goodIn_of _ (by decide +kernel)) ggX11_never_X11_readWeek
theorem dX11_never_0 : decode cX11_never 0 = .ok (.iload_n 1, 1) := by decide +kernel
theorem dX11_never_1 : decode cX11_never 1 = .ok (.invokestatic 97, 3) := by decide +kernel
theorem dX11_never_4 : decode cX11_never 4 = .ok (.ifCond .eq 17, 3) := by decide +kernel
theorem dX11_never_7 : decode cX11_never 7 = .ok (.iload_n 2, 1) := by decide +kernel
theorem dX11_never_8 : decode cX11_never 8 = .ok (.invokestatic 123, 3) := by decide +kernel
theorem dX11_never_11 : decode cX11_never 11 = .ok (.ifCond .eq 10, 3) := by decide +kernel
theorem dX11_never_14 : decode cX11_never 14 = .ok (.iload_n 3, 1) := by decide +kernel
theorem dX11_never_15 : decode cX11_never 15 = .ok (.invokestatic 85, 3) := by decide +kernel
theorem dX11_never_18 : decode cX11_never 18 = .ok (.ifCond .ne 5, 3) := by decide +kernel
theorem dX11_never_21 : decode cX11_never 21 = .ok (.iconst (-1), 1) := by decide +kernel
theorem dX11_never_22 : decode cX11_never 22 = .ok (.ireturn, 1) := by decide +kernel
theorem dX11_never_23 : decode cX11_never 23 = .ok (.aload_n 0, 1) := by decide +kernel
theorem dX11_never_24 : decode cX11_never 24 = .ok (.iload_n 1, 1) := by decide +kernel
theorem dX11_never_25 : decode cX11_never 25 = .ok (.invokevirtual 153, 3) := by decide +kernel
theorem dX11_never_28 : decode cX11_never 28 = .ok (.istore 4, 2) := by decide +kernel
theorem dX11_never_30 : decode cX11_never 30 = .ok (.iload 4, 2) := by decide +kernel
theorem dX11_never_32 : decode cX11_never 32 = .ok (.ifCond .eq 8, 3) := by decide +kernel
theorem dX11_never_35 : decode cX11_never 35 = .ok (.iload 4, 2) := by decide +kernel
theorem dX11_never_37 : decode cX11_never 37 = .ok (.goto 12, 3) := by decide +kernel
theorem dX11_never_49 : decode cX11_never 49 = .ok (.ireturn, 1) := by decide +kernel
set_option maxRecDepth 20000 in
theorem ggX11_best_X11_isShelf : GoodIn wsX11_best wsX11_isShelf := goodIn_r _ [7] (by decide +kernel) (by decide +kernel)
set_option maxRecDepth 20000 in
theorem gX11_best_X11_isShelf : GoodIn wsX11_best (va_wsS RX11 97 yX11_isShelf wsX11_isShelf) := goodIn_app (goodIn_of _ (by decide +kernel)) ggX11_best_X11_isShelf
set_option maxRecDepth 20000 in
theorem ggX11_best_X11_isPart : GoodIn wsX11_best wsX11_isPart := goodIn_r _ [10] (by decide +kernel) (by decide +kernel)
set_option maxRecDepth 20000 in
theorem gX11_best_X11_isPart : GoodIn wsX11_best (va_wsS RX11 123 yX11_isPart wsX11_isPart) := goodIn_app (goodIn_of _ (by decide +kernel)) ggX11_best_X11_isPart
set_option maxRecDepth 20000 in
theorem ggX11_best_X11_readWeek : GoodIn wsX11_best wsX11_readWeek := goodIn_r _ [14, 1, 15, 16, 17, 18, 19, 20, 6, 21, 22, 23, 24, 25, 26, 27, 28, 29, 30, 31, 32, 33, 34, 35, 36, 37, 93, 94, 95, 96, 97, 98, 99, 100, 101, 102, 107, 108, 109, 110, 111, 112, 113, 114, 115, 103, 104, 105, 106] (by decide +kernel) (by decide +kernel)
set_option maxRecDepth 20000 in
theorem gX11_best_X11_readWeek : GoodIn wsX11_best (wsV RX11 153 RX11 yX11_readWeek wsX11_readWeek) := goodIn_app (goodIn_of _ (by decide +kernel)) ggX11_best_X11_readWeek
theorem dX11_best_0 : decode cX11_best 0 = .ok (.iload_n 1, 1) := by decide +kernel
theorem dX11_best_1 : decode cX11_best 1 = .ok (.invokestatic 97, 3) := by decide +kernel
theorem dX11_best_4 : decode cX11_best 4 = .ok (.ifCond .eq 19, 3) := by decide +kernel
theorem dX11_best_7 : decode cX11_best 7 = .ok (.iload_n 2, 1) := by decide +kernel
theorem dX11_best_8 : decode cX11_best 8 = .ok (.invokestatic 123, 3) := by decide +kernel
theorem dX11_best_11 : decode cX11_best 11 = .ok (.ifCond .eq 12, 3) := by decide +kernel
theorem dX11_best_14 : decode cX11_best 14 = .ok (.iload_n 3, 1) := by decide +kernel
theorem dX11_best_15 : decode cX11_best 15 = .ok (.ifCond .lt 8, 3) := by decide +kernel
theorem dX11_best_18 : decode cX11_best 18 = .ok (.iload_n 3, 1) := by decide +kernel
theorem dX11_best_19 : decode cX11_best 19 = .ok (.iconst 3, 1) := by decide +kernel
theorem dX11_best_20 : decode cX11_best 20 = .ok (.if_icmp .le 5, 3) := by decide +kernel
theorem dX11_best_23 : decode cX11_best 23 = .ok (.iconst (-1), 1) := by decide +kernel
theorem dX11_best_24 : decode cX11_best 24 = .ok (.ireturn, 1) := by decide +kernel
theorem dX11_best_25 : decode cX11_best 25 = .ok (.aload_n 0, 1) := by decide +kernel
theorem dX11_best_26 : decode cX11_best 26 = .ok (.iload_n 1, 1) := by decide +kernel
theorem dX11_best_27 : decode cX11_best 27 = .ok (.invokevirtual 153, 3) := by decide +kernel
theorem dX11_best_30 : decode cX11_best 30 = .ok (.istore 4, 2) := by decide +kernel
theorem dX11_best_32 : decode cX11_best 32 = .ok (.iload 4, 2) := by decide +kernel
theorem dX11_best_34 : decode cX11_best 34 = .ok (.ifCond .eq 6, 3) := by decide +kernel
theorem dX11_best_37 : decode cX11_best 37 = .ok (.iload 4, 2) := by decide +kernel
theorem dX11_best_39 : decode cX11_best 39 = .ok (.ireturn, 1) := by decide +kernel
set_option maxRecDepth 20000 in
theorem ggX11_middle_X11_isShelf : GoodIn wsX11_middle wsX11_isShelf := goodIn_r _ [7] (by decide +kernel) (by decide +kernel)
set_option maxRecDepth 20000 in
theorem gX11_middle_X11_isShelf : GoodIn wsX11_middle (va_wsS RX11 97 yX11_isShelf wsX11_isShelf) := goodIn_app (goodIn_of _ (by decide +kernel)) ggX11_middle_X11_isShelf
set_option maxRecDepth 20000 in
theorem ggX11_middle_X11_isPart : GoodIn wsX11_middle wsX11_isPart := goodIn_r _ [10] (by decide +kernel) (by decide +kernel)
set_option maxRecDepth 20000 in
theorem gX11_middle_X11_isPart : GoodIn wsX11_middle (va_wsS RX11 123 yX11_isPart wsX11_isPart) := goodIn_app (goodIn_of _ (by decide +kernel)) ggX11_middle_X11_isPart
set_option maxRecDepth 20000 in
theorem ggX11_middle_X11_readWeek : GoodIn wsX11_middle wsX11_readWeek := goodIn_r _ [14, 1, 15, 16, 17, 18, 19, 20, 6, 21, 22, 23, 24, 25, 26, 27, 28, 29, 30, 31, 32, 33, 34, 35, 36, 37, 58, 59, 60, 61, 62, 63, 64, 65, 66, 67, 72, 73, 74, 75, 76, 77, 78, 79, 80, 68, 69, 70, 71] (by decide +kernel) (by decide +kernel)
set_option maxRecDepth 20000 in
theorem gX11_middle_X11_readWeek : GoodIn wsX11_middle (wsV RX11 153 RX11 yX11_readWeek wsX11_readWeek) := goodIn_app (goodIn_of _ (by decide +kernel)) ggX11_middle_X11_readWeek
theorem dX11_middle_0 : decode cX11_middle 0 = .ok (.iload_n 1, 1) := by decide +kernel
theorem dX11_middle_1 : decode cX11_middle 1 = .ok (.invokestatic 97, 3) := by decide +kernel
theorem dX11_middle_4 : decode cX11_middle 4 = .ok (.ifCond .eq 10, 3) := by decide +kernel
theorem dX11_middle_7 : decode cX11_middle 7 = .ok (.iload_n 2, 1) := by decide +kernel
theorem dX11_middle_8 : decode cX11_middle 8 = .ok (.invokestatic 123, 3) := by decide +kernel
theorem dX11_middle_11 : decode cX11_middle 11 = .ok (.ifCond .ne 5, 3) := by decide +kernel
theorem dX11_middle_14 : decode cX11_middle 14 = .ok (.iconst (-1), 1) := by decide +kernel
theorem dX11_middle_15 : decode cX11_middle 15 = .ok (.ireturn, 1) := by decide +kernel
theorem dX11_middle_16 : decode cX11_middle 16 = .ok (.aload_n 0, 1) := by decide +kernel
theorem dX11_middle_17 : decode cX11_middle 17 = .ok (.iload_n 1, 1) := by decide +kernel
theorem dX11_middle_18 : decode cX11_middle 18 = .ok (.invokevirtual 153, 3) := by decide +kernel
theorem dX11_middle_21 : decode cX11_middle 21 = .ok (.istore_n 3, 1) := by decide +kernel
theorem dX11_middle_22 : decode cX11_middle 22 = .ok (.iload_n 3, 1) := by decide +kernel
theorem dX11_middle_23 : decode cX11_middle 23 = .ok (.ifCond .eq 5, 3) := by decide +kernel
theorem dX11_middle_26 : decode cX11_middle 26 = .ok (.iload_n 3, 1) := by decide +kernel
theorem dX11_middle_27 : decode cX11_middle 27 = .ok (.ireturn, 1) := by decide +kernel
set_option maxRecDepth 20000 in
theorem ggX11_shifts_X11_isShelf : GoodIn wsX11_shifts wsX11_isShelf := goodIn_r _ [7] (by decide +kernel) (by decide +kernel)
set_option maxRecDepth 20000 in
theorem gX11_shifts_X11_isShelf : GoodIn wsX11_shifts (va_wsS RX11 97 yX11_isShelf wsX11_isShelf) := goodIn_app (goodIn_of _ (by decide +kernel)) ggX11_shifts_X11_isShelf
set_option maxRecDepth 20000 in
theorem ggX11_shifts_X11_isPart : GoodIn wsX11_shifts wsX11_isPart := goodIn_r _ [10] (by decide +kernel) (by decide +kernel)
set_option maxRecDepth 20000 in
theorem gX11_shifts_X11_isPart : GoodIn wsX11_shifts (va_wsS RX11 123 yX11_isPart wsX11_isPart) := goodIn_app (goodIn_of _ (by decide +kernel)) ggX11_shifts_X11_isPart
set_option maxRecDepth 20000 in
theorem ggX11_shifts_X11_readWeek : GoodIn wsX11_shifts wsX11_readWeek := goodIn_r _ [14, 1, 15, 16, 17, 18, 19, 20, 6, 21, 22, 23, 24, 25, 26, 27, 28, 29, 30, 31, 32, 33, 34, 35, 36, 37, 113, 114, 115, 116, 117, 118, 119, 120, 121, 122, 127, 128, 129, 130, 131, 132, 133, 134, 135, 123, 124, 125, 126] (by decide +kernel) (by decide +kernel)
set_option maxRecDepth 20000 in
theorem gX11_shifts_X11_readWeek : GoodIn wsX11_shifts (wsV RX11 153 RX11 yX11_readWeek wsX11_readWeek) := goodIn_app (goodIn_of _ (by decide +kernel)) ggX11_shifts_X11_readWeek
theorem dX11_shifts_0 : decode cX11_shifts 0 = .ok (.iload_n 1, 1) := by decide +kernel
theorem dX11_shifts_1 : decode cX11_shifts 1 = .ok (.invokestatic 97, 3) := by decide +kernel
theorem dX11_shifts_4 : decode cX11_shifts 4 = .ok (.ifCond .eq 15, 3) := by decide +kernel
theorem dX11_shifts_7 : decode cX11_shifts 7 = .ok (.iload_n 2, 1) := by decide +kernel
theorem dX11_shifts_8 : decode cX11_shifts 8 = .ok (.invokestatic 123, 3) := by decide +kernel
theorem dX11_shifts_11 : decode cX11_shifts 11 = .ok (.ifCond .eq 8, 3) := by decide +kernel
theorem dX11_shifts_14 : decode cX11_shifts 14 = .ok (.iload_n 3, 1) := by decide +kernel
theorem dX11_shifts_15 : decode cX11_shifts 15 = .ok (.iconst (-1), 1) := by decide +kernel
theorem dX11_shifts_16 : decode cX11_shifts 16 = .ok (.if_icmp .ge 5, 3) := by decide +kernel
theorem dX11_shifts_19 : decode cX11_shifts 19 = .ok (.iconst (-1), 1) := by decide +kernel
theorem dX11_shifts_20 : decode cX11_shifts 20 = .ok (.ireturn, 1) := by decide +kernel
theorem dX11_shifts_21 : decode cX11_shifts 21 = .ok (.aload_n 0, 1) := by decide +kernel
theorem dX11_shifts_22 : decode cX11_shifts 22 = .ok (.iload_n 1, 1) := by decide +kernel
theorem dX11_shifts_23 : decode cX11_shifts 23 = .ok (.invokevirtual 153, 3) := by decide +kernel
theorem dX11_shifts_26 : decode cX11_shifts 26 = .ok (.istore 4, 2) := by decide +kernel
theorem dX11_shifts_28 : decode cX11_shifts 28 = .ok (.iload 4, 2) := by decide +kernel
theorem dX11_shifts_30 : decode cX11_shifts 30 = .ok (.ifCond .eq 6, 3) := by decide +kernel
theorem dX11_shifts_33 : decode cX11_shifts 33 = .ok (.iload 4, 2) := by decide +kernel
theorem dX11_shifts_35 : decode cX11_shifts 35 = .ok (.ireturn, 1) := by decide +kernel
set_option maxRecDepth 20000 in
theorem ggX11_once_X11_isShelf : GoodIn wsX11_once wsX11_isShelf := goodIn_r _ [5] (by decide +kernel) (by decide +kernel)
set_option maxRecDepth 20000 in
theorem gX11_once_X11_isShelf : GoodIn wsX11_once (va_wsS RX11 97 yX11_isShelf wsX11_isShelf) := goodIn_app (goodIn_of _ (by decide +kernel)) ggX11_once_X11_isShelf
set_option maxRecDepth 20000 in
theorem ggX11_once_X11_isPart : GoodIn wsX11_once wsX11_isPart := goodIn_r _ [8] (by decide +kernel) (by decide +kernel)
set_option maxRecDepth 20000 in
theorem gX11_once_X11_isPart : GoodIn wsX11_once (va_wsS RX11 123 yX11_isPart wsX11_isPart) := goodIn_app (goodIn_of _ (by decide +kernel)) ggX11_once_X11_isPart
set_option maxRecDepth 20000 in
theorem ggX11_once_X11_readWeek : GoodIn wsX11_once wsX11_readWeek := goodIn_r _ [12, 13, 14, 15, 16, 17, 18, 19, 4, 20, 21, 22, 23, 24, 25, 26, 27, 28, 29, 30, 31, 32, 33, 34, 35, 36, 108, 109, 110, 111, 112, 113, 114, 115, 116, 117, 118, 119, 120, 121, 122, 123, 124, 125, 126, 127, 128, 129, 130] (by decide +kernel) (by decide +kernel)
set_option maxRecDepth 20000 in
theorem gX11_once_X11_readWeek : GoodIn wsX11_once (wsV RX11 153 RX11 yX11_readWeek wsX11_readWeek) := goodIn_app (goodIn_of _ (by decide +kernel)) ggX11_once_X11_readWeek
theorem dX11_once_0 : decode cX11_once 0 = .ok (.iload_n 1, 1) := by decide +kernel
theorem dX11_once_1 : decode cX11_once 1 = .ok (.invokestatic 97, 3) := by decide +kernel
theorem dX11_once_4 : decode cX11_once 4 = .ok (.ifCond .eq 19, 3) := by decide +kernel
theorem dX11_once_7 : decode cX11_once 7 = .ok (.iload_n 2, 1) := by decide +kernel
theorem dX11_once_8 : decode cX11_once 8 = .ok (.invokestatic 123, 3) := by decide +kernel
theorem dX11_once_11 : decode cX11_once 11 = .ok (.ifCond .eq 12, 3) := by decide +kernel
theorem dX11_once_14 : decode cX11_once 14 = .ok (.iload_n 3, 1) := by decide +kernel
theorem dX11_once_15 : decode cX11_once 15 = .ok (.ifCond .lt 8, 3) := by decide +kernel
theorem dX11_once_18 : decode cX11_once 18 = .ok (.iload_n 3, 1) := by decide +kernel
theorem dX11_once_19 : decode cX11_once 19 = .ok (.iconst 2, 1) := by decide +kernel
theorem dX11_once_20 : decode cX11_once 20 = .ok (.if_icmp .le 5, 3) := by decide +kernel
theorem dX11_once_23 : decode cX11_once 23 = .ok (.iconst (-1), 1) := by decide +kernel
theorem dX11_once_24 : decode cX11_once 24 = .ok (.ireturn, 1) := by decide +kernel
theorem dX11_once_25 : decode cX11_once 25 = .ok (.aload_n 0, 1) := by decide +kernel
theorem dX11_once_26 : decode cX11_once 26 = .ok (.iload_n 1, 1) := by decide +kernel
theorem dX11_once_27 : decode cX11_once 27 = .ok (.invokevirtual 153, 3) := by decide +kernel
theorem dX11_once_30 : decode cX11_once 30 = .ok (.istore 4, 2) := by decide +kernel
theorem dX11_once_32 : decode cX11_once 32 = .ok (.iload 4, 2) := by decide +kernel
theorem dX11_once_34 : decode cX11_once 34 = .ok (.ifCond .eq 8, 3) := by decide +kernel
theorem dX11_once_37 : decode cX11_once 37 = .ok (.iload 4, 2) := by decide +kernel
theorem dX11_once_39 : decode cX11_once 39 = .ok (.goto 12, 3) := by decide +kernel
theorem dX11_once_51 : decode cX11_once 51 = .ok (.ireturn, 1) := by decide +kernel
set_option maxRecDepth 20000 in
theorem ggX11_week_X11_isShelf : GoodIn wsX11_week wsX11_isShelf := goodIn_r _ [9] (by decide +kernel) (by decide +kernel)
set_option maxRecDepth 20000 in
theorem gX11_week_X11_isShelf : GoodIn wsX11_week (va_wsS RX11 97 yX11_isShelf wsX11_isShelf) := goodIn_app (goodIn_of _ (by decide +kernel)) ggX11_week_X11_isShelf
set_option maxRecDepth 20000 in
theorem ggX11_week_X11_readWeek : GoodIn wsX11_week wsX11_readWeek := goodIn_r _ [13, 2, 14, 15, 16, 17, 18, 19, 8, 20, 21, 22, 23, 24, 25, 26, 27, 28, 29, 30, 31, 32, 33, 34, 35, 36, 144, 145, 146, 147, 148, 149, 150, 151, 152, 153, 169, 170, 171, 172, 173, 174, 175, 176, 177, 154, 155, 156, 157] (by decide +kernel) (by decide +kernel)
set_option maxRecDepth 20000 in
theorem gX11_week_X11_readWeek : GoodIn wsX11_week (wsV RX11 153 RX11 yX11_readWeek wsX11_readWeek) := goodIn_app (goodIn_of _ (by decide +kernel)) ggX11_week_X11_readWeek
theorem dX11_week_0 : decode cX11_week 0 = .ok (.iload_n 1, 1) := by decide +kernel
theorem dX11_week_1 : decode cX11_week 1 = .ok (.invokestatic 97, 3) := by decide +kernel
theorem dX11_week_4 : decode cX11_week 4 = .ok (.ifCond .eq 12, 3) := by decide +kernel
theorem dX11_week_7 : decode cX11_week 7 = .ok (.iload_n 2, 1) := by decide +kernel
theorem dX11_week_8 : decode cX11_week 8 = .ok (.ifCond .lt 8, 3) := by decide +kernel
theorem dX11_week_11 : decode cX11_week 11 = .ok (.iload_n 2, 1) := by decide +kernel
theorem dX11_week_12 : decode cX11_week 12 = .ok (.iconst 2, 1) := by decide +kernel
theorem dX11_week_13 : decode cX11_week 13 = .ok (.if_icmp .le 5, 3) := by decide +kernel
theorem dX11_week_16 : decode cX11_week 16 = .ok (.iconst (-1), 1) := by decide +kernel
theorem dX11_week_17 : decode cX11_week 17 = .ok (.ireturn, 1) := by decide +kernel
theorem dX11_week_18 : decode cX11_week 18 = .ok (.aload_n 0, 1) := by decide +kernel
theorem dX11_week_19 : decode cX11_week 19 = .ok (.iload_n 1, 1) := by decide +kernel
theorem dX11_week_20 : decode cX11_week 20 = .ok (.invokevirtual 153, 3) := by decide +kernel
theorem dX11_week_23 : decode cX11_week 23 = .ok (.istore_n 3, 1) := by decide +kernel
theorem dX11_week_24 : decode cX11_week 24 = .ok (.iload_n 3, 1) := by decide +kernel
theorem dX11_week_25 : decode cX11_week 25 = .ok (.ifCond .eq 5, 3) := by decide +kernel
theorem dX11_week_28 : decode cX11_week 28 = .ok (.iload_n 3, 1) := by decide +kernel
theorem dX11_week_29 : decode cX11_week 29 = .ok (.ireturn, 1) := by decide +kernel
set_option maxRecDepth 20000 in
theorem ggX11_stands_X11_isShelf : GoodIn wsX11_stands wsX11_isShelf := goodIn_r _ [8] (by decide +kernel) (by decide +kernel)
set_option maxRecDepth 20000 in
theorem gX11_stands_X11_isShelf : GoodIn wsX11_stands (va_wsS RX11 97 yX11_isShelf wsX11_isShelf) := goodIn_app (goodIn_of _ (by decide +kernel)) ggX11_stands_X11_isShelf
set_option maxRecDepth 20000 in
theorem ggX11_stands_X11_isPart : GoodIn wsX11_stands wsX11_isPart := goodIn_r _ [11] (by decide +kernel) (by decide +kernel)
set_option maxRecDepth 20000 in
theorem gX11_stands_X11_isPart : GoodIn wsX11_stands (va_wsS RX11 123 yX11_isPart wsX11_isPart) := goodIn_app (goodIn_of _ (by decide +kernel)) ggX11_stands_X11_isPart
set_option maxRecDepth 20000 in
theorem ggX11_stands_X11_readWeek : GoodIn wsX11_stands wsX11_readWeek := goodIn_r _ [15, 1, 16, 17, 18, 19, 20, 21, 7, 22, 23, 24, 25, 26, 27, 28, 29, 30, 31, 32, 33, 34, 35, 36, 37, 38, 142, 143, 144, 145, 146, 147, 148, 149, 150, 151, 167, 168, 169, 170, 171, 172, 173, 174, 175, 152, 153, 154, 155] (by decide +kernel) (by decide +kernel)
set_option maxRecDepth 20000 in
theorem gX11_stands_X11_readWeek : GoodIn wsX11_stands (wsV RX11 153 RX11 yX11_readWeek wsX11_readWeek) := goodIn_app (goodIn_of _ (by decide +kernel)) ggX11_stands_X11_readWeek
theorem dX11_stands_0 : decode cX11_stands 0 = .ok (.iload_n 1, 1) := by decide +kernel
theorem dX11_stands_1 : decode cX11_stands 1 = .ok (.invokestatic 97, 3) := by decide +kernel
theorem dX11_stands_4 : decode cX11_stands 4 = .ok (.ifCond .eq 14, 3) := by decide +kernel
theorem dX11_stands_7 : decode cX11_stands 7 = .ok (.iload_n 2, 1) := by decide +kernel
theorem dX11_stands_8 : decode cX11_stands 8 = .ok (.invokestatic 123, 3) := by decide +kernel
theorem dX11_stands_11 : decode cX11_stands 11 = .ok (.ifCond .eq 7, 3) := by decide +kernel
theorem dX11_stands_14 : decode cX11_stands 14 = .ok (.iload_n 3, 1) := by decide +kernel
theorem dX11_stands_15 : decode cX11_stands 15 = .ok (.ifCond .ge 5, 3) := by decide +kernel
theorem dX11_stands_18 : decode cX11_stands 18 = .ok (.iconst (-1), 1) := by decide +kernel
theorem dX11_stands_19 : decode cX11_stands 19 = .ok (.ireturn, 1) := by decide +kernel
theorem dX11_stands_20 : decode cX11_stands 20 = .ok (.aload_n 0, 1) := by decide +kernel
theorem dX11_stands_21 : decode cX11_stands 21 = .ok (.iload_n 1, 1) := by decide +kernel
theorem dX11_stands_22 : decode cX11_stands 22 = .ok (.invokevirtual 153, 3) := by decide +kernel
theorem dX11_stands_25 : decode cX11_stands 25 = .ok (.istore 4, 2) := by decide +kernel
theorem dX11_stands_27 : decode cX11_stands 27 = .ok (.iload 4, 2) := by decide +kernel
theorem dX11_stands_29 : decode cX11_stands 29 = .ok (.ifCond .eq 6, 3) := by decide +kernel
theorem dX11_stands_32 : decode cX11_stands 32 = .ok (.iload 4, 2) := by decide +kernel
theorem dX11_stands_34 : decode cX11_stands 34 = .ok (.ireturn, 1) := by decide +kernel
set_option maxRecDepth 20000 in
theorem ggX11_pays_X11_isShelf : GoodIn wsX11_pays wsX11_isShelf := goodIn_r _ [6] (by decide +kernel) (by decide +kernel)
set_option maxRecDepth 20000 in
theorem gX11_pays_X11_isShelf : GoodIn wsX11_pays (va_wsS RX11 97 yX11_isShelf wsX11_isShelf) := goodIn_app (goodIn_of _ (by decide +kernel)) ggX11_pays_X11_isShelf
set_option maxRecDepth 20000 in
theorem ggX11_pays_X0_has : GoodIn wsX11_pays wsX0_has := goodIn_r _ [11, 12, 157, 158, 159, 160, 161] (by decide +kernel) (by decide +kernel)
set_option maxRecDepth 20000 in
theorem gX11_pays_X0_has : GoodIn wsX11_pays (wsV RX11 146 RX0 yX0_has wsX0_has) := goodIn_app (goodIn_of _ (by decide +kernel)) ggX11_pays_X0_has
theorem dX11_pays_0 : decode cX11_pays 0 = .ok (.iload_n 1, 1) := by decide +kernel
theorem dX11_pays_1 : decode cX11_pays 1 = .ok (.invokestatic 97, 3) := by decide +kernel
theorem dX11_pays_4 : decode cX11_pays 4 = .ok (.ifCond .eq 23, 3) := by decide +kernel
theorem dX11_pays_7 : decode cX11_pays 7 = .ok (.aload_n 0, 1) := by decide +kernel
theorem dX11_pays_8 : decode cX11_pays 8 = .ok (.getfield 12, 3) := by decide +kernel
theorem dX11_pays_11 : decode cX11_pays 11 = .ok (.iload_n 2, 1) := by decide +kernel
theorem dX11_pays_12 : decode cX11_pays 12 = .ok (.invokevirtual 146, 3) := by decide +kernel
theorem dX11_pays_15 : decode cX11_pays 15 = .ok (.ifCond .eq 12, 3) := by decide +kernel
theorem dX11_pays_27 : decode cX11_pays 27 = .ok (.iconst (-1), 1) := by decide +kernel
theorem dX11_pays_28 : decode cX11_pays 28 = .ok (.ireturn, 1) := by decide +kernel
set_option maxRecDepth 20000 in
theorem ggX11_memories_X11_isShelf : GoodIn wsX11_memories wsX11_isShelf := goodIn_r _ [5] (by decide +kernel) (by decide +kernel)
set_option maxRecDepth 20000 in
theorem gX11_memories_X11_isShelf : GoodIn wsX11_memories (va_wsS RX11 97 yX11_isShelf wsX11_isShelf) := goodIn_app (goodIn_of _ (by decide +kernel)) ggX11_memories_X11_isShelf
set_option maxRecDepth 20000 in
theorem ggX11_memories_X11_readWeek : GoodIn wsX11_memories wsX11_readWeek := goodIn_r _ [9, 10, 11, 12, 13, 14, 15, 16, 4, 17, 18, 19, 20, 21, 22, 23, 24, 25, 26, 27, 28, 29, 30, 31, 32, 33, 154, 155, 156, 157, 158, 159, 160, 161, 162, 163, 164, 165, 166, 167, 168, 169, 170, 171, 172, 173, 174, 175, 176] (by decide +kernel) (by decide +kernel)
set_option maxRecDepth 20000 in
theorem gX11_memories_X11_readWeek : GoodIn wsX11_memories (wsV RX11 153 RX11 yX11_readWeek wsX11_readWeek) := goodIn_app (goodIn_of _ (by decide +kernel)) ggX11_memories_X11_readWeek
theorem dX11_memories_0 : decode cX11_memories 0 = .ok (.iload_n 1, 1) := by decide +kernel
theorem dX11_memories_1 : decode cX11_memories 1 = .ok (.invokestatic 97, 3) := by decide +kernel
theorem dX11_memories_4 : decode cX11_memories 4 = .ok (.ifCond .eq 21, 3) := by decide +kernel
theorem dX11_memories_7 : decode cX11_memories 7 = .ok (.iload_n 2, 1) := by decide +kernel
theorem dX11_memories_8 : decode cX11_memories 8 = .ok (.ifCond .lt 17, 3) := by decide +kernel
theorem dX11_memories_11 : decode cX11_memories 11 = .ok (.iload_n 2, 1) := by decide +kernel
theorem dX11_memories_12 : decode cX11_memories 12 = .ok (.iconst 3, 1) := by decide +kernel
theorem dX11_memories_13 : decode cX11_memories 13 = .ok (.if_icmp .gt 12, 3) := by decide +kernel
theorem dX11_memories_16 : decode cX11_memories 16 = .ok (.iload_n 3, 1) := by decide +kernel
theorem dX11_memories_17 : decode cX11_memories 17 = .ok (.ifCond .lt 8, 3) := by decide +kernel
theorem dX11_memories_20 : decode cX11_memories 20 = .ok (.iload_n 3, 1) := by decide +kernel
theorem dX11_memories_21 : decode cX11_memories 21 = .ok (.iconst 1, 1) := by decide +kernel
theorem dX11_memories_22 : decode cX11_memories 22 = .ok (.if_icmp .le 5, 3) := by decide +kernel
theorem dX11_memories_25 : decode cX11_memories 25 = .ok (.iconst (-1), 1) := by decide +kernel
theorem dX11_memories_26 : decode cX11_memories 26 = .ok (.ireturn, 1) := by decide +kernel
theorem dX11_memories_27 : decode cX11_memories 27 = .ok (.aload_n 0, 1) := by decide +kernel
theorem dX11_memories_28 : decode cX11_memories 28 = .ok (.iload_n 1, 1) := by decide +kernel
theorem dX11_memories_29 : decode cX11_memories 29 = .ok (.invokevirtual 153, 3) := by decide +kernel
theorem dX11_memories_32 : decode cX11_memories 32 = .ok (.istore 4, 2) := by decide +kernel
theorem dX11_memories_34 : decode cX11_memories 34 = .ok (.iload 4, 2) := by decide +kernel
theorem dX11_memories_36 : decode cX11_memories 36 = .ok (.ifCond .eq 8, 3) := by decide +kernel
theorem dX11_memories_39 : decode cX11_memories 39 = .ok (.iload 4, 2) := by decide +kernel
theorem dX11_memories_41 : decode cX11_memories 41 = .ok (.goto 12, 3) := by decide +kernel
theorem dX11_memories_53 : decode cX11_memories 53 = .ok (.ireturn, 1) := by decide +kernel
set_option maxRecDepth 20000 in
theorem ggX11_marked_X11_isShelf : GoodIn wsX11_marked wsX11_isShelf := goodIn_r _ [5] (by decide +kernel) (by decide +kernel)
set_option maxRecDepth 20000 in
theorem gX11_marked_X11_isShelf : GoodIn wsX11_marked (va_wsS RX11 97 yX11_isShelf wsX11_isShelf) := goodIn_app (goodIn_of _ (by decide +kernel)) ggX11_marked_X11_isShelf
set_option maxRecDepth 20000 in
theorem ggX11_marked_X11_readWeek : GoodIn wsX11_marked wsX11_readWeek := goodIn_r _ [9, 10, 11, 12, 13, 14, 15, 16, 4, 17, 18, 19, 20, 21, 22, 23, 24, 25, 26, 27, 28, 29, 30, 31, 32, 33, 142, 143, 144, 145, 146, 147, 148, 149, 150, 151, 152, 153, 154, 155, 156, 157, 158, 159, 160, 161, 162, 163, 164] (by decide +kernel) (by decide +kernel)
set_option maxRecDepth 20000 in
theorem gX11_marked_X11_readWeek : GoodIn wsX11_marked (wsV RX11 153 RX11 yX11_readWeek wsX11_readWeek) := goodIn_app (goodIn_of _ (by decide +kernel)) ggX11_marked_X11_readWeek
theorem dX11_marked_0 : decode cX11_marked 0 = .ok (.iload_n 1, 1) := by decide +kernel
theorem dX11_marked_1 : decode cX11_marked 1 = .ok (.invokestatic 97, 3) := by decide +kernel
theorem dX11_marked_4 : decode cX11_marked 4 = .ok (.ifCond .ne 5, 3) := by decide +kernel
theorem dX11_marked_7 : decode cX11_marked 7 = .ok (.iconst (-1), 1) := by decide +kernel
theorem dX11_marked_8 : decode cX11_marked 8 = .ok (.ireturn, 1) := by decide +kernel
theorem dX11_marked_9 : decode cX11_marked 9 = .ok (.aload_n 0, 1) := by decide +kernel
theorem dX11_marked_10 : decode cX11_marked 10 = .ok (.iload_n 1, 1) := by decide +kernel
theorem dX11_marked_11 : decode cX11_marked 11 = .ok (.invokevirtual 153, 3) := by decide +kernel
theorem dX11_marked_14 : decode cX11_marked 14 = .ok (.istore_n 2, 1) := by decide +kernel
theorem dX11_marked_15 : decode cX11_marked 15 = .ok (.iload_n 2, 1) := by decide +kernel
theorem dX11_marked_16 : decode cX11_marked 16 = .ok (.ifCond .eq 7, 3) := by decide +kernel
theorem dX11_marked_19 : decode cX11_marked 19 = .ok (.iload_n 2, 1) := by decide +kernel
theorem dX11_marked_20 : decode cX11_marked 20 = .ok (.goto 10, 3) := by decide +kernel
theorem dX11_marked_30 : decode cX11_marked 30 = .ok (.ireturn, 1) := by decide +kernel
set_option maxRecDepth 20000 in
theorem ggX11_chairs_X11_isShelf : GoodIn wsX11_chairs wsX11_isShelf := goodIn_r _ [6] (by decide +kernel) (by decide +kernel)
set_option maxRecDepth 20000 in
theorem gX11_chairs_X11_isShelf : GoodIn wsX11_chairs (va_wsS RX11 97 yX11_isShelf wsX11_isShelf) := goodIn_app (goodIn_of _ (by decide +kernel)) ggX11_chairs_X11_isShelf
set_option maxRecDepth 20000 in
theorem ggX11_chairs_X11_isPart : GoodIn wsX11_chairs wsX11_isPart := goodIn_r _ [9] (by decide +kernel) (by decide +kernel)
set_option maxRecDepth 20000 in
theorem gX11_chairs_X11_isPart : GoodIn wsX11_chairs (va_wsS RX11 123 yX11_isPart wsX11_isPart) := goodIn_app (goodIn_of _ (by decide +kernel)) ggX11_chairs_X11_isPart
set_option maxRecDepth 20000 in
theorem ggX11_chairs_X0_has : GoodIn wsX11_chairs wsX0_has := goodIn_r _ [14, 15, 132, 133, 134, 135, 136] (by decide +kernel) (by decide +kernel)
set_option maxRecDepth 20000 in
theorem gX11_chairs_X0_has : GoodIn wsX11_chairs (wsV RX11 146 RX0 yX0_has wsX0_has) := goodIn_app (goodIn_of _ (by decide +kernel)) ggX11_chairs_X0_has
set_option maxRecDepth 20000 in
theorem ggX11_chairs_X11_readWeek : GoodIn wsX11_chairs wsX11_readWeek := goodIn_r _ [19, 20, 21, 1, 22, 23, 24, 25, 5, 26, 27, 28, 29, 30, 31, 32, 33, 34, 35, 36, 37, 38, 39, 40, 41, 42, 122, 123, 124, 125, 126, 127, 128, 129, 130, 131, 132, 133, 134, 135, 136, 137, 138, 139, 140, 141, 142, 143, 144] (by decide +kernel) (by decide +kernel)
set_option maxRecDepth 20000 in
theorem gX11_chairs_X11_readWeek : GoodIn wsX11_chairs (wsV RX11 153 RX11 yX11_readWeek wsX11_readWeek) := goodIn_app (goodIn_of _ (by decide +kernel)) ggX11_chairs_X11_readWeek
theorem dX11_chairs_0 : decode cX11_chairs 0 = .ok (.iload_n 2, 1) := by decide +kernel
theorem dX11_chairs_1 : decode cX11_chairs 1 = .ok (.bipush 10, 2) := by decide +kernel
theorem dX11_chairs_3 : decode cX11_chairs 3 = .ok (.irem, 1) := by decide +kernel
theorem dX11_chairs_4 : decode cX11_chairs 4 = .ok (.istore 4, 2) := by decide +kernel
theorem dX11_chairs_6 : decode cX11_chairs 6 = .ok (.iload_n 1, 1) := by decide +kernel
theorem dX11_chairs_7 : decode cX11_chairs 7 = .ok (.invokestatic 97, 3) := by decide +kernel
theorem dX11_chairs_10 : decode cX11_chairs 10 = .ok (.ifCond .eq 29, 3) := by decide +kernel
theorem dX11_chairs_13 : decode cX11_chairs 13 = .ok (.iload_n 2, 1) := by decide +kernel
theorem dX11_chairs_14 : decode cX11_chairs 14 = .ok (.ifCond .lt 25, 3) := by decide +kernel
theorem dX11_chairs_17 : decode cX11_chairs 17 = .ok (.iload_n 2, 1) := by decide +kernel
theorem dX11_chairs_18 : decode cX11_chairs 18 = .ok (.bipush 10, 2) := by decide +kernel
theorem dX11_chairs_20 : decode cX11_chairs 20 = .ok (.idiv, 1) := by decide +kernel
theorem dX11_chairs_21 : decode cX11_chairs 21 = .ok (.invokestatic 123, 3) := by decide +kernel
theorem dX11_chairs_24 : decode cX11_chairs 24 = .ok (.ifCond .eq 15, 3) := by decide +kernel
theorem dX11_chairs_27 : decode cX11_chairs 27 = .ok (.iload 4, 2) := by decide +kernel
theorem dX11_chairs_29 : decode cX11_chairs 29 = .ok (.iconst 1, 1) := by decide +kernel
theorem dX11_chairs_30 : decode cX11_chairs 30 = .ok (.if_icmp .lt 9, 3) := by decide +kernel
theorem dX11_chairs_33 : decode cX11_chairs 33 = .ok (.iload 4, 2) := by decide +kernel
theorem dX11_chairs_35 : decode cX11_chairs 35 = .ok (.iconst 3, 1) := by decide +kernel
theorem dX11_chairs_36 : decode cX11_chairs 36 = .ok (.if_icmp .le 5, 3) := by decide +kernel
theorem dX11_chairs_39 : decode cX11_chairs 39 = .ok (.iconst (-1), 1) := by decide +kernel
theorem dX11_chairs_40 : decode cX11_chairs 40 = .ok (.ireturn, 1) := by decide +kernel
theorem dX11_chairs_41 : decode cX11_chairs 41 = .ok (.iload_n 3, 1) := by decide +kernel
theorem dX11_chairs_42 : decode cX11_chairs 42 = .ok (.iconst (-1), 1) := by decide +kernel
theorem dX11_chairs_43 : decode cX11_chairs 43 = .ok (.if_icmp .eq 16, 3) := by decide +kernel
theorem dX11_chairs_46 : decode cX11_chairs 46 = .ok (.aload_n 0, 1) := by decide +kernel
theorem dX11_chairs_47 : decode cX11_chairs 47 = .ok (.getfield 12, 3) := by decide +kernel
theorem dX11_chairs_50 : decode cX11_chairs 50 = .ok (.iload_n 3, 1) := by decide +kernel
theorem dX11_chairs_51 : decode cX11_chairs 51 = .ok (.invokevirtual 146, 3) := by decide +kernel
theorem dX11_chairs_54 : decode cX11_chairs 54 = .ok (.ifCond .ne 5, 3) := by decide +kernel
theorem dX11_chairs_57 : decode cX11_chairs 57 = .ok (.iconst (-1), 1) := by decide +kernel
theorem dX11_chairs_58 : decode cX11_chairs 58 = .ok (.ireturn, 1) := by decide +kernel
theorem dX11_chairs_59 : decode cX11_chairs 59 = .ok (.aload_n 0, 1) := by decide +kernel
theorem dX11_chairs_60 : decode cX11_chairs 60 = .ok (.iload_n 1, 1) := by decide +kernel
theorem dX11_chairs_61 : decode cX11_chairs 61 = .ok (.invokevirtual 153, 3) := by decide +kernel
theorem dX11_chairs_64 : decode cX11_chairs 64 = .ok (.istore 5, 2) := by decide +kernel
theorem dX11_chairs_66 : decode cX11_chairs 66 = .ok (.iload 5, 2) := by decide +kernel
theorem dX11_chairs_68 : decode cX11_chairs 68 = .ok (.ifCond .eq 8, 3) := by decide +kernel
theorem dX11_chairs_71 : decode cX11_chairs 71 = .ok (.iload 5, 2) := by decide +kernel
theorem dX11_chairs_73 : decode cX11_chairs 73 = .ok (.goto 17, 3) := by decide +kernel
theorem dX11_chairs_90 : decode cX11_chairs 90 = .ok (.ireturn, 1) := by decide +kernel
set_option maxRecDepth 20000 in
theorem ggX11_wilful_X11_isShelf : GoodIn wsX11_wilful wsX11_isShelf := goodIn_r _ [7] (by decide +kernel) (by decide +kernel)
set_option maxRecDepth 20000 in
theorem gX11_wilful_X11_isShelf : GoodIn wsX11_wilful (va_wsS RX11 97 yX11_isShelf wsX11_isShelf) := goodIn_app (goodIn_of _ (by decide +kernel)) ggX11_wilful_X11_isShelf
set_option maxRecDepth 20000 in
theorem ggX11_wilful_X0_has : GoodIn wsX11_wilful wsX0_has := goodIn_r _ [12, 13, 161, 162, 163, 164, 165] (by decide +kernel) (by decide +kernel)
set_option maxRecDepth 20000 in
theorem gX11_wilful_X0_has : GoodIn wsX11_wilful (wsV RX11 146 RX0 yX0_has wsX0_has) := goodIn_app (goodIn_of _ (by decide +kernel)) ggX11_wilful_X0_has
theorem dX11_wilful_0 : decode cX11_wilful 0 = .ok (.iload_n 1, 1) := by decide +kernel
theorem dX11_wilful_1 : decode cX11_wilful 1 = .ok (.invokestatic 97, 3) := by decide +kernel
theorem dX11_wilful_4 : decode cX11_wilful 4 = .ok (.ifCond .eq 21, 3) := by decide +kernel
theorem dX11_wilful_7 : decode cX11_wilful 7 = .ok (.aload_n 0, 1) := by decide +kernel
theorem dX11_wilful_8 : decode cX11_wilful 8 = .ok (.getfield 12, 3) := by decide +kernel
theorem dX11_wilful_11 : decode cX11_wilful 11 = .ok (.iload_n 2, 1) := by decide +kernel
theorem dX11_wilful_12 : decode cX11_wilful 12 = .ok (.invokevirtual 146, 3) := by decide +kernel
theorem dX11_wilful_15 : decode cX11_wilful 15 = .ok (.ifCond .eq 10, 3) := by decide +kernel
theorem dX11_wilful_25 : decode cX11_wilful 25 = .ok (.ldc 205, 2) := by decide +kernel
theorem dX11_wilful_27 : decode cX11_wilful 27 = .ok (.ireturn, 1) := by decide +kernel
set_option maxRecDepth 20000 in
theorem ggX11_who_X11_isShelf : GoodIn wsX11_who wsX11_isShelf := goodIn_r _ [7] (by decide +kernel) (by decide +kernel)
set_option maxRecDepth 20000 in
theorem gX11_who_X11_isShelf : GoodIn wsX11_who (va_wsS RX11 97 yX11_isShelf wsX11_isShelf) := goodIn_app (goodIn_of _ (by decide +kernel)) ggX11_who_X11_isShelf
set_option maxRecDepth 20000 in
theorem ggX11_who_X11_isPart : GoodIn wsX11_who wsX11_isPart := goodIn_r _ [10] (by decide +kernel) (by decide +kernel)
set_option maxRecDepth 20000 in
theorem gX11_who_X11_isPart : GoodIn wsX11_who (va_wsS RX11 123 yX11_isPart wsX11_isPart) := goodIn_app (goodIn_of _ (by decide +kernel)) ggX11_who_X11_isPart
set_option maxRecDepth 20000 in
theorem ggX11_who_X11_refusalOf : GoodIn wsX11_who wsX11_refusalOf := goodIn_r _ [14, 1, 15, 80, 81, 82, 83, 84, 85, 86, 87, 88, 89, 90, 91, 92, 93] (by decide +kernel) (by decide +kernel)
set_option maxRecDepth 20000 in
theorem gX11_who_X11_refusalOf : GoodIn wsX11_who (wsV RX11 209 RX11 yX11_refusalOf wsX11_refusalOf) := goodIn_app (goodIn_of _ (by decide +kernel)) ggX11_who_X11_refusalOf
theorem dX11_who_0 : decode cX11_who 0 = .ok (.iload_n 1, 1) := by decide +kernel
theorem dX11_who_1 : decode cX11_who 1 = .ok (.invokestatic 97, 3) := by decide +kernel
theorem dX11_who_4 : decode cX11_who 4 = .ok (.ifCond .eq 20, 3) := by decide +kernel
theorem dX11_who_7 : decode cX11_who 7 = .ok (.iload_n 2, 1) := by decide +kernel
theorem dX11_who_8 : decode cX11_who 8 = .ok (.invokestatic 123, 3) := by decide +kernel
theorem dX11_who_11 : decode cX11_who 11 = .ok (.ifCond .eq 13, 3) := by decide +kernel
theorem dX11_who_14 : decode cX11_who 14 = .ok (.iload_n 3, 1) := by decide +kernel
theorem dX11_who_15 : decode cX11_who 15 = .ok (.ifCond .lt 9, 3) := by decide +kernel
theorem dX11_who_18 : decode cX11_who 18 = .ok (.iload_n 3, 1) := by decide +kernel
theorem dX11_who_19 : decode cX11_who 19 = .ok (.bipush 12, 2) := by decide +kernel
theorem dX11_who_21 : decode cX11_who 21 = .ok (.if_icmp .lt 5, 3) := by decide +kernel
theorem dX11_who_24 : decode cX11_who 24 = .ok (.iconst (-1), 1) := by decide +kernel
theorem dX11_who_25 : decode cX11_who 25 = .ok (.ireturn, 1) := by decide +kernel
theorem dX11_who_26 : decode cX11_who 26 = .ok (.aload_n 0, 1) := by decide +kernel
theorem dX11_who_27 : decode cX11_who 27 = .ok (.iload_n 1, 1) := by decide +kernel
theorem dX11_who_28 : decode cX11_who 28 = .ok (.invokevirtual 209, 3) := by decide +kernel
theorem dX11_who_31 : decode cX11_who 31 = .ok (.istore 4, 2) := by decide +kernel
theorem dX11_who_33 : decode cX11_who 33 = .ok (.iload 4, 2) := by decide +kernel
theorem dX11_who_35 : decode cX11_who 35 = .ok (.ifCond .eq 6, 3) := by decide +kernel
theorem dX11_who_38 : decode cX11_who 38 = .ok (.iload 4, 2) := by decide +kernel
theorem dX11_who_40 : decode cX11_who 40 = .ok (.ireturn, 1) := by decide +kernel
set_option maxRecDepth 20000 in
theorem ggX11_judge_X11_isShelf : GoodIn wsX11_judge wsX11_isShelf := goodIn_r _ [5] (by decide +kernel) (by decide +kernel)
set_option maxRecDepth 20000 in
theorem gX11_judge_X11_isShelf : GoodIn wsX11_judge (va_wsS RX11 97 yX11_isShelf wsX11_isShelf) := goodIn_app (goodIn_of _ (by decide +kernel)) ggX11_judge_X11_isShelf
set_option maxRecDepth 20000 in
theorem ggX11_judge_X11_isPart : GoodIn wsX11_judge wsX11_isPart := goodIn_r _ [8] (by decide +kernel) (by decide +kernel)
set_option maxRecDepth 20000 in
theorem gX11_judge_X11_isPart : GoodIn wsX11_judge (va_wsS RX11 123 yX11_isPart wsX11_isPart) := goodIn_app (goodIn_of _ (by decide +kernel)) ggX11_judge_X11_isPart
set_option maxRecDepth 20000 in
theorem ggX11_judge_X11_refusalOf : GoodIn wsX11_judge wsX11_refusalOf := goodIn_r _ [12, 1, 13, 145, 146, 147, 148, 149, 150, 151, 152, 153, 154, 155, 156, 157, 158] (by decide +kernel) (by decide +kernel)
set_option maxRecDepth 20000 in
theorem gX11_judge_X11_refusalOf : GoodIn wsX11_judge (wsV RX11 209 RX11 yX11_refusalOf wsX11_refusalOf) := goodIn_app (goodIn_of _ (by decide +kernel)) ggX11_judge_X11_refusalOf
theorem dX11_judge_0 : decode cX11_judge 0 = .ok (.iload_n 1, 1) := by decide +kernel
theorem dX11_judge_1 : decode cX11_judge 1 = .ok (.bipush 10, 2) := by decide +kernel
theorem dX11_judge_3 : decode cX11_judge 3 = .ok (.idiv, 1) := by decide +kernel
theorem dX11_judge_4 : decode cX11_judge 4 = .ok (.istore_n 3, 1) := by decide +kernel
theorem dX11_judge_5 : decode cX11_judge 5 = .ok (.iload_n 1, 1) := by decide +kernel
theorem dX11_judge_6 : decode cX11_judge 6 = .ok (.bipush 10, 2) := by decide +kernel
theorem dX11_judge_8 : decode cX11_judge 8 = .ok (.irem, 1) := by decide +kernel
theorem dX11_judge_9 : decode cX11_judge 9 = .ok (.istore 4, 2) := by decide +kernel
theorem dX11_judge_11 : decode cX11_judge 11 = .ok (.iload_n 1, 1) := by decide +kernel
theorem dX11_judge_12 : decode cX11_judge 12 = .ok (.ifCond .lt 25, 3) := by decide +kernel
theorem dX11_judge_15 : decode cX11_judge 15 = .ok (.iload_n 3, 1) := by decide +kernel
theorem dX11_judge_16 : decode cX11_judge 16 = .ok (.invokestatic 97, 3) := by decide +kernel
theorem dX11_judge_19 : decode cX11_judge 19 = .ok (.ifCond .eq 18, 3) := by decide +kernel
theorem dX11_judge_22 : decode cX11_judge 22 = .ok (.iload 4, 2) := by decide +kernel
theorem dX11_judge_24 : decode cX11_judge 24 = .ok (.invokestatic 97, 3) := by decide +kernel
theorem dX11_judge_27 : decode cX11_judge 27 = .ok (.ifCond .eq 10, 3) := by decide +kernel
theorem dX11_judge_30 : decode cX11_judge 30 = .ok (.iload_n 2, 1) := by decide +kernel
theorem dX11_judge_31 : decode cX11_judge 31 = .ok (.invokestatic 123, 3) := by decide +kernel
theorem dX11_judge_34 : decode cX11_judge 34 = .ok (.ifCond .ne 5, 3) := by decide +kernel
theorem dX11_judge_37 : decode cX11_judge 37 = .ok (.iconst (-1), 1) := by decide +kernel
theorem dX11_judge_38 : decode cX11_judge 38 = .ok (.ireturn, 1) := by decide +kernel
theorem dX11_judge_39 : decode cX11_judge 39 = .ok (.aload_n 0, 1) := by decide +kernel
theorem dX11_judge_40 : decode cX11_judge 40 = .ok (.iload_n 3, 1) := by decide +kernel
theorem dX11_judge_41 : decode cX11_judge 41 = .ok (.invokevirtual 209, 3) := by decide +kernel
theorem dX11_judge_44 : decode cX11_judge 44 = .ok (.istore 5, 2) := by decide +kernel
theorem dX11_judge_46 : decode cX11_judge 46 = .ok (.aload_n 0, 1) := by decide +kernel
theorem dX11_judge_47 : decode cX11_judge 47 = .ok (.iload 4, 2) := by decide +kernel
theorem dX11_judge_49 : decode cX11_judge 49 = .ok (.invokevirtual 209, 3) := by decide +kernel
theorem dX11_judge_52 : decode cX11_judge 52 = .ok (.istore 6, 2) := by decide +kernel
theorem dX11_judge_54 : decode cX11_judge 54 = .ok (.iload 5, 2) := by decide +kernel
theorem dX11_judge_56 : decode cX11_judge 56 = .ok (.bipush (-11), 2) := by decide +kernel
theorem dX11_judge_58 : decode cX11_judge 58 = .ok (.if_icmp .eq 10, 3) := by decide +kernel
theorem dX11_judge_68 : decode cX11_judge 68 = .ok (.bipush (-11), 2) := by decide +kernel
theorem dX11_judge_70 : decode cX11_judge 70 = .ok (.ireturn, 1) := by decide +kernel
set_option maxRecDepth 20000 in
theorem ggX11_drawn_X11_isShelf : GoodIn wsX11_drawn wsX11_isShelf := goodIn_r _ [6] (by decide +kernel) (by decide +kernel)
set_option maxRecDepth 20000 in
theorem gX11_drawn_X11_isShelf : GoodIn wsX11_drawn (va_wsS RX11 97 yX11_isShelf wsX11_isShelf) := goodIn_app (goodIn_of _ (by decide +kernel)) ggX11_drawn_X11_isShelf
set_option maxRecDepth 20000 in
theorem ggX11_drawn_X11_readWeek : GoodIn wsX11_drawn wsX11_readWeek := goodIn_r _ [10, 11, 12, 13, 14, 15, 16, 17, 5, 18, 19, 20, 21, 22, 23, 24, 25, 26, 27, 28, 29, 30, 31, 32, 33, 34, 140, 141, 142, 143, 144, 145, 146, 147, 148, 149, 161, 162, 163, 164, 165, 166, 167, 168, 169, 170, 171, 172, 173] (by decide +kernel) (by decide +kernel)
set_option maxRecDepth 20000 in
theorem gX11_drawn_X11_readWeek : GoodIn wsX11_drawn (wsV RX11 153 RX11 yX11_readWeek wsX11_readWeek) := goodIn_app (goodIn_of _ (by decide +kernel)) ggX11_drawn_X11_readWeek
theorem dX11_drawn_0 : decode cX11_drawn 0 = .ok (.iload_n 1, 1) := by decide +kernel
theorem dX11_drawn_1 : decode cX11_drawn 1 = .ok (.invokestatic 97, 3) := by decide +kernel
theorem dX11_drawn_4 : decode cX11_drawn 4 = .ok (.ifCond .eq 25, 3) := by decide +kernel
theorem dX11_drawn_7 : decode cX11_drawn 7 = .ok (.iload_n 3, 1) := by decide +kernel
theorem dX11_drawn_8 : decode cX11_drawn 8 = .ok (.iconst 1, 1) := by decide +kernel
theorem dX11_drawn_9 : decode cX11_drawn 9 = .ok (.if_icmp .lt 20, 3) := by decide +kernel
theorem dX11_drawn_12 : decode cX11_drawn 12 = .ok (.iload_n 3, 1) := by decide +kernel
theorem dX11_drawn_13 : decode cX11_drawn 13 = .ok (.bipush 20, 2) := by decide +kernel
theorem dX11_drawn_15 : decode cX11_drawn 15 = .ok (.if_icmp .gt 14, 3) := by decide +kernel
theorem dX11_drawn_18 : decode cX11_drawn 18 = .ok (.iload 4, 2) := by decide +kernel
theorem dX11_drawn_20 : decode cX11_drawn 20 = .ok (.ifCond .lt 9, 3) := by decide +kernel
theorem dX11_drawn_23 : decode cX11_drawn 23 = .ok (.iload 4, 2) := by decide +kernel
theorem dX11_drawn_25 : decode cX11_drawn 25 = .ok (.iconst 1, 1) := by decide +kernel
theorem dX11_drawn_26 : decode cX11_drawn 26 = .ok (.if_icmp .le 5, 3) := by decide +kernel
theorem dX11_drawn_29 : decode cX11_drawn 29 = .ok (.iconst (-1), 1) := by decide +kernel
theorem dX11_drawn_30 : decode cX11_drawn 30 = .ok (.ireturn, 1) := by decide +kernel
theorem dX11_drawn_31 : decode cX11_drawn 31 = .ok (.aload_n 0, 1) := by decide +kernel
theorem dX11_drawn_32 : decode cX11_drawn 32 = .ok (.iload_n 1, 1) := by decide +kernel
theorem dX11_drawn_33 : decode cX11_drawn 33 = .ok (.invokevirtual 153, 3) := by decide +kernel
theorem dX11_drawn_36 : decode cX11_drawn 36 = .ok (.istore 5, 2) := by decide +kernel
theorem dX11_drawn_38 : decode cX11_drawn 38 = .ok (.iload 5, 2) := by decide +kernel
theorem dX11_drawn_40 : decode cX11_drawn 40 = .ok (.ifCond .eq 6, 3) := by decide +kernel
theorem dX11_drawn_43 : decode cX11_drawn 43 = .ok (.iload 5, 2) := by decide +kernel
theorem dX11_drawn_45 : decode cX11_drawn 45 = .ok (.ireturn, 1) := by decide +kernel
set_option maxRecDepth 20000 in
theorem ggX11_sit_X0_has : GoodIn wsX11_sit wsX0_has := goodIn_r _ [7, 8, 120, 121, 122, 123, 124] (by decide +kernel) (by decide +kernel)
set_option maxRecDepth 20000 in
theorem gX11_sit_X0_has : GoodIn wsX11_sit (wsV RX11 146 RX0 yX0_has wsX0_has) := goodIn_app (goodIn_of _ (by decide +kernel)) ggX11_sit_X0_has
theorem dX11_sit_0 : decode cX11_sit 0 = .ok (.aload_n 0, 1) := by decide +kernel
theorem dX11_sit_1 : decode cX11_sit 1 = .ok (.getfield 12, 3) := by decide +kernel
theorem dX11_sit_4 : decode cX11_sit 4 = .ok (.iload_n 1, 1) := by decide +kernel
theorem dX11_sit_5 : decode cX11_sit 5 = .ok (.invokevirtual 146, 3) := by decide +kernel
theorem dX11_sit_8 : decode cX11_sit 8 = .ok (.ifCond .eq 14, 3) := by decide +kernel
theorem dX11_sit_22 : decode cX11_sit 22 = .ok (.iconst (-1), 1) := by decide +kernel
theorem dX11_sit_23 : decode cX11_sit 23 = .ok (.ireturn, 1) := by decide +kernel
set_option maxRecDepth 20000 in
theorem ggX11_set_X11_isPart : GoodIn wsX11_set wsX11_isPart := goodIn_r _ [5] (by decide +kernel) (by decide +kernel)
set_option maxRecDepth 20000 in
theorem gX11_set_X11_isPart : GoodIn wsX11_set (va_wsS RX11 123 yX11_isPart wsX11_isPart) := goodIn_app (goodIn_of _ (by decide +kernel)) ggX11_set_X11_isPart
set_option maxRecDepth 20000 in
theorem ggX11_set_X11_isSetting : GoodIn wsX11_set wsX11_isSetting := goodIn_r _ [8] (by decide +kernel) (by decide +kernel)
set_option maxRecDepth 20000 in
theorem gX11_set_X11_isSetting : GoodIn wsX11_set (va_wsS RX11 85 yX11_isSetting wsX11_isSetting) := goodIn_app (goodIn_of _ (by decide +kernel)) ggX11_set_X11_isSetting
set_option maxRecDepth 20000 in
theorem ggX11_set_X2_turns : GoodIn wsX11_set wsX2_turns := goodIn_r _ [13, 14, 15, 16, 17, 18, 19, 20, 31, 32, 33, 34, 35, 36, 37, 38, 39, 40, 41] (by decide +kernel) (by decide +kernel)
set_option maxRecDepth 20000 in
theorem gX11_set_X2_turns : GoodIn wsX11_set (wsV RX11 225 RX2 yX2_turns wsX2_turns) := goodIn_app (goodIn_of _ (by decide +kernel)) ggX11_set_X2_turns
theorem dX11_set_0 : decode cX11_set 0 = .ok (.iload_n 1, 1) := by decide +kernel
theorem dX11_set_1 : decode cX11_set 1 = .ok (.invokestatic 123, 3) := by decide +kernel
theorem dX11_set_4 : decode cX11_set 4 = .ok (.ifCond .eq 22, 3) := by decide +kernel
theorem dX11_set_7 : decode cX11_set 7 = .ok (.iload_n 2, 1) := by decide +kernel
theorem dX11_set_8 : decode cX11_set 8 = .ok (.invokestatic 85, 3) := by decide +kernel
theorem dX11_set_11 : decode cX11_set 11 = .ok (.ifCond .eq 15, 3) := by decide +kernel
theorem dX11_set_14 : decode cX11_set 14 = .ok (.aload_n 0, 1) := by decide +kernel
theorem dX11_set_15 : decode cX11_set 15 = .ok (.getfield 60, 3) := by decide +kernel
theorem dX11_set_18 : decode cX11_set 18 = .ok (.iload_n 1, 1) := by decide +kernel
theorem dX11_set_19 : decode cX11_set 19 = .ok (.iload_n 2, 1) := by decide +kernel
theorem dX11_set_20 : decode cX11_set 20 = .ok (.invokevirtual 225, 3) := by decide +kernel
theorem dX11_set_23 : decode cX11_set 23 = .ok (.goto 4, 3) := by decide +kernel
theorem dX11_set_26 : decode cX11_set 26 = .ok (.iconst (-1), 1) := by decide +kernel
theorem dX11_set_27 : decode cX11_set 27 = .ok (.ireturn, 1) := by decide +kernel
set_option maxRecDepth 20000 in
theorem ggX11_night_X2_allSlip : GoodIn wsX11_night wsX2_allSlip := goodIn_r _ [6, 7, 8, 9, 10, 11, 12, 13, 14, 15, 16, 17, 18, 29, 30, 31, 32, 33, 34, 35, 36, 37, 38, 39] (by decide +kernel) (by decide +kernel)
set_option maxRecDepth 20000 in
theorem gX11_night_X2_allSlip : GoodIn wsX11_night (wsV RX11 228 RX2 yX2_allSlip wsX2_allSlip) := goodIn_app (goodIn_of _ (by decide +kernel)) ggX11_night_X2_allSlip
theorem dX11_night_0 : decode cX11_night 0 = .ok (.aload_n 0, 1) := by decide +kernel
theorem dX11_night_1 : decode cX11_night 1 = .ok (.getfield 60, 3) := by decide +kernel
theorem dX11_night_4 : decode cX11_night 4 = .ok (.invokevirtual 228, 3) := by decide +kernel
theorem dX11_night_7 : decode cX11_night 7 = .ok (.ireturn, 1) := by decide +kernel
theorem dX11_led_0 : decode cX11_led 0 = .ok (.iload_n 1, 1) := by decide +kernel
theorem dX11_led_1 : decode cX11_led 1 = .ok (.ifCond .lt 8, 3) := by decide +kernel
theorem dX11_led_4 : decode cX11_led 4 = .ok (.iload_n 1, 1) := by decide +kernel
theorem dX11_led_5 : decode cX11_led 5 = .ok (.iconst 5, 1) := by decide +kernel
theorem dX11_led_6 : decode cX11_led 6 = .ok (.if_icmp .lt 7, 3) := by decide +kernel
theorem dX11_led_9 : decode cX11_led 9 = .ok (.iconst (-1), 1) := by decide +kernel
theorem dX11_led_10 : decode cX11_led 10 = .ok (.goto 12, 3) := by decide +kernel
theorem dX11_led_13 : decode cX11_led 13 = .ok (.aload_n 0, 1) := by decide +kernel
theorem dX11_led_14 : decode cX11_led 14 = .ok (.getfield 60, 3) := by decide +kernel
theorem dX11_led_17 : decode cX11_led 17 = .ok (.getfield 231, 3) := by decide +kernel
theorem dX11_led_20 : decode cX11_led 20 = .ok (.iload_n 1, 1) := by decide +kernel
theorem dX11_led_21 : decode cX11_led 21 = .ok (.iaload, 1) := by decide +kernel
theorem dX11_led_22 : decode cX11_led 22 = .ok (.ireturn, 1) := by decide +kernel
set_option maxRecDepth 20000 in
theorem ggX11_image_X2_keepImage : GoodIn wsX11_image wsX2_keepImage := goodIn_r _ [6, 7, 8, 9, 10, 11, 12, 13, 14, 15, 16, 27, 28, 29, 30, 31, 32, 33, 34, 35, 36, 37] (by decide +kernel) (by decide +kernel)
set_option maxRecDepth 20000 in
theorem gX11_image_X2_keepImage : GoodIn wsX11_image (wsV RX11 232 RX2 yX2_keepImage wsX2_keepImage) := goodIn_app (goodIn_of _ (by decide +kernel)) ggX11_image_X2_keepImage
theorem dX11_image_0 : decode cX11_image 0 = .ok (.aload_n 0, 1) := by decide +kernel
theorem dX11_image_1 : decode cX11_image 1 = .ok (.getfield 60, 3) := by decide +kernel
theorem dX11_image_4 : decode cX11_image 4 = .ok (.invokevirtual 232, 3) := by decide +kernel
theorem dX11_image_7 : decode cX11_image 7 = .ok (.ireturn, 1) := by decide +kernel
set_option maxRecDepth 20000 in
theorem ggX11_back_X2_layBack : GoodIn wsX11_back wsX2_layBack := goodIn_r _ [6, 7, 8, 9, 10, 11, 12, 13, 14, 15, 16, 27, 28, 29, 30, 31, 32, 33, 34, 35, 36, 37] (by decide +kernel) (by decide +kernel)
set_option maxRecDepth 20000 in
theorem gX11_back_X2_layBack : GoodIn wsX11_back (wsV RX11 235 RX2 yX2_layBack wsX2_layBack) := goodIn_app (goodIn_of _ (by decide +kernel)) ggX11_back_X2_layBack
theorem dX11_back_0 : decode cX11_back 0 = .ok (.aload_n 0, 1) := by decide +kernel
theorem dX11_back_1 : decode cX11_back 1 = .ok (.getfield 60, 3) := by decide +kernel
theorem dX11_back_4 : decode cX11_back 4 = .ok (.invokevirtual 235, 3) := by decide +kernel
theorem dX11_back_7 : decode cX11_back 7 = .ok (.ireturn, 1) := by decide +kernel
theorem dX11_undo_0 : decode cX11_undo 0 = .ok (.aload_n 0, 1) := by decide +kernel
theorem dX11_undo_1 : decode cX11_undo 1 = .ok (.getfield 67, 3) := by decide +kernel
theorem dX11_undo_4 : decode cX11_undo 4 = .ok (.getfield 238, 3) := by decide +kernel
theorem dX11_undo_7 : decode cX11_undo 7 = .ok (.ifCond .ne 6, 3) := by decide +kernel
theorem dX11_undo_10 : decode cX11_undo 10 = .ok (.bipush (-5), 2) := by decide +kernel
theorem dX11_undo_12 : decode cX11_undo 12 = .ok (.ireturn, 1) := by decide +kernel
theorem dX11_redo_0 : decode cX11_redo 0 = .ok (.aload_n 0, 1) := by decide +kernel
theorem dX11_redo_1 : decode cX11_redo 1 = .ok (.getfield 67, 3) := by decide +kernel
theorem dX11_redo_4 : decode cX11_redo 4 = .ok (.getfield 238, 3) := by decide +kernel
theorem dX11_redo_7 : decode cX11_redo 7 = .ok (.aload_n 0, 1) := by decide +kernel
theorem dX11_redo_8 : decode cX11_redo 8 = .ok (.getfield 67, 3) := by decide +kernel
theorem dX11_redo_11 : decode cX11_redo 11 = .ok (.getfield 247, 3) := by decide +kernel
theorem dX11_redo_14 : decode cX11_redo 14 = .ok (.if_icmp .lt 6, 3) := by decide +kernel
theorem dX11_redo_17 : decode cX11_redo 17 = .ok (.bipush (-5), 2) := by decide +kernel
theorem dX11_redo_19 : decode cX11_redo 19 = .ok (.ireturn, 1) := by decide +kernel
set_option maxRecDepth 20000 in
theorem ggX11_body_X11_isKind : GoodIn wsX11_body wsX11_isKind := goodIn_r _ [5] (by decide +kernel) (by decide +kernel)
set_option maxRecDepth 20000 in
theorem gX11_body_X11_isKind : GoodIn wsX11_body (va_wsS RX11 253 yX11_isKind wsX11_isKind) := goodIn_app (goodIn_of _ (by decide +kernel)) ggX11_body_X11_isKind
set_option maxRecDepth 20000 in
theorem ggX11_body_X3_comes : GoodIn wsX11_body wsX3_comes := goodIn_r _ [10, 11, 12, 23, 24, 25, 26, 27, 28] (by decide +kernel) (by decide +kernel)
set_option maxRecDepth 20000 in
theorem gX11_body_X3_comes : GoodIn wsX11_body (wsV RX11 256 RX3 yX3_comes wsX3_comes) := goodIn_app (goodIn_of _ (by decide +kernel)) ggX11_body_X3_comes
theorem dX11_body_0 : decode cX11_body 0 = .ok (.iload_n 1, 1) := by decide +kernel
theorem dX11_body_1 : decode cX11_body 1 = .ok (.invokestatic 253, 3) := by decide +kernel
theorem dX11_body_4 : decode cX11_body 4 = .ok (.ifCond .eq 14, 3) := by decide +kernel
theorem dX11_body_7 : decode cX11_body 7 = .ok (.aload_n 0, 1) := by decide +kernel
theorem dX11_body_8 : decode cX11_body 8 = .ok (.getfield 74, 3) := by decide +kernel
theorem dX11_body_11 : decode cX11_body 11 = .ok (.iload_n 1, 1) := by decide +kernel
theorem dX11_body_12 : decode cX11_body 12 = .ok (.invokevirtual 256, 3) := by decide +kernel
theorem dX11_body_15 : decode cX11_body 15 = .ok (.goto 4, 3) := by decide +kernel
theorem dX11_body_18 : decode cX11_body 18 = .ok (.iconst (-1), 1) := by decide +kernel
theorem dX11_body_19 : decode cX11_body 19 = .ok (.ireturn, 1) := by decide +kernel
set_option maxRecDepth 20000 in
theorem ggX11_act_X3_acts : GoodIn wsX11_act wsX3_acts := goodIn_r _ [6, 7, 8, 9, 10, 11, 12, 13, 14, 5, 15, 16, 17, 18, 19, 20, 21, 22, 23, 24, 25, 36, 37, 38, 39, 40, 41] (by decide +kernel) (by decide +kernel)
set_option maxRecDepth 20000 in
theorem gX11_act_X3_acts : GoodIn wsX11_act (wsV RX11 257 RX3 yX3_acts wsX3_acts) := goodIn_app (goodIn_of _ (by decide +kernel)) ggX11_act_X3_acts
theorem dX11_act_0 : decode cX11_act 0 = .ok (.aload_n 0, 1) := by decide +kernel
theorem dX11_act_1 : decode cX11_act 1 = .ok (.getfield 74, 3) := by decide +kernel
theorem dX11_act_4 : decode cX11_act 4 = .ok (.iload_n 1, 1) := by decide +kernel
theorem dX11_act_5 : decode cX11_act 5 = .ok (.iload_n 2, 1) := by decide +kernel
theorem dX11_act_6 : decode cX11_act 6 = .ok (.iload_n 3, 1) := by decide +kernel
theorem dX11_act_7 : decode cX11_act 7 = .ok (.invokevirtual 257, 3) := by decide +kernel
theorem dX11_act_10 : decode cX11_act 10 = .ok (.ireturn, 1) := by decide +kernel
theorem dX11_trace_0 : decode cX11_trace 0 = .ok (.iload_n 1, 1) := by decide +kernel
theorem dX11_trace_1 : decode cX11_trace 1 = .ok (.ifCond .lt 19, 3) := by decide +kernel
theorem dX11_trace_4 : decode cX11_trace 4 = .ok (.iload_n 1, 1) := by decide +kernel
theorem dX11_trace_5 : decode cX11_trace 5 = .ok (.aload_n 0, 1) := by decide +kernel
theorem dX11_trace_6 : decode cX11_trace 6 = .ok (.getfield 74, 3) := by decide +kernel
theorem dX11_trace_9 : decode cX11_trace 9 = .ok (.getfield 260, 3) := by decide +kernel
theorem dX11_trace_12 : decode cX11_trace 12 = .ok (.bipush 24, 2) := by decide +kernel
theorem dX11_trace_14 : decode cX11_trace 14 = .ok (.invokestatic 263, 3) := by decide +kernel
theorem dX11_trace_17 : decode cX11_trace 17 = .ok (.if_icmp .lt 7, 3) := by decide +kernel
theorem dX11_trace_20 : decode cX11_trace 20 = .ok (.iconst (-1), 1) := by decide +kernel
theorem dX11_trace_21 : decode cX11_trace 21 = .ok (.goto 12, 3) := by decide +kernel
theorem dX11_trace_33 : decode cX11_trace 33 = .ok (.ireturn, 1) := by decide +kernel
set_option maxRecDepth 20000 in
theorem ggX11_keep_X11_isShelf : GoodIn wsX11_keep wsX11_isShelf := goodIn_r _ [7] (by decide +kernel) (by decide +kernel)
set_option maxRecDepth 20000 in
theorem gX11_keep_X11_isShelf : GoodIn wsX11_keep (va_wsS RX11 97 yX11_isShelf wsX11_isShelf) := goodIn_app (goodIn_of _ (by decide +kernel)) ggX11_keep_X11_isShelf
set_option maxRecDepth 20000 in
theorem ggX11_keep_X7_takesDesk : GoodIn wsX11_keep wsX7_takesDesk := goodIn_r _ [12, 13, 14, 31, 32, 33, 34] (by decide +kernel) (by decide +kernel)
set_option maxRecDepth 20000 in
theorem gX11_keep_X7_takesDesk : GoodIn wsX11_keep (wsV RX11 272 RX7 yX7_takesDesk wsX7_takesDesk) := goodIn_app (goodIn_of _ (by decide +kernel)) ggX11_keep_X7_takesDesk
theorem dX11_keep_0 : decode cX11_keep 0 = .ok (.iload_n 1, 1) := by decide +kernel
theorem dX11_keep_1 : decode cX11_keep 1 = .ok (.invokestatic 97, 3) := by decide +kernel
theorem dX11_keep_4 : decode cX11_keep 4 = .ok (.ifCond .eq 19, 3) := by decide +kernel
theorem dX11_keep_7 : decode cX11_keep 7 = .ok (.iload_n 2, 1) := by decide +kernel
theorem dX11_keep_8 : decode cX11_keep 8 = .ok (.iconst (-1), 1) := by decide +kernel
theorem dX11_keep_9 : decode cX11_keep 9 = .ok (.if_icmp .lt 14, 3) := by decide +kernel
theorem dX11_keep_12 : decode cX11_keep 12 = .ok (.iload_n 2, 1) := by decide +kernel
theorem dX11_keep_13 : decode cX11_keep 13 = .ok (.aload_n 0, 1) := by decide +kernel
theorem dX11_keep_14 : decode cX11_keep 14 = .ok (.getfield 74, 3) := by decide +kernel
theorem dX11_keep_17 : decode cX11_keep 17 = .ok (.getfield 271, 3) := by decide +kernel
theorem dX11_keep_20 : decode cX11_keep 20 = .ok (.if_icmp .lt 5, 3) := by decide +kernel
theorem dX11_keep_23 : decode cX11_keep 23 = .ok (.iconst (-1), 1) := by decide +kernel
theorem dX11_keep_24 : decode cX11_keep 24 = .ok (.ireturn, 1) := by decide +kernel
theorem dX11_keep_25 : decode cX11_keep 25 = .ok (.aload_n 0, 1) := by decide +kernel
theorem dX11_keep_26 : decode cX11_keep 26 = .ok (.getfield 80, 3) := by decide +kernel
theorem dX11_keep_29 : decode cX11_keep 29 = .ok (.iload_n 1, 1) := by decide +kernel
theorem dX11_keep_30 : decode cX11_keep 30 = .ok (.aaload, 1) := by decide +kernel
theorem dX11_keep_31 : decode cX11_keep 31 = .ok (.iload_n 2, 1) := by decide +kernel
theorem dX11_keep_32 : decode cX11_keep 32 = .ok (.invokevirtual 272, 3) := by decide +kernel
theorem dX11_keep_35 : decode cX11_keep 35 = .ok (.iconst 1, 1) := by decide +kernel
theorem dX11_keep_36 : decode cX11_keep 36 = .ok (.ireturn, 1) := by decide +kernel
set_option maxRecDepth 20000 in
theorem ggX11_row_X11_isShelf : GoodIn wsX11_row wsX11_isShelf := goodIn_r _ [5] (by decide +kernel) (by decide +kernel)
set_option maxRecDepth 20000 in
theorem gX11_row_X11_isShelf : GoodIn wsX11_row (va_wsS RX11 97 yX11_isShelf wsX11_isShelf) := goodIn_app (goodIn_of _ (by decide +kernel)) ggX11_row_X11_isShelf
set_option maxRecDepth 20000 in
theorem ggX11_row_X7_takesRow : GoodIn wsX11_row wsX7_takesRow := goodIn_r _ [10, 11, 12, 13, 24, 25, 26, 27] (by decide +kernel) (by decide +kernel)
set_option maxRecDepth 20000 in
theorem gX11_row_X7_takesRow : GoodIn wsX11_row (wsV RX11 275 RX7 yX7_takesRow wsX7_takesRow) := goodIn_app (goodIn_of _ (by decide +kernel)) ggX11_row_X7_takesRow
theorem dX11_row_0 : decode cX11_row 0 = .ok (.iload_n 1, 1) := by decide +kernel
theorem dX11_row_1 : decode cX11_row 1 = .ok (.invokestatic 97, 3) := by decide +kernel
theorem dX11_row_4 : decode cX11_row 4 = .ok (.ifCond .eq 18, 3) := by decide +kernel
theorem dX11_row_7 : decode cX11_row 7 = .ok (.iload_n 2, 1) := by decide +kernel
theorem dX11_row_8 : decode cX11_row 8 = .ok (.ifCond .lt 14, 3) := by decide +kernel
theorem dX11_row_11 : decode cX11_row 11 = .ok (.iload_n 2, 1) := by decide +kernel
theorem dX11_row_12 : decode cX11_row 12 = .ok (.iconst 4, 1) := by decide +kernel
theorem dX11_row_13 : decode cX11_row 13 = .ok (.if_icmp .gt 9, 3) := by decide +kernel
theorem dX11_row_16 : decode cX11_row 16 = .ok (.iload_n 3, 1) := by decide +kernel
theorem dX11_row_17 : decode cX11_row 17 = .ok (.bipush 60, 2) := by decide +kernel
theorem dX11_row_19 : decode cX11_row 19 = .ok (.if_icmp .le 5, 3) := by decide +kernel
theorem dX11_row_22 : decode cX11_row 22 = .ok (.iconst (-1), 1) := by decide +kernel
theorem dX11_row_23 : decode cX11_row 23 = .ok (.ireturn, 1) := by decide +kernel
theorem dX11_row_24 : decode cX11_row 24 = .ok (.iload_n 3, 1) := by decide +kernel
theorem dX11_row_25 : decode cX11_row 25 = .ok (.ifCond .ge 6, 3) := by decide +kernel
theorem dX11_row_28 : decode cX11_row 28 = .ok (.bipush (-14), 2) := by decide +kernel
theorem dX11_row_30 : decode cX11_row 30 = .ok (.ireturn, 1) := by decide +kernel
theorem dX11_row_31 : decode cX11_row 31 = .ok (.aload_n 0, 1) := by decide +kernel
theorem dX11_row_32 : decode cX11_row 32 = .ok (.getfield 80, 3) := by decide +kernel
theorem dX11_row_35 : decode cX11_row 35 = .ok (.iload_n 1, 1) := by decide +kernel
theorem dX11_row_36 : decode cX11_row 36 = .ok (.aaload, 1) := by decide +kernel
theorem dX11_row_37 : decode cX11_row 37 = .ok (.iload_n 2, 1) := by decide +kernel
theorem dX11_row_38 : decode cX11_row 38 = .ok (.iload_n 3, 1) := by decide +kernel
theorem dX11_row_39 : decode cX11_row 39 = .ok (.invokevirtual 275, 3) := by decide +kernel
theorem dX11_row_42 : decode cX11_row 42 = .ok (.iconst 1, 1) := by decide +kernel
theorem dX11_row_43 : decode cX11_row 43 = .ok (.ireturn, 1) := by decide +kernel
set_option maxRecDepth 20000 in
theorem ggX11_put_X11_refusalAt : GoodIn wsX11_put wsX11_refusalAt := goodIn_r _ [7, 1, 8, 9, 10, 6, 11, 12, 13, 14, 15, 16, 17, 18, 19, 20, 21, 22, 27, 28, 29, 30, 31, 32, 33, 34, 35, 36, 37, 38, 39, 40] (by decide +kernel) (by decide +kernel)
set_option maxRecDepth 20000 in
theorem gX11_put_X11_refusalAt : GoodIn wsX11_put (wsV RX11 278 RX11 yX11_refusalAt wsX11_refusalAt) := goodIn_app (goodIn_of _ (by decide +kernel)) ggX11_put_X11_refusalAt
theorem dX11_put_0 : decode cX11_put 0 = .ok (.aload_n 0, 1) := by decide +kernel
theorem dX11_put_1 : decode cX11_put 1 = .ok (.iload_n 1, 1) := by decide +kernel
theorem dX11_put_2 : decode cX11_put 2 = .ok (.iload_n 2, 1) := by decide +kernel
theorem dX11_put_3 : decode cX11_put 3 = .ok (.invokevirtual 278, 3) := by decide +kernel
theorem dX11_put_6 : decode cX11_put 6 = .ok (.istore 5, 2) := by decide +kernel
theorem dX11_put_8 : decode cX11_put 8 = .ok (.iload 5, 2) := by decide +kernel
theorem dX11_put_10 : decode cX11_put 10 = .ok (.ifCond .eq 6, 3) := by decide +kernel
theorem dX11_put_13 : decode cX11_put 13 = .ok (.iload 5, 2) := by decide +kernel
theorem dX11_put_15 : decode cX11_put 15 = .ok (.ireturn, 1) := by decide +kernel
set_option maxRecDepth 20000 in
theorem ggX11_element_X11_refusalAt : GoodIn wsX11_element wsX11_refusalAt := goodIn_r _ [8, 2, 9, 10, 11, 7, 12, 13, 14, 15, 16, 17, 18, 19, 20, 21, 22, 23, 24, 25, 26, 27, 28, 29, 30, 31, 32, 33, 34, 35, 36, 37] (by decide +kernel) (by decide +kernel)
set_option maxRecDepth 20000 in
theorem gX11_element_X11_refusalAt : GoodIn wsX11_element (wsV RX11 278 RX11 yX11_refusalAt wsX11_refusalAt) := goodIn_app (goodIn_of _ (by decide +kernel)) ggX11_element_X11_refusalAt
theorem dX11_element_0 : decode cX11_element 0 = .ok (.aload_n 0, 1) := by decide +kernel
theorem dX11_element_1 : decode cX11_element 1 = .ok (.iload_n 1, 1) := by decide +kernel
theorem dX11_element_2 : decode cX11_element 2 = .ok (.iload_n 2, 1) := by decide +kernel
theorem dX11_element_3 : decode cX11_element 3 = .ok (.invokevirtual 278, 3) := by decide +kernel
theorem dX11_element_6 : decode cX11_element 6 = .ok (.ifCond .eq 9, 3) := by decide +kernel
theorem dX11_element_9 : decode cX11_element 9 = .ok (.ldc2_w 289, 3) := by decide +kernel
theorem dX11_element_12 : decode cX11_element 12 = .ok (.goto 14, 3) := by decide +kernel
theorem dX11_element_26 : decode cX11_element 26 = .ok (.lreturn, 1) := by decide +kernel
set_option maxRecDepth 20000 in
theorem ggX11_shift_X11_isShelf : GoodIn wsX11_shift wsX11_isShelf := goodIn_r _ [11] (by decide +kernel) (by decide +kernel)
set_option maxRecDepth 20000 in
theorem gX11_shift_X11_isShelf : GoodIn wsX11_shift (va_wsS RX11 97 yX11_isShelf wsX11_isShelf) := goodIn_app (goodIn_of _ (by decide +kernel)) ggX11_shift_X11_isShelf
theorem dX11_shift_0 : decode cX11_shift 0 = .ok (.iload_n 1, 1) := by decide +kernel
theorem dX11_shift_1 : decode cX11_shift 1 = .ok (.invokestatic 97, 3) := by decide +kernel
theorem dX11_shift_4 : decode cX11_shift 4 = .ok (.ifCond .eq 10, 3) := by decide +kernel
theorem dX11_shift_7 : decode cX11_shift 7 = .ok (.iload_n 3, 1) := by decide +kernel
theorem dX11_shift_8 : decode cX11_shift 8 = .ok (.invokestatic 97, 3) := by decide +kernel
theorem dX11_shift_11 : decode cX11_shift 11 = .ok (.ifCond .ne 5, 3) := by decide +kernel
theorem dX11_shift_14 : decode cX11_shift 14 = .ok (.iconst (-1), 1) := by decide +kernel
theorem dX11_shift_15 : decode cX11_shift 15 = .ok (.ireturn, 1) := by decide +kernel
theorem dX11_shift_16 : decode cX11_shift 16 = .ok (.aload_n 0, 1) := by decide +kernel
theorem dX11_shift_17 : decode cX11_shift 17 = .ok (.getfield 80, 3) := by decide +kernel
theorem dX11_shift_20 : decode cX11_shift 20 = .ok (.iload_n 1, 1) := by decide +kernel
theorem dX11_shift_21 : decode cX11_shift 21 = .ok (.aaload, 1) := by decide +kernel
theorem dX11_shift_22 : decode cX11_shift 22 = .ok (.astore 6, 2) := by decide +kernel
theorem dX11_shift_24 : decode cX11_shift 24 = .ok (.aload_n 0, 1) := by decide +kernel
theorem dX11_shift_25 : decode cX11_shift 25 = .ok (.getfield 80, 3) := by decide +kernel
theorem dX11_shift_28 : decode cX11_shift 28 = .ok (.iload_n 3, 1) := by decide +kernel
theorem dX11_shift_29 : decode cX11_shift 29 = .ok (.aaload, 1) := by decide +kernel
theorem dX11_shift_30 : decode cX11_shift 30 = .ok (.astore 7, 2) := by decide +kernel
theorem dX11_shift_32 : decode cX11_shift 32 = .ok (.aload 6, 2) := by decide +kernel
theorem dX11_shift_34 : decode cX11_shift 34 = .ok (.getfield 100, 3) := by decide +kernel
theorem dX11_shift_37 : decode cX11_shift 37 = .ok (.iconst (-1), 1) := by decide +kernel
theorem dX11_shift_38 : decode cX11_shift 38 = .ok (.if_icmp .eq 12, 3) := by decide +kernel
theorem dX11_shift_50 : decode cX11_shift 50 = .ok (.bipush (-11), 2) := by decide +kernel
theorem dX11_shift_52 : decode cX11_shift 52 = .ok (.ireturn, 1) := by decide +kernel
set_option maxRecDepth 20000 in
theorem ggX11_taken_X11_isShelf : GoodIn wsX11_taken wsX11_isShelf := goodIn_r _ [8] (by decide +kernel) (by decide +kernel)
set_option maxRecDepth 20000 in
theorem gX11_taken_X11_isShelf : GoodIn wsX11_taken (va_wsS RX11 97 yX11_isShelf wsX11_isShelf) := goodIn_app (goodIn_of _ (by decide +kernel)) ggX11_taken_X11_isShelf
set_option maxRecDepth 20000 in
theorem ggX11_taken_X11_isKind : GoodIn wsX11_taken wsX11_isKind := goodIn_r _ [11] (by decide +kernel) (by decide +kernel)
set_option maxRecDepth 20000 in
theorem gX11_taken_X11_isKind : GoodIn wsX11_taken (va_wsS RX11 253 yX11_isKind wsX11_isKind) := goodIn_app (goodIn_of _ (by decide +kernel)) ggX11_taken_X11_isKind
theorem dX11_taken_0 : decode cX11_taken 0 = .ok (.iload_n 1, 1) := by decide +kernel
theorem dX11_taken_1 : decode cX11_taken 1 = .ok (.invokestatic 97, 3) := by decide +kernel
theorem dX11_taken_4 : decode cX11_taken 4 = .ok (.ifCond .eq 10, 3) := by decide +kernel
theorem dX11_taken_7 : decode cX11_taken 7 = .ok (.iload_n 2, 1) := by decide +kernel
theorem dX11_taken_8 : decode cX11_taken 8 = .ok (.invokestatic 253, 3) := by decide +kernel
theorem dX11_taken_11 : decode cX11_taken 11 = .ok (.ifCond .ne 5, 3) := by decide +kernel
theorem dX11_taken_14 : decode cX11_taken 14 = .ok (.iconst (-1), 1) := by decide +kernel
theorem dX11_taken_15 : decode cX11_taken 15 = .ok (.ireturn, 1) := by decide +kernel
theorem dX11_taken_16 : decode cX11_taken 16 = .ok (.aload_n 0, 1) := by decide +kernel
theorem dX11_taken_17 : decode cX11_taken 17 = .ok (.getfield 80, 3) := by decide +kernel
theorem dX11_taken_20 : decode cX11_taken 20 = .ok (.iload_n 1, 1) := by decide +kernel
theorem dX11_taken_21 : decode cX11_taken 21 = .ok (.aaload, 1) := by decide +kernel
theorem dX11_taken_22 : decode cX11_taken 22 = .ok (.astore_n 3, 1) := by decide +kernel
theorem dX11_taken_23 : decode cX11_taken 23 = .ok (.aload_n 3, 1) := by decide +kernel
theorem dX11_taken_24 : decode cX11_taken 24 = .ok (.getfield 100, 3) := by decide +kernel
theorem dX11_taken_27 : decode cX11_taken 27 = .ok (.iconst (-1), 1) := by decide +kernel
theorem dX11_taken_28 : decode cX11_taken 28 = .ok (.if_icmp .ne 6, 3) := by decide +kernel
theorem dX11_taken_31 : decode cX11_taken 31 = .ok (.bipush (-11), 2) := by decide +kernel
theorem dX11_taken_33 : decode cX11_taken 33 = .ok (.ireturn, 1) := by decide +kernel
theorem dX11_count_0 : decode cX11_count 0 = .ok (.iload_n 1, 1) := by decide +kernel
theorem dX11_count_1 : decode cX11_count 1 = .ok (.tableswitch 78 0 4 #[35, 43, 54, 62, 70], 35) := by decide +kernel
theorem dX11_count_36 : decode cX11_count 36 = .ok (.aload_n 0, 1) := by decide +kernel
theorem dX11_count_37 : decode cX11_count 37 = .ok (.getfield 12, 3) := by decide +kernel
theorem dX11_count_40 : decode cX11_count 40 = .ok (.getfield 310, 3) := by decide +kernel
theorem dX11_count_43 : decode cX11_count 43 = .ok (.ireturn, 1) := by decide +kernel
theorem dX11_count_44 : decode cX11_count 44 = .ok (.aload_n 0, 1) := by decide +kernel
theorem dX11_count_45 : decode cX11_count 45 = .ok (.getfield 12, 3) := by decide +kernel
theorem dX11_count_48 : decode cX11_count 48 = .ok (.getfield 129, 3) := by decide +kernel
theorem dX11_count_51 : decode cX11_count 51 = .ok (.getfield 313, 3) := by decide +kernel
theorem dX11_count_54 : decode cX11_count 54 = .ok (.ireturn, 1) := by decide +kernel
theorem dX11_count_55 : decode cX11_count 55 = .ok (.aload_n 0, 1) := by decide +kernel
theorem dX11_count_56 : decode cX11_count 56 = .ok (.getfield 67, 3) := by decide +kernel
theorem dX11_count_59 : decode cX11_count 59 = .ok (.getfield 238, 3) := by decide +kernel
theorem dX11_count_62 : decode cX11_count 62 = .ok (.ireturn, 1) := by decide +kernel
theorem dX11_count_63 : decode cX11_count 63 = .ok (.aload_n 0, 1) := by decide +kernel
theorem dX11_count_64 : decode cX11_count 64 = .ok (.getfield 74, 3) := by decide +kernel
theorem dX11_count_67 : decode cX11_count 67 = .ok (.getfield 271, 3) := by decide +kernel
theorem dX11_count_70 : decode cX11_count 70 = .ok (.ireturn, 1) := by decide +kernel
theorem dX11_count_71 : decode cX11_count 71 = .ok (.aload_n 0, 1) := by decide +kernel
theorem dX11_count_72 : decode cX11_count 72 = .ok (.getfield 74, 3) := by decide +kernel
theorem dX11_count_75 : decode cX11_count 75 = .ok (.getfield 260, 3) := by decide +kernel
theorem dX11_count_78 : decode cX11_count 78 = .ok (.ireturn, 1) := by decide +kernel
theorem dX11_count_79 : decode cX11_count 79 = .ok (.iconst (-1), 1) := by decide +kernel
theorem dX11_count_80 : decode cX11_count 80 = .ok (.ireturn, 1) := by decide +kernel
theorem dX11_isPart_0 : decode cX11_isPart 0 = .ok (.iload_n 0, 1) := by decide +kernel
theorem dX11_isPart_1 : decode cX11_isPart 1 = .ok (.ifCond .lt 12, 3) := by decide +kernel
theorem dX11_isPart_4 : decode cX11_isPart 4 = .ok (.iload_n 0, 1) := by decide +kernel
theorem dX11_isPart_5 : decode cX11_isPart 5 = .ok (.iconst 3, 1) := by decide +kernel
theorem dX11_isPart_6 : decode cX11_isPart 6 = .ok (.if_icmp .ge 7, 3) := by decide +kernel
theorem dX11_isPart_9 : decode cX11_isPart 9 = .ok (.iconst 1, 1) := by decide +kernel
theorem dX11_isPart_10 : decode cX11_isPart 10 = .ok (.goto 4, 3) := by decide +kernel
theorem dX11_isPart_13 : decode cX11_isPart 13 = .ok (.iconst 0, 1) := by decide +kernel
theorem dX11_isPart_14 : decode cX11_isPart 14 = .ok (.ireturn, 1) := by decide +kernel
theorem dX11_isSetting_0 : decode cX11_isSetting 0 = .ok (.iload_n 0, 1) := by decide +kernel
theorem dX11_isSetting_1 : decode cX11_isSetting 1 = .ok (.ifCond .lt 13, 3) := by decide +kernel
theorem dX11_isSetting_4 : decode cX11_isSetting 4 = .ok (.iload_n 0, 1) := by decide +kernel
theorem dX11_isSetting_5 : decode cX11_isSetting 5 = .ok (.bipush 60, 2) := by decide +kernel
theorem dX11_isSetting_7 : decode cX11_isSetting 7 = .ok (.if_icmp .gt 7, 3) := by decide +kernel
theorem dX11_isSetting_10 : decode cX11_isSetting 10 = .ok (.iconst 1, 1) := by decide +kernel
theorem dX11_isSetting_11 : decode cX11_isSetting 11 = .ok (.goto 4, 3) := by decide +kernel
theorem dX11_isSetting_14 : decode cX11_isSetting 14 = .ok (.iconst 0, 1) := by decide +kernel
theorem dX11_isSetting_15 : decode cX11_isSetting 15 = .ok (.ireturn, 1) := by decide +kernel
theorem dX11_isShelf_0 : decode cX11_isShelf 0 = .ok (.iload_n 0, 1) := by decide +kernel
theorem dX11_isShelf_1 : decode cX11_isShelf 1 = .ok (.ifCond .lt 13, 3) := by decide +kernel
theorem dX11_isShelf_4 : decode cX11_isShelf 4 = .ok (.iload_n 0, 1) := by decide +kernel
theorem dX11_isShelf_5 : decode cX11_isShelf 5 = .ok (.bipush 6, 2) := by decide +kernel
theorem dX11_isShelf_7 : decode cX11_isShelf 7 = .ok (.if_icmp .ge 7, 3) := by decide +kernel
theorem dX11_isShelf_10 : decode cX11_isShelf 10 = .ok (.iconst 1, 1) := by decide +kernel
theorem dX11_isShelf_11 : decode cX11_isShelf 11 = .ok (.goto 4, 3) := by decide +kernel
theorem dX11_isShelf_14 : decode cX11_isShelf 14 = .ok (.iconst 0, 1) := by decide +kernel
theorem dX11_isShelf_15 : decode cX11_isShelf 15 = .ok (.ireturn, 1) := by decide +kernel
theorem dX11_isKind_0 : decode cX11_isKind 0 = .ok (.iload_n 0, 1) := by decide +kernel
theorem dX11_isKind_1 : decode cX11_isKind 1 = .ok (.ifCond .lt 13, 3) := by decide +kernel
theorem dX11_isKind_4 : decode cX11_isKind 4 = .ok (.iload_n 0, 1) := by decide +kernel
theorem dX11_isKind_5 : decode cX11_isKind 5 = .ok (.bipush 8, 2) := by decide +kernel
theorem dX11_isKind_7 : decode cX11_isKind 7 = .ok (.if_icmp .ge 7, 3) := by decide +kernel
theorem dX11_isKind_10 : decode cX11_isKind 10 = .ok (.iconst 1, 1) := by decide +kernel
theorem dX11_isKind_11 : decode cX11_isKind 11 = .ok (.goto 4, 3) := by decide +kernel
theorem dX11_isKind_14 : decode cX11_isKind 14 = .ok (.iconst 0, 1) := by decide +kernel
theorem dX11_isKind_15 : decode cX11_isKind 15 = .ok (.ireturn, 1) := by decide +kernel
theorem dX11_fits_0 : decode cX11_fits 0 = .ok (.iload_n 0, 1) := by decide +kernel
theorem dX11_fits_1 : decode cX11_fits 1 = .ok (.ifCond .lt 33, 3) := by decide +kernel
theorem dX11_fits_4 : decode cX11_fits 4 = .ok (.iload_n 0, 1) := by decide +kernel
theorem dX11_fits_5 : decode cX11_fits 5 = .ok (.getstatic 314, 3) := by decide +kernel
theorem dX11_fits_8 : decode cX11_fits 8 = .ok (.arraylength, 1) := by decide +kernel
theorem dX11_fits_9 : decode cX11_fits 9 = .ok (.if_icmp .ge 25, 3) := by decide +kernel
theorem dX11_fits_12 : decode cX11_fits 12 = .ok (.iload_n 1, 1) := by decide +kernel
theorem dX11_fits_13 : decode cX11_fits 13 = .ok (.getstatic 317, 3) := by decide +kernel
theorem dX11_fits_16 : decode cX11_fits 16 = .ok (.iload_n 0, 1) := by decide +kernel
theorem dX11_fits_17 : decode cX11_fits 17 = .ok (.iaload, 1) := by decide +kernel
theorem dX11_fits_18 : decode cX11_fits 18 = .ok (.if_icmp .lt 16, 3) := by decide +kernel
theorem dX11_fits_21 : decode cX11_fits 21 = .ok (.iload_n 1, 1) := by decide +kernel
theorem dX11_fits_22 : decode cX11_fits 22 = .ok (.getstatic 314, 3) := by decide +kernel
theorem dX11_fits_25 : decode cX11_fits 25 = .ok (.iload_n 0, 1) := by decide +kernel
theorem dX11_fits_26 : decode cX11_fits 26 = .ok (.iaload, 1) := by decide +kernel
theorem dX11_fits_27 : decode cX11_fits 27 = .ok (.if_icmp .gt 7, 3) := by decide +kernel
theorem dX11_fits_30 : decode cX11_fits 30 = .ok (.iconst 1, 1) := by decide +kernel
theorem dX11_fits_31 : decode cX11_fits 31 = .ok (.goto 4, 3) := by decide +kernel
theorem dX11_fits_34 : decode cX11_fits 34 = .ok (.iconst 0, 1) := by decide +kernel
theorem dX11_fits_35 : decode cX11_fits 35 = .ok (.ireturn, 1) := by decide +kernel
theorem dX11_refusalOf_0 : decode cX11_refusalOf 0 = .ok (.aload_n 0, 1) := by decide +kernel
theorem dX11_refusalOf_1 : decode cX11_refusalOf 1 = .ok (.getfield 80, 3) := by decide +kernel
theorem dX11_refusalOf_4 : decode cX11_refusalOf 4 = .ok (.iload_n 1, 1) := by decide +kernel
theorem dX11_refusalOf_5 : decode cX11_refusalOf 5 = .ok (.aaload, 1) := by decide +kernel
theorem dX11_refusalOf_6 : decode cX11_refusalOf 6 = .ok (.getfield 100, 3) := by decide +kernel
theorem dX11_refusalOf_9 : decode cX11_refusalOf 9 = .ok (.iconst (-1), 1) := by decide +kernel
theorem dX11_refusalOf_10 : decode cX11_refusalOf 10 = .ok (.if_icmp .ne 6, 3) := by decide +kernel
theorem dX11_refusalOf_13 : decode cX11_refusalOf 13 = .ok (.bipush (-11), 2) := by decide +kernel
theorem dX11_refusalOf_15 : decode cX11_refusalOf 15 = .ok (.ireturn, 1) := by decide +kernel
set_option maxRecDepth 20000 in
theorem ggX11_readWeek_X11_refusalOf : GoodIn wsX11_readWeek wsX11_refusalOf := goodIn_r _ [9, 2, 10, 26, 27, 28, 29, 30, 31, 32, 33, 34, 35, 41, 42, 43, 44] (by decide +kernel) (by decide +kernel)
set_option maxRecDepth 20000 in
theorem gX11_readWeek_X11_refusalOf : GoodIn wsX11_readWeek (wsV RX11 209 RX11 yX11_refusalOf wsX11_refusalOf) := goodIn_app (goodIn_of _ (by decide +kernel)) ggX11_readWeek_X11_refusalOf
theorem dX11_readWeek_0 : decode cX11_readWeek 0 = .ok (.aload_n 0, 1) := by decide +kernel
theorem dX11_readWeek_1 : decode cX11_readWeek 1 = .ok (.iload_n 1, 1) := by decide +kernel
theorem dX11_readWeek_2 : decode cX11_readWeek 2 = .ok (.invokevirtual 209, 3) := by decide +kernel
theorem dX11_readWeek_5 : decode cX11_readWeek 5 = .ok (.istore_n 2, 1) := by decide +kernel
theorem dX11_readWeek_6 : decode cX11_readWeek 6 = .ok (.iload_n 2, 1) := by decide +kernel
theorem dX11_readWeek_7 : decode cX11_readWeek 7 = .ok (.ifCond .ne 23, 3) := by decide +kernel
theorem dX11_readWeek_30 : decode cX11_readWeek 30 = .ok (.iload_n 2, 1) := by decide +kernel
theorem dX11_readWeek_31 : decode cX11_readWeek 31 = .ok (.ireturn, 1) := by decide +kernel
set_option maxRecDepth 20000 in
theorem ggX11_refusalAt_X11_isShelf : GoodIn wsX11_refusalAt wsX11_isShelf := goodIn_r _ [6] (by decide +kernel) (by decide +kernel)
set_option maxRecDepth 20000 in
theorem gX11_refusalAt_X11_isShelf : GoodIn wsX11_refusalAt (va_wsS RX11 97 yX11_isShelf wsX11_isShelf) := goodIn_app (goodIn_of _ (by decide +kernel)) ggX11_refusalAt_X11_isShelf
theorem dX11_refusalAt_0 : decode cX11_refusalAt 0 = .ok (.iload_n 1, 1) := by decide +kernel
theorem dX11_refusalAt_1 : decode cX11_refusalAt 1 = .ok (.invokestatic 97, 3) := by decide +kernel
theorem dX11_refusalAt_4 : decode cX11_refusalAt 4 = .ok (.ifCond .ne 5, 3) := by decide +kernel
theorem dX11_refusalAt_7 : decode cX11_refusalAt 7 = .ok (.iconst (-1), 1) := by decide +kernel
theorem dX11_refusalAt_8 : decode cX11_refusalAt 8 = .ok (.ireturn, 1) := by decide +kernel
theorem dX11_refusalAt_9 : decode cX11_refusalAt 9 = .ok (.aload_n 0, 1) := by decide +kernel
theorem dX11_refusalAt_10 : decode cX11_refusalAt 10 = .ok (.getfield 80, 3) := by decide +kernel
theorem dX11_refusalAt_13 : decode cX11_refusalAt 13 = .ok (.iload_n 1, 1) := by decide +kernel
theorem dX11_refusalAt_14 : decode cX11_refusalAt 14 = .ok (.aaload, 1) := by decide +kernel
theorem dX11_refusalAt_15 : decode cX11_refusalAt 15 = .ok (.astore_n 3, 1) := by decide +kernel
theorem dX11_refusalAt_16 : decode cX11_refusalAt 16 = .ok (.aload_n 3, 1) := by decide +kernel
theorem dX11_refusalAt_17 : decode cX11_refusalAt 17 = .ok (.getfield 100, 3) := by decide +kernel
theorem dX11_refusalAt_20 : decode cX11_refusalAt 20 = .ok (.iconst (-1), 1) := by decide +kernel
theorem dX11_refusalAt_21 : decode cX11_refusalAt 21 = .ok (.if_icmp .ne 6, 3) := by decide +kernel
theorem dX11_refusalAt_24 : decode cX11_refusalAt 24 = .ok (.bipush (-11), 2) := by decide +kernel
theorem dX11_refusalAt_26 : decode cX11_refusalAt 26 = .ok (.ireturn, 1) := by decide +kernel
theorem dX12_within_0 : decode cX12_within 0 = .ok (.lload_n 0, 1) := by decide +kernel
theorem dX12_within_1 : decode cX12_within 1 = .ok (.lload_n 2, 1) := by decide +kernel
theorem dX12_within_2 : decode cX12_within 2 = .ok (.lcmp, 1) := by decide +kernel
theorem dX12_within_3 : decode cX12_within 3 = .ok (.ifCond .lt 14, 3) := by decide +kernel
theorem dX12_within_6 : decode cX12_within 6 = .ok (.lload_n 0, 1) := by decide +kernel
theorem dX12_within_7 : decode cX12_within 7 = .ok (.lload 4, 2) := by decide +kernel
theorem dX12_within_9 : decode cX12_within 9 = .ok (.lcmp, 1) := by decide +kernel
theorem dX12_within_10 : decode cX12_within 10 = .ok (.ifCond .gt 7, 3) := by decide +kernel
theorem dX12_within_13 : decode cX12_within 13 = .ok (.iconst 1, 1) := by decide +kernel
theorem dX12_within_14 : decode cX12_within 14 = .ok (.goto 4, 3) := by decide +kernel
theorem dX12_within_17 : decode cX12_within 17 = .ok (.iconst 0, 1) := by decide +kernel
theorem dX12_within_18 : decode cX12_within 18 = .ok (.ireturn, 1) := by decide +kernel
theorem dX12_sizeOf_0 : decode cX12_sizeOf 0 = .ok (.iload_n 0, 1) := by decide +kernel
theorem dX12_sizeOf_1 : decode cX12_sizeOf 1 = .ok (.ifCond .ge 8, 3) := by decide +kernel
theorem dX12_sizeOf_4 : decode cX12_sizeOf 4 = .ok (.iload_n 0, 1) := by decide +kernel
theorem dX12_sizeOf_5 : decode cX12_sizeOf 5 = .ok (.ineg, 1) := by decide +kernel
theorem dX12_sizeOf_6 : decode cX12_sizeOf 6 = .ok (.goto 4, 3) := by decide +kernel
theorem dX12_sizeOf_9 : decode cX12_sizeOf 9 = .ok (.iload_n 0, 1) := by decide +kernel
theorem dX12_sizeOf_10 : decode cX12_sizeOf 10 = .ok (.ireturn, 1) := by decide +kernel
theorem dX12_init_0 : decode cX12_init 0 = .ok (.aload_n 0, 1) := by decide +kernel
theorem dX12_init_1 : decode cX12_init 1 = .ok (.invokespecial 3, 3) := by decide +kernel
theorem dX12_init_4 : decode cX12_init 4 = .ok (.aload_n 0, 1) := by decide +kernel
theorem dX12_init_5 : decode cX12_init 5 = .ok (.bipush 71, 2) := by decide +kernel
theorem dX12_init_7 : decode cX12_init 7 = .ok (.newarray .int, 2) := by decide +kernel
theorem dX12_init_9 : decode cX12_init 9 = .ok (.putfield 9, 3) := by decide +kernel
theorem dX12_init_12 : decode cX12_init 12 = .ok (.aload_n 0, 1) := by decide +kernel
theorem dX12_init_13 : decode cX12_init 13 = .ok (.bipush 40, 2) := by decide +kernel
theorem dX12_init_15 : decode cX12_init 15 = .ok (.newarray .int, 2) := by decide +kernel
theorem dX12_init_17 : decode cX12_init 17 = .ok (.putfield 13, 3) := by decide +kernel
theorem dX12_init_20 : decode cX12_init 20 = .ok (.aload_n 0, 1) := by decide +kernel
theorem dX12_init_21 : decode cX12_init 21 = .ok (.bipush 40, 2) := by decide +kernel
theorem dX12_init_23 : decode cX12_init 23 = .ok (.newarray .int, 2) := by decide +kernel
theorem dX12_init_25 : decode cX12_init 25 = .ok (.putfield 16, 3) := by decide +kernel
theorem dX12_init_28 : decode cX12_init 28 = .ok (.aload_n 0, 1) := by decide +kernel
theorem dX12_init_29 : decode cX12_init 29 = .ok (.bipush 40, 2) := by decide +kernel
theorem dX12_init_31 : decode cX12_init 31 = .ok (.newarray .int, 2) := by decide +kernel
theorem dX12_init_33 : decode cX12_init 33 = .ok (.putfield 19, 3) := by decide +kernel
theorem dX12_init_36 : decode cX12_init 36 = .ok (.aload_n 0, 1) := by decide +kernel
theorem dX12_init_37 : decode cX12_init 37 = .ok (.iconst 3, 1) := by decide +kernel
theorem dX12_init_38 : decode cX12_init 38 = .ok (.newarray .int, 2) := by decide +kernel
theorem dX12_init_40 : decode cX12_init 40 = .ok (.putfield 22, 3) := by decide +kernel
theorem dX12_init_43 : decode cX12_init 43 = .ok (.aload_n 0, 1) := by decide +kernel
theorem dX12_init_44 : decode cX12_init 44 = .ok (.bipush 120, 2) := by decide +kernel
theorem dX12_init_46 : decode cX12_init 46 = .ok (.newarray .int, 2) := by decide +kernel
theorem dX12_init_48 : decode cX12_init 48 = .ok (.putfield 25, 3) := by decide +kernel
theorem dX12_init_51 : decode cX12_init 51 = .ok (.aload_n 0, 1) := by decide +kernel
theorem dX12_init_52 : decode cX12_init 52 = .ok (.bipush 120, 2) := by decide +kernel
theorem dX12_init_54 : decode cX12_init 54 = .ok (.newarray .int, 2) := by decide +kernel
theorem dX12_init_56 : decode cX12_init 56 = .ok (.putfield 28, 3) := by decide +kernel
theorem dX12_init_59 : decode cX12_init 59 = .ok (.aload_n 0, 1) := by decide +kernel
theorem dX12_init_60 : decode cX12_init 60 = .ok (.bipush 6, 2) := by decide +kernel
theorem dX12_init_62 : decode cX12_init 62 = .ok (.newarray .int, 2) := by decide +kernel
theorem dX12_init_64 : decode cX12_init 64 = .ok (.putfield 31, 3) := by decide +kernel
theorem dX12_init_67 : decode cX12_init 67 = .ok (.aload_n 0, 1) := by decide +kernel
theorem dX12_init_68 : decode cX12_init 68 = .ok (.sipush 1281, 3) := by decide +kernel
theorem dX12_init_71 : decode cX12_init 71 = .ok (.newarray .int, 2) := by decide +kernel
theorem dX12_init_73 : decode cX12_init 73 = .ok (.putfield 34, 3) := by decide +kernel
theorem dX12_init_76 : decode cX12_init 76 = .ok (.aload_n 0, 1) := by decide +kernel
theorem dX12_init_77 : decode cX12_init 77 = .ok (.sipush 1342, 3) := by decide +kernel
theorem dX12_init_80 : decode cX12_init 80 = .ok (.newarray .int, 2) := by decide +kernel
theorem dX12_init_82 : decode cX12_init 82 = .ok (.putfield 37, 3) := by decide +kernel
theorem dX12_init_85 : decode cX12_init 85 = .ok (.aload_n 0, 1) := by decide +kernel
theorem dX12_init_86 : decode cX12_init 86 = .ok (.bipush 21, 2) := by decide +kernel
theorem dX12_init_88 : decode cX12_init 88 = .ok (.newarray .boolean, 2) := by decide +kernel
theorem dX12_init_90 : decode cX12_init 90 = .ok (.putfield 40, 3) := by decide +kernel
theorem dX12_init_93 : decode cX12_init 93 = .ok (.aload_n 0, 1) := by decide +kernel
theorem dX12_init_94 : decode cX12_init 94 = .ok (.iconst 3, 1) := by decide +kernel
theorem dX12_init_95 : decode cX12_init 95 = .ok (.newarray .int, 2) := by decide +kernel
theorem dX12_init_97 : decode cX12_init 97 = .ok (.putfield 44, 3) := by decide +kernel
theorem dX12_init_100 : decode cX12_init 100 = .ok (.aload_n 0, 1) := by decide +kernel
theorem dX12_init_101 : decode cX12_init 101 = .ok (.bipush 66, 2) := by decide +kernel
theorem dX12_init_103 : decode cX12_init 103 = .ok (.newarray .int, 2) := by decide +kernel
theorem dX12_init_105 : decode cX12_init 105 = .ok (.putfield 47, 3) := by decide +kernel
theorem dX12_init_108 : decode cX12_init 108 = .ok (.aload_n 0, 1) := by decide +kernel
theorem dX12_init_109 : decode cX12_init 109 = .ok (.sipush 488, 3) := by decide +kernel
theorem dX12_init_112 : decode cX12_init 112 = .ok (.newarray .int, 2) := by decide +kernel
theorem dX12_init_114 : decode cX12_init 114 = .ok (.putfield 50, 3) := by decide +kernel
theorem dX12_init_117 : decode cX12_init 117 = .ok (.aload_n 0, 1) := by decide +kernel
theorem dX12_init_118 : decode cX12_init 118 = .ok (.bipush 8, 2) := by decide +kernel
theorem dX12_init_120 : decode cX12_init 120 = .ok (.newarray .int, 2) := by decide +kernel
theorem dX12_init_122 : decode cX12_init 122 = .ok (.putfield 53, 3) := by decide +kernel
theorem dX12_init_125 : decode cX12_init 125 = .ok (.aload_n 0, 1) := by decide +kernel
theorem dX12_init_126 : decode cX12_init 126 = .ok (.bipush 8, 2) := by decide +kernel
theorem dX12_init_128 : decode cX12_init 128 = .ok (.newarray .int, 2) := by decide +kernel
theorem dX12_init_130 : decode cX12_init 130 = .ok (.putfield 56, 3) := by decide +kernel
theorem dX12_init_133 : decode cX12_init 133 = .ok (.aload_n 0, 1) := by decide +kernel
theorem dX12_init_134 : decode cX12_init 134 = .ok (.sipush 793, 3) := by decide +kernel
theorem dX12_init_137 : decode cX12_init 137 = .ok (.newarray .boolean, 2) := by decide +kernel
theorem dX12_init_139 : decode cX12_init 139 = .ok (.putfield 59, 3) := by decide +kernel
theorem dX12_init_142 : decode cX12_init 142 = .ok (.aload_n 0, 1) := by decide +kernel
theorem dX12_init_143 : decode cX12_init 143 = .ok (.sipush 793, 3) := by decide +kernel
theorem dX12_init_146 : decode cX12_init 146 = .ok (.newarray .boolean, 2) := by decide +kernel
theorem dX12_init_148 : decode cX12_init 148 = .ok (.putfield 62, 3) := by decide +kernel
theorem dX12_init_151 : decode cX12_init 151 = .ok (.aload_n 0, 1) := by decide +kernel
theorem dX12_init_152 : decode cX12_init 152 = .ok (.bipush 8, 2) := by decide +kernel
theorem dX12_init_154 : decode cX12_init 154 = .ok (.newarray .int, 2) := by decide +kernel
theorem dX12_init_156 : decode cX12_init 156 = .ok (.putfield 65, 3) := by decide +kernel
theorem dX12_init_159 : decode cX12_init 159 = .ok (.aload_n 0, 1) := by decide +kernel
theorem dX12_init_160 : decode cX12_init 160 = .ok (.bipush 50, 2) := by decide +kernel
theorem dX12_init_162 : decode cX12_init 162 = .ok (.newarray .int, 2) := by decide +kernel
theorem dX12_init_164 : decode cX12_init 164 = .ok (.putfield 68, 3) := by decide +kernel
theorem dX12_init_167 : decode cX12_init 167 = .ok (.aload_n 0, 1) := by decide +kernel
theorem dX12_init_168 : decode cX12_init 168 = .ok (.bipush 24, 2) := by decide +kernel
theorem dX12_init_170 : decode cX12_init 170 = .ok (.newarray .int, 2) := by decide +kernel
theorem dX12_init_172 : decode cX12_init 172 = .ok (.putfield 71, 3) := by decide +kernel
theorem dX12_init_175 : decode cX12_init 175 = .ok (.aload_n 0, 1) := by decide +kernel
theorem dX12_init_176 : decode cX12_init 176 = .ok (.bipush 6, 2) := by decide +kernel
theorem dX12_init_178 : decode cX12_init 178 = .ok (.newarray .int, 2) := by decide +kernel
theorem dX12_init_180 : decode cX12_init 180 = .ok (.putfield 74, 3) := by decide +kernel
theorem dX12_init_183 : decode cX12_init 183 = .ok (.aload_n 0, 1) := by decide +kernel
theorem dX12_init_184 : decode cX12_init 184 = .ok (.bipush 6, 2) := by decide +kernel
theorem dX12_init_186 : decode cX12_init 186 = .ok (.newarray .int, 2) := by decide +kernel
theorem dX12_init_188 : decode cX12_init 188 = .ok (.putfield 77, 3) := by decide +kernel
theorem dX12_init_191 : decode cX12_init 191 = .ok (.aload_n 0, 1) := by decide +kernel
theorem dX12_init_192 : decode cX12_init 192 = .ok (.sipush 360, 3) := by decide +kernel
theorem dX12_init_195 : decode cX12_init 195 = .ok (.newarray .long, 2) := by decide +kernel
theorem dX12_init_197 : decode cX12_init 197 = .ok (.putfield 80, 3) := by decide +kernel
theorem dX12_init_200 : decode cX12_init 200 = .ok (.aload_n 0, 1) := by decide +kernel
theorem dX12_init_201 : decode cX12_init 201 = .ok (.bipush 60, 2) := by decide +kernel
theorem dX12_init_203 : decode cX12_init 203 = .ok (.newarray .long, 2) := by decide +kernel
theorem dX12_init_205 : decode cX12_init 205 = .ok (.putfield 84, 3) := by decide +kernel
theorem dX12_init_208 : decode cX12_init 208 = .ok (.iconst 0, 1) := by decide +kernel
theorem dX12_init_209 : decode cX12_init 209 = .ok (.istore_n 1, 1) := by decide +kernel
theorem dX12_init_210 : decode cX12_init 210 = .ok (.iload_n 1, 1) := by decide +kernel
theorem dX12_init_211 : decode cX12_init 211 = .ok (.bipush 6, 2) := by decide +kernel
theorem dX12_init_213 : decode cX12_init 213 = .ok (.if_icmp .ge 16, 3) := by decide +kernel
theorem dX12_init_216 : decode cX12_init 216 = .ok (.aload_n 0, 1) := by decide +kernel
theorem dX12_init_217 : decode cX12_init 217 = .ok (.getfield 74, 3) := by decide +kernel
theorem dX12_init_220 : decode cX12_init 220 = .ok (.iload_n 1, 1) := by decide +kernel
theorem dX12_init_221 : decode cX12_init 221 = .ok (.iconst (-1), 1) := by decide +kernel
theorem dX12_init_222 : decode cX12_init 222 = .ok (.iastore, 1) := by decide +kernel
theorem dX12_init_223 : decode cX12_init 223 = .ok (.iinc 1 1, 3) := by decide +kernel
theorem dX12_init_226 : decode cX12_init 226 = .ok (.goto (-16), 3) := by decide +kernel
theorem dX12_init_229 : decode cX12_init 229 = .ok (.aload_n 0, 1) := by decide +kernel
theorem dX12_init_230 : decode cX12_init 230 = .ok (.iconst (-1), 1) := by decide +kernel
theorem dX12_init_231 : decode cX12_init 231 = .ok (.putfield 87, 3) := by decide +kernel
theorem dX12_init_234 : decode cX12_init 234 = .ok (.iconst 0, 1) := by decide +kernel
theorem dX12_init_235 : decode cX12_init 235 = .ok (.istore_n 1, 1) := by decide +kernel
theorem dX12_init_236 : decode cX12_init 236 = .ok (.iload_n 1, 1) := by decide +kernel
theorem dX12_init_237 : decode cX12_init 237 = .ok (.iconst 3, 1) := by decide +kernel
theorem dX12_init_238 : decode cX12_init 238 = .ok (.if_icmp .ge 27, 3) := by decide +kernel
theorem dX12_init_241 : decode cX12_init 241 = .ok (.aload_n 0, 1) := by decide +kernel
theorem dX12_init_242 : decode cX12_init 242 = .ok (.getfield 9, 3) := by decide +kernel
theorem dX12_init_245 : decode cX12_init 245 = .ok (.bipush 67, 2) := by decide +kernel
theorem dX12_init_247 : decode cX12_init 247 = .ok (.iload_n 1, 1) := by decide +kernel
theorem dX12_init_248 : decode cX12_init 248 = .ok (.iadd, 1) := by decide +kernel
theorem dX12_init_249 : decode cX12_init 249 = .ok (.iconst 1, 1) := by decide +kernel
theorem dX12_init_250 : decode cX12_init 250 = .ok (.iastore, 1) := by decide +kernel
theorem dX12_init_251 : decode cX12_init 251 = .ok (.aload_n 0, 1) := by decide +kernel
theorem dX12_init_252 : decode cX12_init 252 = .ok (.getfield 22, 3) := by decide +kernel
theorem dX12_init_255 : decode cX12_init 255 = .ok (.iload_n 1, 1) := by decide +kernel
theorem dX12_init_256 : decode cX12_init 256 = .ok (.bipush 30, 2) := by decide +kernel
theorem dX12_init_258 : decode cX12_init 258 = .ok (.iastore, 1) := by decide +kernel
theorem dX12_init_259 : decode cX12_init 259 = .ok (.iinc 1 1, 3) := by decide +kernel
theorem dX12_init_262 : decode cX12_init 262 = .ok (.goto (-26), 3) := by decide +kernel
theorem dX12_init_265 : decode cX12_init 265 = .ok (.aload_n 0, 1) := by decide +kernel
theorem dX12_init_266 : decode cX12_init 266 = .ok (.getfield 9, 3) := by decide +kernel
theorem dX12_init_269 : decode cX12_init 269 = .ok (.bipush 70, 2) := by decide +kernel
theorem dX12_init_271 : decode cX12_init 271 = .ok (.iconst 3, 1) := by decide +kernel
theorem dX12_init_272 : decode cX12_init 272 = .ok (.iastore, 1) := by decide +kernel
theorem dX12_init_273 : decode cX12_init 273 = .ok (.aload_n 0, 1) := by decide +kernel
theorem dX12_init_274 : decode cX12_init 274 = .ok (.bipush (-2), 2) := by decide +kernel
theorem dX12_init_276 : decode cX12_init 276 = .ok (.putfield 91, 3) := by decide +kernel
theorem dX12_init_279 : decode cX12_init 279 = .ok (.aload_n 0, 1) := by decide +kernel
theorem dX12_init_280 : decode cX12_init 280 = .ok (.iconst (-1), 1) := by decide +kernel
theorem dX12_init_281 : decode cX12_init 281 = .ok (.putfield 94, 3) := by decide +kernel
theorem dX12_init_284 : decode cX12_init 284 = .ok (.aload_n 0, 1) := by decide +kernel
theorem dX12_init_285 : decode cX12_init 285 = .ok (.iconst (-1), 1) := by decide +kernel
theorem dX12_init_286 : decode cX12_init 286 = .ok (.putfield 97, 3) := by decide +kernel
theorem dX12_init_289 : decode cX12_init 289 = .ok (.return_, 1) := by decide +kernel
theorem dX12_becomes_0 : decode cX12_becomes 0 = .ok (.aload_n 0, 1) := by decide +kernel
theorem dX12_becomes_1 : decode cX12_becomes 1 = .ok (.getfield 9, 3) := by decide +kernel
theorem dX12_becomes_4 : decode cX12_becomes 4 = .ok (.iload_n 1, 1) := by decide +kernel
theorem dX12_becomes_5 : decode cX12_becomes 5 = .ok (.iaload, 1) := by decide +kernel
theorem dX12_becomes_6 : decode cX12_becomes 6 = .ok (.istore_n 3, 1) := by decide +kernel
theorem dX12_becomes_7 : decode cX12_becomes 7 = .ok (.iload_n 3, 1) := by decide +kernel
theorem dX12_becomes_8 : decode cX12_becomes 8 = .ok (.iload_n 2, 1) := by decide +kernel
theorem dX12_becomes_9 : decode cX12_becomes 9 = .ok (.if_icmp .ne 5, 3) := by decide +kernel
theorem dX12_becomes_12 : decode cX12_becomes 12 = .ok (.iload_n 3, 1) := by decide +kernel
theorem dX12_becomes_13 : decode cX12_becomes 13 = .ok (.ireturn, 1) := by decide +kernel
theorem dX12_becomes_14 : decode cX12_becomes 14 = .ok (.aload_n 0, 1) := by decide +kernel
theorem dX12_becomes_15 : decode cX12_becomes 15 = .ok (.getfield 100, 3) := by decide +kernel
theorem dX12_becomes_18 : decode cX12_becomes 18 = .ok (.bipush 40, 2) := by decide +kernel
theorem dX12_becomes_20 : decode cX12_becomes 20 = .ok (.if_icmp .ne 77, 3) := by decide +kernel
theorem dX12_becomes_97 : decode cX12_becomes 97 = .ok (.aload_n 0, 1) := by decide +kernel
theorem dX12_becomes_98 : decode cX12_becomes 98 = .ok (.getfield 13, 3) := by decide +kernel
theorem dX12_becomes_101 : decode cX12_becomes 101 = .ok (.aload_n 0, 1) := by decide +kernel
theorem dX12_becomes_102 : decode cX12_becomes 102 = .ok (.getfield 100, 3) := by decide +kernel
theorem dX12_becomes_105 : decode cX12_becomes 105 = .ok (.iload_n 1, 1) := by decide +kernel
theorem dX12_becomes_106 : decode cX12_becomes 106 = .ok (.iastore, 1) := by decide +kernel
theorem dX12_becomes_107 : decode cX12_becomes 107 = .ok (.aload_n 0, 1) := by decide +kernel
theorem dX12_becomes_108 : decode cX12_becomes 108 = .ok (.getfield 16, 3) := by decide +kernel
theorem dX12_becomes_111 : decode cX12_becomes 111 = .ok (.aload_n 0, 1) := by decide +kernel
theorem dX12_becomes_112 : decode cX12_becomes 112 = .ok (.getfield 100, 3) := by decide +kernel
theorem dX12_becomes_115 : decode cX12_becomes 115 = .ok (.iload_n 3, 1) := by decide +kernel
theorem dX12_becomes_116 : decode cX12_becomes 116 = .ok (.iastore, 1) := by decide +kernel
theorem dX12_becomes_117 : decode cX12_becomes 117 = .ok (.aload_n 0, 1) := by decide +kernel
theorem dX12_becomes_118 : decode cX12_becomes 118 = .ok (.getfield 19, 3) := by decide +kernel
theorem dX12_becomes_121 : decode cX12_becomes 121 = .ok (.aload_n 0, 1) := by decide +kernel
theorem dX12_becomes_122 : decode cX12_becomes 122 = .ok (.getfield 100, 3) := by decide +kernel
theorem dX12_becomes_125 : decode cX12_becomes 125 = .ok (.iload_n 2, 1) := by decide +kernel
theorem dX12_becomes_126 : decode cX12_becomes 126 = .ok (.iastore, 1) := by decide +kernel
theorem dX12_becomes_127 : decode cX12_becomes 127 = .ok (.aload_n 0, 1) := by decide +kernel
theorem dX12_becomes_128 : decode cX12_becomes 128 = .ok (.dup, 1) := by decide +kernel
theorem dX12_becomes_129 : decode cX12_becomes 129 = .ok (.getfield 100, 3) := by decide +kernel
theorem dX12_becomes_132 : decode cX12_becomes 132 = .ok (.iconst 1, 1) := by decide +kernel
theorem dX12_becomes_133 : decode cX12_becomes 133 = .ok (.iadd, 1) := by decide +kernel
theorem dX12_becomes_134 : decode cX12_becomes 134 = .ok (.putfield 100, 3) := by decide +kernel
theorem dX12_becomes_137 : decode cX12_becomes 137 = .ok (.aload_n 0, 1) := by decide +kernel
theorem dX12_becomes_138 : decode cX12_becomes 138 = .ok (.aload_n 0, 1) := by decide +kernel
theorem dX12_becomes_139 : decode cX12_becomes 139 = .ok (.getfield 100, 3) := by decide +kernel
theorem dX12_becomes_142 : decode cX12_becomes 142 = .ok (.putfield 103, 3) := by decide +kernel
theorem dX12_becomes_145 : decode cX12_becomes 145 = .ok (.aload_n 0, 1) := by decide +kernel
theorem dX12_becomes_146 : decode cX12_becomes 146 = .ok (.getfield 9, 3) := by decide +kernel
theorem dX12_becomes_149 : decode cX12_becomes 149 = .ok (.iload_n 1, 1) := by decide +kernel
theorem dX12_becomes_150 : decode cX12_becomes 150 = .ok (.iload_n 2, 1) := by decide +kernel
theorem dX12_becomes_151 : decode cX12_becomes 151 = .ok (.iastore, 1) := by decide +kernel
theorem dX12_becomes_152 : decode cX12_becomes 152 = .ok (.iload_n 3, 1) := by decide +kernel
theorem dX12_becomes_153 : decode cX12_becomes 153 = .ok (.ireturn, 1) := by decide +kernel
theorem dX12_undo_0 : decode cX12_undo 0 = .ok (.aload_n 0, 1) := by decide +kernel
theorem dX12_undo_1 : decode cX12_undo 1 = .ok (.getfield 100, 3) := by decide +kernel
theorem dX12_undo_4 : decode cX12_undo 4 = .ok (.ifCond .ne 6, 3) := by decide +kernel
theorem dX12_undo_7 : decode cX12_undo 7 = .ok (.bipush (-5), 2) := by decide +kernel
theorem dX12_undo_9 : decode cX12_undo 9 = .ok (.ireturn, 1) := by decide +kernel
theorem dX12_redo_0 : decode cX12_redo 0 = .ok (.aload_n 0, 1) := by decide +kernel
theorem dX12_redo_1 : decode cX12_redo 1 = .ok (.getfield 100, 3) := by decide +kernel
theorem dX12_redo_4 : decode cX12_redo 4 = .ok (.aload_n 0, 1) := by decide +kernel
theorem dX12_redo_5 : decode cX12_redo 5 = .ok (.getfield 103, 3) := by decide +kernel
theorem dX12_redo_8 : decode cX12_redo 8 = .ok (.if_icmp .ne 6, 3) := by decide +kernel
theorem dX12_redo_11 : decode cX12_redo 11 = .ok (.bipush (-5), 2) := by decide +kernel
theorem dX12_redo_13 : decode cX12_redo 13 = .ok (.ireturn, 1) := by decide +kernel
set_option maxRecDepth 20000 in
theorem ggX12_isSitter_X12_within : GoodIn wsX12_isSitter wsX12_within := goodIn_r _ [5] (by decide +kernel) (by decide +kernel)
set_option maxRecDepth 20000 in
theorem gX12_isSitter_X12_within : GoodIn wsX12_isSitter (va_wsS RX12 109 yX12_within wsX12_within) := goodIn_app (goodIn_of _ (by decide +kernel)) ggX12_isSitter_X12_within
theorem dX12_isSitter_0 : decode cX12_isSitter 0 = .ok (.lload_n 1, 1) := by decide +kernel
theorem dX12_isSitter_1 : decode cX12_isSitter 1 = .ok (.lconst 0, 1) := by decide +kernel
theorem dX12_isSitter_2 : decode cX12_isSitter 2 = .ok (.aload_n 0, 1) := by decide +kernel
theorem dX12_isSitter_3 : decode cX12_isSitter 3 = .ok (.getfield 106, 3) := by decide +kernel
theorem dX12_isSitter_6 : decode cX12_isSitter 6 = .ok (.iconst 1, 1) := by decide +kernel
theorem dX12_isSitter_7 : decode cX12_isSitter 7 = .ok (.isub, 1) := by decide +kernel
theorem dX12_isSitter_8 : decode cX12_isSitter 8 = .ok (.i2l, 1) := by decide +kernel
theorem dX12_isSitter_9 : decode cX12_isSitter 9 = .ok (.invokestatic 109, 3) := by decide +kernel
theorem dX12_isSitter_12 : decode cX12_isSitter 12 = .ok (.ireturn, 1) := by decide +kernel
set_option maxRecDepth 20000 in
theorem ggX12_isPart_X12_within : GoodIn wsX12_isPart wsX12_within := goodIn_r _ [5] (by decide +kernel) (by decide +kernel)
set_option maxRecDepth 20000 in
theorem gX12_isPart_X12_within : GoodIn wsX12_isPart (va_wsS RX12 109 yX12_within wsX12_within) := goodIn_app (goodIn_of _ (by decide +kernel)) ggX12_isPart_X12_within
theorem dX12_isPart_0 : decode cX12_isPart 0 = .ok (.iload_n 0, 1) := by decide +kernel
theorem dX12_isPart_1 : decode cX12_isPart 1 = .ok (.i2l, 1) := by decide +kernel
theorem dX12_isPart_2 : decode cX12_isPart 2 = .ok (.lconst 0, 1) := by decide +kernel
theorem dX12_isPart_3 : decode cX12_isPart 3 = .ok (.ldc2_w 113, 3) := by decide +kernel
theorem dX12_isPart_6 : decode cX12_isPart 6 = .ok (.invokestatic 109, 3) := by decide +kernel
theorem dX12_isPart_9 : decode cX12_isPart 9 = .ok (.ireturn, 1) := by decide +kernel
set_option maxRecDepth 20000 in
theorem ggX12_isSetting_X12_within : GoodIn wsX12_isSetting wsX12_within := goodIn_r _ [5] (by decide +kernel) (by decide +kernel)
set_option maxRecDepth 20000 in
theorem gX12_isSetting_X12_within : GoodIn wsX12_isSetting (va_wsS RX12 109 yX12_within wsX12_within) := goodIn_app (goodIn_of _ (by decide +kernel)) ggX12_isSetting_X12_within
theorem dX12_isSetting_0 : decode cX12_isSetting 0 = .ok (.lload_n 0, 1) := by decide +kernel
theorem dX12_isSetting_1 : decode cX12_isSetting 1 = .ok (.lconst 0, 1) := by decide +kernel
theorem dX12_isSetting_2 : decode cX12_isSetting 2 = .ok (.ldc2_w 115, 3) := by decide +kernel
theorem dX12_isSetting_5 : decode cX12_isSetting 5 = .ok (.invokestatic 109, 3) := by decide +kernel
theorem dX12_isSetting_8 : decode cX12_isSetting 8 = .ok (.ireturn, 1) := by decide +kernel
theorem dX12_adds_0 : decode cX12_adds 0 = .ok (.aload_n 0, 1) := by decide +kernel
theorem dX12_adds_1 : decode cX12_adds 1 = .ok (.getfield 106, 3) := by decide +kernel
theorem dX12_adds_4 : decode cX12_adds 4 = .ok (.istore 5, 2) := by decide +kernel
theorem dX12_adds_6 : decode cX12_adds 6 = .ok (.aload_n 0, 1) := by decide +kernel
theorem dX12_adds_7 : decode cX12_adds 7 = .ok (.getfield 9, 3) := by decide +kernel
theorem dX12_adds_10 : decode cX12_adds 10 = .ok (.iload 5, 2) := by decide +kernel
theorem dX12_adds_12 : decode cX12_adds 12 = .ok (.iload_n 1, 1) := by decide +kernel
theorem dX12_adds_13 : decode cX12_adds 13 = .ok (.iastore, 1) := by decide +kernel
theorem dX12_adds_14 : decode cX12_adds 14 = .ok (.aload_n 0, 1) := by decide +kernel
theorem dX12_adds_15 : decode cX12_adds 15 = .ok (.getfield 9, 3) := by decide +kernel
theorem dX12_adds_18 : decode cX12_adds 18 = .ok (.bipush 8, 2) := by decide +kernel
theorem dX12_adds_20 : decode cX12_adds 20 = .ok (.iload 5, 2) := by decide +kernel
theorem dX12_adds_22 : decode cX12_adds 22 = .ok (.iadd, 1) := by decide +kernel
theorem dX12_adds_23 : decode cX12_adds 23 = .ok (.iload_n 2, 1) := by decide +kernel
theorem dX12_adds_24 : decode cX12_adds 24 = .ok (.iastore, 1) := by decide +kernel
theorem dX12_adds_25 : decode cX12_adds 25 = .ok (.aload_n 0, 1) := by decide +kernel
theorem dX12_adds_26 : decode cX12_adds 26 = .ok (.getfield 9, 3) := by decide +kernel
theorem dX12_adds_29 : decode cX12_adds 29 = .ok (.bipush 16, 2) := by decide +kernel
theorem dX12_adds_31 : decode cX12_adds 31 = .ok (.iload 5, 2) := by decide +kernel
theorem dX12_adds_33 : decode cX12_adds 33 = .ok (.iadd, 1) := by decide +kernel
theorem dX12_adds_34 : decode cX12_adds 34 = .ok (.iload_n 3, 1) := by decide +kernel
theorem dX12_adds_35 : decode cX12_adds 35 = .ok (.iastore, 1) := by decide +kernel
theorem dX12_adds_36 : decode cX12_adds 36 = .ok (.aload_n 0, 1) := by decide +kernel
theorem dX12_adds_37 : decode cX12_adds 37 = .ok (.getfield 9, 3) := by decide +kernel
theorem dX12_adds_40 : decode cX12_adds 40 = .ok (.bipush 24, 2) := by decide +kernel
theorem dX12_adds_42 : decode cX12_adds 42 = .ok (.iload 5, 2) := by decide +kernel
theorem dX12_adds_44 : decode cX12_adds 44 = .ok (.iadd, 1) := by decide +kernel
theorem dX12_adds_45 : decode cX12_adds 45 = .ok (.iconst 1, 1) := by decide +kernel
theorem dX12_adds_46 : decode cX12_adds 46 = .ok (.iastore, 1) := by decide +kernel
theorem dX12_adds_47 : decode cX12_adds 47 = .ok (.aload_n 0, 1) := by decide +kernel
theorem dX12_adds_48 : decode cX12_adds 48 = .ok (.getfield 9, 3) := by decide +kernel
theorem dX12_adds_51 : decode cX12_adds 51 = .ok (.bipush 32, 2) := by decide +kernel
theorem dX12_adds_53 : decode cX12_adds 53 = .ok (.iload 5, 2) := by decide +kernel
theorem dX12_adds_55 : decode cX12_adds 55 = .ok (.iadd, 1) := by decide +kernel
theorem dX12_adds_56 : decode cX12_adds 56 = .ok (.iconst 1, 1) := by decide +kernel
theorem dX12_adds_57 : decode cX12_adds 57 = .ok (.iastore, 1) := by decide +kernel
theorem dX12_adds_58 : decode cX12_adds 58 = .ok (.aload_n 0, 1) := by decide +kernel
theorem dX12_adds_59 : decode cX12_adds 59 = .ok (.getfield 9, 3) := by decide +kernel
theorem dX12_adds_62 : decode cX12_adds 62 = .ok (.bipush 40, 2) := by decide +kernel
theorem dX12_adds_64 : decode cX12_adds 64 = .ok (.iload 5, 2) := by decide +kernel
theorem dX12_adds_66 : decode cX12_adds 66 = .ok (.iadd, 1) := by decide +kernel
theorem dX12_adds_67 : decode cX12_adds 67 = .ok (.iload 4, 2) := by decide +kernel
theorem dX12_adds_69 : decode cX12_adds 69 = .ok (.iastore, 1) := by decide +kernel
theorem dX12_adds_70 : decode cX12_adds 70 = .ok (.aload_n 0, 1) := by decide +kernel
theorem dX12_adds_71 : decode cX12_adds 71 = .ok (.getfield 9, 3) := by decide +kernel
theorem dX12_adds_74 : decode cX12_adds 74 = .ok (.bipush 48, 2) := by decide +kernel
theorem dX12_adds_76 : decode cX12_adds 76 = .ok (.iload 5, 2) := by decide +kernel
theorem dX12_adds_78 : decode cX12_adds 78 = .ok (.iadd, 1) := by decide +kernel
theorem dX12_adds_79 : decode cX12_adds 79 = .ok (.iconst 0, 1) := by decide +kernel
theorem dX12_adds_80 : decode cX12_adds 80 = .ok (.iastore, 1) := by decide +kernel
theorem dX12_adds_81 : decode cX12_adds 81 = .ok (.aload_n 0, 1) := by decide +kernel
theorem dX12_adds_82 : decode cX12_adds 82 = .ok (.getfield 9, 3) := by decide +kernel
theorem dX12_adds_85 : decode cX12_adds 85 = .ok (.bipush 56, 2) := by decide +kernel
theorem dX12_adds_87 : decode cX12_adds 87 = .ok (.iload 5, 2) := by decide +kernel
theorem dX12_adds_89 : decode cX12_adds 89 = .ok (.iadd, 1) := by decide +kernel
theorem dX12_adds_90 : decode cX12_adds 90 = .ok (.iconst 0, 1) := by decide +kernel
theorem dX12_adds_91 : decode cX12_adds 91 = .ok (.iastore, 1) := by decide +kernel
theorem dX12_adds_92 : decode cX12_adds 92 = .ok (.aload_n 0, 1) := by decide +kernel
theorem dX12_adds_93 : decode cX12_adds 93 = .ok (.dup, 1) := by decide +kernel
theorem dX12_adds_94 : decode cX12_adds 94 = .ok (.getfield 106, 3) := by decide +kernel
theorem dX12_adds_97 : decode cX12_adds 97 = .ok (.iconst 1, 1) := by decide +kernel
theorem dX12_adds_98 : decode cX12_adds 98 = .ok (.iadd, 1) := by decide +kernel
theorem dX12_adds_99 : decode cX12_adds 99 = .ok (.putfield 106, 3) := by decide +kernel
theorem dX12_adds_102 : decode cX12_adds 102 = .ok (.return_, 1) := by decide +kernel
set_option maxRecDepth 20000 in
theorem ggX12_sitter_X12_isSetting : GoodIn wsX12_sitter wsX12_isSetting := goodIn_r _ [6, 7, 8, 9, 5, 10] (by decide +kernel) (by decide +kernel)
set_option maxRecDepth 20000 in
theorem gX12_sitter_X12_isSetting : GoodIn wsX12_sitter (va_wsS RX12 117 yX12_isSetting wsX12_isSetting) := goodIn_app (goodIn_of _ (by decide +kernel)) ggX12_sitter_X12_isSetting
set_option maxRecDepth 20000 in
theorem ggX12_sitter_X12_within : GoodIn wsX12_sitter wsX12_within := goodIn_r _ [10] (by decide +kernel) (by decide +kernel)
set_option maxRecDepth 20000 in
theorem gX12_sitter_X12_within : GoodIn wsX12_sitter (va_wsS RX12 109 yX12_within wsX12_within) := goodIn_app (goodIn_of _ (by decide +kernel)) ggX12_sitter_X12_within
set_option maxRecDepth 20000 in
theorem ggX12_sitter_X12_adds : GoodIn wsX12_sitter wsX12_adds := goodIn_r _ [14, 2, 15, 16, 17, 18, 19, 20, 21, 22, 23, 24, 25, 26, 27, 28, 29, 30, 31, 32, 33, 34, 35, 36, 37, 38, 39, 40, 41, 42, 43, 44, 45, 46, 47, 48, 49, 50, 51, 52, 53, 54, 55, 56, 57, 58, 59, 60, 61, 62, 63, 64, 65, 66, 67, 68, 69, 70] (by decide +kernel) (by decide +kernel)
set_option maxRecDepth 20000 in
theorem gX12_sitter_X12_adds : GoodIn wsX12_sitter (wsV RX12 123 RX12 yX12_adds wsX12_adds) := goodIn_app (goodIn_of _ (by decide +kernel)) ggX12_sitter_X12_adds
theorem dX12_sitter_0 : decode cX12_sitter 0 = .ok (.iload_n 1, 1) := by decide +kernel
theorem dX12_sitter_1 : decode cX12_sitter 1 = .ok (.i2l, 1) := by decide +kernel
theorem dX12_sitter_2 : decode cX12_sitter 2 = .ok (.invokestatic 117, 3) := by decide +kernel
theorem dX12_sitter_5 : decode cX12_sitter 5 = .ok (.ifCond .eq 15, 3) := by decide +kernel
theorem dX12_sitter_8 : decode cX12_sitter 8 = .ok (.iload_n 2, 1) := by decide +kernel
theorem dX12_sitter_9 : decode cX12_sitter 9 = .ok (.i2l, 1) := by decide +kernel
theorem dX12_sitter_10 : decode cX12_sitter 10 = .ok (.lconst 1, 1) := by decide +kernel
theorem dX12_sitter_11 : decode cX12_sitter 11 = .ok (.ldc2_w 121, 3) := by decide +kernel
theorem dX12_sitter_14 : decode cX12_sitter 14 = .ok (.invokestatic 109, 3) := by decide +kernel
theorem dX12_sitter_17 : decode cX12_sitter 17 = .ok (.ifCond .ne 5, 3) := by decide +kernel
theorem dX12_sitter_20 : decode cX12_sitter 20 = .ok (.iconst (-1), 1) := by decide +kernel
theorem dX12_sitter_21 : decode cX12_sitter 21 = .ok (.ireturn, 1) := by decide +kernel
theorem dX12_sitter_22 : decode cX12_sitter 22 = .ok (.aload_n 0, 1) := by decide +kernel
theorem dX12_sitter_23 : decode cX12_sitter 23 = .ok (.getfield 106, 3) := by decide +kernel
theorem dX12_sitter_26 : decode cX12_sitter 26 = .ok (.bipush 8, 2) := by decide +kernel
theorem dX12_sitter_28 : decode cX12_sitter 28 = .ok (.if_icmp .ne 6, 3) := by decide +kernel
theorem dX12_sitter_34 : decode cX12_sitter 34 = .ok (.aload_n 0, 1) := by decide +kernel
theorem dX12_sitter_35 : decode cX12_sitter 35 = .ok (.iload_n 1, 1) := by decide +kernel
theorem dX12_sitter_36 : decode cX12_sitter 36 = .ok (.iload_n 1, 1) := by decide +kernel
theorem dX12_sitter_37 : decode cX12_sitter 37 = .ok (.iload_n 1, 1) := by decide +kernel
theorem dX12_sitter_38 : decode cX12_sitter 38 = .ok (.iload_n 2, 1) := by decide +kernel
theorem dX12_sitter_39 : decode cX12_sitter 39 = .ok (.invokevirtual 123, 3) := by decide +kernel
theorem dX12_sitter_42 : decode cX12_sitter 42 = .ok (.aload_n 0, 1) := by decide +kernel
theorem dX12_sitter_43 : decode cX12_sitter 43 = .ok (.getfield 106, 3) := by decide +kernel
theorem dX12_sitter_46 : decode cX12_sitter 46 = .ok (.iconst 1, 1) := by decide +kernel
theorem dX12_sitter_47 : decode cX12_sitter 47 = .ok (.isub, 1) := by decide +kernel
theorem dX12_sitter_48 : decode cX12_sitter 48 = .ok (.ireturn, 1) := by decide +kernel
set_option maxRecDepth 20000 in
theorem ggX12_sitters_X12_isShelf : GoodIn wsX12_sitters wsX12_isShelf := goodIn_r _ [10, 11, 12, 13, 9, 14] (by decide +kernel) (by decide +kernel)
set_option maxRecDepth 20000 in
theorem gX12_sitters_X12_isShelf : GoodIn wsX12_sitters (va_wsS RX12 127 yX12_isShelf wsX12_isShelf) := goodIn_app (goodIn_of _ (by decide +kernel)) ggX12_sitters_X12_isShelf
set_option maxRecDepth 20000 in
theorem ggX12_sitters_X12_within : GoodIn wsX12_sitters wsX12_within := goodIn_r _ [14] (by decide +kernel) (by decide +kernel)
set_option maxRecDepth 20000 in
theorem gX12_sitters_X12_within : GoodIn wsX12_sitters (va_wsS RX12 109 yX12_within wsX12_within) := goodIn_app (goodIn_of _ (by decide +kernel)) ggX12_sitters_X12_within
theorem dX12_sitters_0 : decode cX12_sitters 0 = .ok (.iload_n 1, 1) := by decide +kernel
theorem dX12_sitters_1 : decode cX12_sitters 1 = .ok (.invokestatic 127, 3) := by decide +kernel
theorem dX12_sitters_4 : decode cX12_sitters 4 = .ok (.ifCond .eq 15, 3) := by decide +kernel
theorem dX12_sitters_7 : decode cX12_sitters 7 = .ok (.iload_n 3, 1) := by decide +kernel
theorem dX12_sitters_8 : decode cX12_sitters 8 = .ok (.i2l, 1) := by decide +kernel
theorem dX12_sitters_9 : decode cX12_sitters 9 = .ok (.lconst 1, 1) := by decide +kernel
theorem dX12_sitters_10 : decode cX12_sitters 10 = .ok (.ldc2_w 131, 3) := by decide +kernel
theorem dX12_sitters_13 : decode cX12_sitters 13 = .ok (.invokestatic 109, 3) := by decide +kernel
theorem dX12_sitters_16 : decode cX12_sitters 16 = .ok (.ifCond .ne 5, 3) := by decide +kernel
theorem dX12_sitters_19 : decode cX12_sitters 19 = .ok (.iconst (-1), 1) := by decide +kernel
theorem dX12_sitters_20 : decode cX12_sitters 20 = .ok (.ireturn, 1) := by decide +kernel
theorem dX12_sitters_21 : decode cX12_sitters 21 = .ok (.aload_n 0, 1) := by decide +kernel
theorem dX12_sitters_22 : decode cX12_sitters 22 = .ok (.getfield 74, 3) := by decide +kernel
theorem dX12_sitters_25 : decode cX12_sitters 25 = .ok (.iload_n 1, 1) := by decide +kernel
theorem dX12_sitters_26 : decode cX12_sitters 26 = .ok (.iaload, 1) := by decide +kernel
theorem dX12_sitters_27 : decode cX12_sitters 27 = .ok (.ifCond .lt 17, 3) := by decide +kernel
theorem dX12_sitters_44 : decode cX12_sitters 44 = .ok (.iconst 0, 1) := by decide +kernel
theorem dX12_sitters_45 : decode cX12_sitters 45 = .ok (.istore 4, 2) := by decide +kernel
theorem dX12_sitters_47 : decode cX12_sitters 47 = .ok (.aload_n 0, 1) := by decide +kernel
theorem dX12_sitters_48 : decode cX12_sitters 48 = .ok (.getfield 74, 3) := by decide +kernel
theorem dX12_sitters_51 : decode cX12_sitters 51 = .ok (.iload_n 1, 1) := by decide +kernel
theorem dX12_sitters_52 : decode cX12_sitters 52 = .ok (.iaload, 1) := by decide +kernel
theorem dX12_sitters_53 : decode cX12_sitters 53 = .ok (.bipush 50, 2) := by decide +kernel
theorem dX12_sitters_55 : decode cX12_sitters 55 = .ok (.if_icmp .ne 11, 3) := by decide +kernel
theorem dX12_sitters_66 : decode cX12_sitters 66 = .ok (.iconst 0, 1) := by decide +kernel
theorem dX12_sitters_67 : decode cX12_sitters 67 = .ok (.istore 5, 2) := by decide +kernel
theorem dX12_sitters_69 : decode cX12_sitters 69 = .ok (.iload 5, 2) := by decide +kernel
theorem dX12_sitters_71 : decode cX12_sitters 71 = .ok (.ifCond .eq 182, 3) := by decide +kernel
theorem dX12_sitters_253 : decode cX12_sitters 253 = .ok (.iload 4, 2) := by decide +kernel
theorem dX12_sitters_255 : decode cX12_sitters 255 = .ok (.ireturn, 1) := by decide +kernel
set_option maxRecDepth 20000 in
theorem ggX12_placeOf_X12_within : GoodIn wsX12_placeOf wsX12_within := goodIn_r _ [7] (by decide +kernel) (by decide +kernel)
set_option maxRecDepth 20000 in
theorem gX12_placeOf_X12_within : GoodIn wsX12_placeOf (va_wsS RX12 109 yX12_within wsX12_within) := goodIn_app (goodIn_of _ (by decide +kernel)) ggX12_placeOf_X12_within
set_option maxRecDepth 20000 in
theorem ggX12_placeOf_X12_isSitter : GoodIn wsX12_placeOf wsX12_isSitter := goodIn_r _ [11, 12, 4, 5, 6, 7, 17, 18, 19, 20, 21, 22, 23, 24, 25, 26, 27, 28, 29, 30, 31, 32, 33, 34, 35, 36, 37, 38, 39, 40, 41, 42, 43, 44, 45, 46, 47, 48, 49, 50, 51, 52, 53, 54, 55, 56, 57, 58, 59, 60, 61, 62, 63, 64, 65, 66, 67, 68, 69, 70, 71] (by decide +kernel) (by decide +kernel)
set_option maxRecDepth 20000 in
theorem gX12_placeOf_X12_isSitter : GoodIn wsX12_placeOf (wsV RX12 135 RX12 yX12_isSitter wsX12_isSitter) := goodIn_app (goodIn_of _ (by decide +kernel)) ggX12_placeOf_X12_isSitter
set_option maxRecDepth 20000 in
theorem ggX12_placeOf_X12_isPart : GoodIn wsX12_placeOf wsX12_isPart := goodIn_r _ [15, 16, 4, 5, 6, 7] (by decide +kernel) (by decide +kernel)
set_option maxRecDepth 20000 in
theorem gX12_placeOf_X12_isPart : GoodIn wsX12_placeOf (va_wsS RX12 140 yX12_isPart wsX12_isPart) := goodIn_app (goodIn_of _ (by decide +kernel)) ggX12_placeOf_X12_isPart
theorem dX12_placeOf_0 : decode cX12_placeOf 0 = .ok (.iload_n 2, 1) := by decide +kernel
theorem dX12_placeOf_1 : decode cX12_placeOf 1 = .ok (.i2l, 1) := by decide +kernel
theorem dX12_placeOf_2 : decode cX12_placeOf 2 = .ok (.lconst 0, 1) := by decide +kernel
theorem dX12_placeOf_3 : decode cX12_placeOf 3 = .ok (.ldc2_w 133, 3) := by decide +kernel
theorem dX12_placeOf_6 : decode cX12_placeOf 6 = .ok (.invokestatic 109, 3) := by decide +kernel
theorem dX12_placeOf_9 : decode cX12_placeOf 9 = .ok (.ifCond .eq 23, 3) := by decide +kernel
theorem dX12_placeOf_12 : decode cX12_placeOf 12 = .ok (.aload_n 0, 1) := by decide +kernel
theorem dX12_placeOf_13 : decode cX12_placeOf 13 = .ok (.iload_n 1, 1) := by decide +kernel
theorem dX12_placeOf_14 : decode cX12_placeOf 14 = .ok (.i2l, 1) := by decide +kernel
theorem dX12_placeOf_15 : decode cX12_placeOf 15 = .ok (.invokevirtual 135, 3) := by decide +kernel
theorem dX12_placeOf_18 : decode cX12_placeOf 18 = .ok (.ifCond .eq 12, 3) := by decide +kernel
theorem dX12_placeOf_30 : decode cX12_placeOf 30 = .ok (.iconst (-1), 1) := by decide +kernel
theorem dX12_placeOf_31 : decode cX12_placeOf 31 = .ok (.ireturn, 1) := by decide +kernel
theorem dX12_placeOf_32 : decode cX12_placeOf 32 = .ok (.iload_n 2, 1) := by decide +kernel
theorem dX12_placeOf_33 : decode cX12_placeOf 33 = .ok (.i2l, 1) := by decide +kernel
theorem dX12_placeOf_34 : decode cX12_placeOf 34 = .ok (.ldc2_w 131, 3) := by decide +kernel
theorem dX12_placeOf_37 : decode cX12_placeOf 37 = .ok (.ldc2_w 138, 3) := by decide +kernel
theorem dX12_placeOf_40 : decode cX12_placeOf 40 = .ok (.invokestatic 109, 3) := by decide +kernel
theorem dX12_placeOf_43 : decode cX12_placeOf 43 = .ok (.ifCond .eq 26, 3) := by decide +kernel
theorem dX12_placeOf_46 : decode cX12_placeOf 46 = .ok (.iload_n 1, 1) := by decide +kernel
theorem dX12_placeOf_47 : decode cX12_placeOf 47 = .ok (.invokestatic 140, 3) := by decide +kernel
theorem dX12_placeOf_50 : decode cX12_placeOf 50 = .ok (.ifCond .eq 17, 3) := by decide +kernel
theorem dX12_placeOf_53 : decode cX12_placeOf 53 = .ok (.bipush 64, 2) := by decide +kernel
theorem dX12_placeOf_55 : decode cX12_placeOf 55 = .ok (.iconst 3, 1) := by decide +kernel
theorem dX12_placeOf_56 : decode cX12_placeOf 56 = .ok (.iload_n 2, 1) := by decide +kernel
theorem dX12_placeOf_57 : decode cX12_placeOf 57 = .ok (.bipush 8, 2) := by decide +kernel
theorem dX12_placeOf_59 : decode cX12_placeOf 59 = .ok (.isub, 1) := by decide +kernel
theorem dX12_placeOf_60 : decode cX12_placeOf 60 = .ok (.imul, 1) := by decide +kernel
theorem dX12_placeOf_61 : decode cX12_placeOf 61 = .ok (.iadd, 1) := by decide +kernel
theorem dX12_placeOf_62 : decode cX12_placeOf 62 = .ok (.iload_n 1, 1) := by decide +kernel
theorem dX12_placeOf_63 : decode cX12_placeOf 63 = .ok (.iadd, 1) := by decide +kernel
theorem dX12_placeOf_64 : decode cX12_placeOf 64 = .ok (.goto 4, 3) := by decide +kernel
theorem dX12_placeOf_67 : decode cX12_placeOf 67 = .ok (.iconst (-1), 1) := by decide +kernel
theorem dX12_placeOf_68 : decode cX12_placeOf 68 = .ok (.ireturn, 1) := by decide +kernel
theorem dX12_placeOf_69 : decode cX12_placeOf 69 = .ok (.iload_n 2, 1) := by decide +kernel
theorem dX12_placeOf_70 : decode cX12_placeOf 70 = .ok (.bipush 10, 2) := by decide +kernel
theorem dX12_placeOf_72 : decode cX12_placeOf 72 = .ok (.if_icmp .ne 12, 3) := by decide +kernel
theorem dX12_placeOf_75 : decode cX12_placeOf 75 = .ok (.iload_n 1, 1) := by decide +kernel
theorem dX12_placeOf_76 : decode cX12_placeOf 76 = .ok (.ifCond .ne 8, 3) := by decide +kernel
theorem dX12_placeOf_79 : decode cX12_placeOf 79 = .ok (.bipush 70, 2) := by decide +kernel
theorem dX12_placeOf_81 : decode cX12_placeOf 81 = .ok (.goto 4, 3) := by decide +kernel
theorem dX12_placeOf_84 : decode cX12_placeOf 84 = .ok (.iconst (-1), 1) := by decide +kernel
theorem dX12_placeOf_85 : decode cX12_placeOf 85 = .ok (.ireturn, 1) := by decide +kernel
theorem dX12_mostOf_0 : decode cX12_mostOf 0 = .ok (.iload_n 0, 1) := by decide +kernel
theorem dX12_mostOf_1 : decode cX12_mostOf 1 = .ok (.tableswitch 58 3 10 #[47, 47, 50, 58, 50, 53, 47, 55], 47) := by decide +kernel
theorem dX12_mostOf_48 : decode cX12_mostOf 48 = .ok (.bipush 9, 2) := by decide +kernel
theorem dX12_mostOf_50 : decode cX12_mostOf 50 = .ok (.ireturn, 1) := by decide +kernel
theorem dX12_mostOf_54 : decode cX12_mostOf 54 = .ok (.iconst 3, 1) := by decide +kernel
theorem dX12_mostOf_55 : decode cX12_mostOf 55 = .ok (.ireturn, 1) := by decide +kernel
theorem dX12_mostOf_56 : decode cX12_mostOf 56 = .ok (.bipush 99, 2) := by decide +kernel
theorem dX12_mostOf_58 : decode cX12_mostOf 58 = .ok (.ireturn, 1) := by decide +kernel
set_option maxRecDepth 20000 in
theorem ggX12_mend_X12_placeOf : GoodIn wsX12_mend wsX12_placeOf := goodIn_r _ [5, 6, 7, 8, 9, 10, 4, 11, 12, 13, 14, 15, 16, 17, 18, 19, 20, 34, 35, 36, 37, 38, 39, 40, 41, 42, 43, 44, 45, 46, 47, 48, 49, 50, 51, 52, 53, 54, 55, 56, 57, 58, 59, 60, 61, 62, 63, 64, 65, 66, 67, 68, 69, 70, 71, 72, 73, 74, 75, 76, 77, 78, 79, 80, 81, 82, 83, 84, 85, 86, 87, 88] (by decide +kernel) (by decide +kernel)
set_option maxRecDepth 20000 in
theorem gX12_mend_X12_placeOf : GoodIn wsX12_mend (wsV RX12 143 RX12 yX12_placeOf wsX12_placeOf) := goodIn_app (goodIn_of _ (by decide +kernel)) ggX12_mend_X12_placeOf
set_option maxRecDepth 20000 in
theorem ggX12_mend_X12_mostOf : GoodIn wsX12_mend wsX12_mostOf := goodIn_r _ [23] (by decide +kernel) (by decide +kernel)
set_option maxRecDepth 20000 in
theorem gX12_mend_X12_mostOf : GoodIn wsX12_mend (va_wsS RX12 147 yX12_mostOf wsX12_mostOf) := goodIn_app (goodIn_of _ (by decide +kernel)) ggX12_mend_X12_mostOf
set_option maxRecDepth 20000 in
theorem ggX12_mend_X12_within : GoodIn wsX12_mend wsX12_within := goodIn_r _ [11] (by decide +kernel) (by decide +kernel)
set_option maxRecDepth 20000 in
theorem gX12_mend_X12_within : GoodIn wsX12_mend (va_wsS RX12 109 yX12_within wsX12_within) := goodIn_app (goodIn_of _ (by decide +kernel)) ggX12_mend_X12_within
set_option maxRecDepth 20000 in
theorem ggX12_mend_X12_becomes : GoodIn wsX12_mend wsX12_becomes := goodIn_r _ [27, 28, 29, 30, 31, 32, 33, 34, 35, 36, 37, 38, 39, 40, 41, 42, 43, 44, 45, 46, 47, 48, 49, 50, 51, 52, 53, 54, 55, 56, 57, 58, 59, 60, 61, 62, 63, 64, 65, 66, 67, 68, 69, 70, 71, 72, 73, 74, 75, 76, 77, 78, 79, 80, 81, 82, 83, 84, 85, 86, 87, 88] (by decide +kernel) (by decide +kernel)
set_option maxRecDepth 20000 in
theorem gX12_mend_X12_becomes : GoodIn wsX12_mend (wsV RX12 151 RX12 yX12_becomes wsX12_becomes) := goodIn_app (goodIn_of _ (by decide +kernel)) ggX12_mend_X12_becomes
theorem dX12_mend_0 : decode cX12_mend 0 = .ok (.aload_n 0, 1) := by decide +kernel
theorem dX12_mend_1 : decode cX12_mend 1 = .ok (.iload_n 1, 1) := by decide +kernel
theorem dX12_mend_2 : decode cX12_mend 2 = .ok (.iload_n 2, 1) := by decide +kernel
theorem dX12_mend_3 : decode cX12_mend 3 = .ok (.invokevirtual 143, 3) := by decide +kernel
theorem dX12_mend_6 : decode cX12_mend 6 = .ok (.istore 4, 2) := by decide +kernel
theorem dX12_mend_8 : decode cX12_mend 8 = .ok (.iload 4, 2) := by decide +kernel
theorem dX12_mend_10 : decode cX12_mend 10 = .ok (.ifCond .lt 36, 3) := by decide +kernel
theorem dX12_mend_13 : decode cX12_mend 13 = .ok (.iload_n 3, 1) := by decide +kernel
theorem dX12_mend_14 : decode cX12_mend 14 = .ok (.i2l, 1) := by decide +kernel
theorem dX12_mend_15 : decode cX12_mend 15 = .ok (.iload_n 2, 1) := by decide +kernel
theorem dX12_mend_16 : decode cX12_mend 16 = .ok (.iconst 5, 1) := by decide +kernel
theorem dX12_mend_17 : decode cX12_mend 17 = .ok (.if_icmp .ne 7, 3) := by decide +kernel
theorem dX12_mend_24 : decode cX12_mend 24 = .ok (.lconst 0, 1) := by decide +kernel
theorem dX12_mend_25 : decode cX12_mend 25 = .ok (.iload_n 2, 1) := by decide +kernel
theorem dX12_mend_26 : decode cX12_mend 26 = .ok (.invokestatic 147, 3) := by decide +kernel
theorem dX12_mend_29 : decode cX12_mend 29 = .ok (.i2l, 1) := by decide +kernel
theorem dX12_mend_30 : decode cX12_mend 30 = .ok (.invokestatic 109, 3) := by decide +kernel
theorem dX12_mend_33 : decode cX12_mend 33 = .ok (.ifCond .eq 13, 3) := by decide +kernel
theorem dX12_mend_36 : decode cX12_mend 36 = .ok (.aload_n 0, 1) := by decide +kernel
theorem dX12_mend_37 : decode cX12_mend 37 = .ok (.iload 4, 2) := by decide +kernel
theorem dX12_mend_39 : decode cX12_mend 39 = .ok (.iload_n 3, 1) := by decide +kernel
theorem dX12_mend_40 : decode cX12_mend 40 = .ok (.invokevirtual 151, 3) := by decide +kernel
theorem dX12_mend_43 : decode cX12_mend 43 = .ok (.goto 4, 3) := by decide +kernel
theorem dX12_mend_46 : decode cX12_mend 46 = .ok (.iconst (-1), 1) := by decide +kernel
theorem dX12_mend_47 : decode cX12_mend 47 = .ok (.ireturn, 1) := by decide +kernel
set_option maxRecDepth 20000 in
theorem ggX12_of_X12_isPart : GoodIn wsX12_of wsX12_isPart := goodIn_r _ [6, 7, 8, 9, 5, 10] (by decide +kernel) (by decide +kernel)
set_option maxRecDepth 20000 in
theorem gX12_of_X12_isPart : GoodIn wsX12_of (va_wsS RX12 140 yX12_isPart wsX12_isPart) := goodIn_app (goodIn_of _ (by decide +kernel)) ggX12_of_X12_isPart
set_option maxRecDepth 20000 in
theorem ggX12_of_X12_placeOf : GoodIn wsX12_of wsX12_placeOf := goodIn_r _ [14, 15, 16, 17, 8, 9, 5, 10, 18, 19, 20, 21, 22, 3, 4, 6, 7, 23, 24, 25, 26, 27, 28, 29, 30, 31, 32, 33, 34, 35, 36, 37, 38, 39, 40, 41, 42, 43, 44, 45, 46, 47, 48, 49, 50, 51, 52, 53, 54, 55, 56, 57, 58, 59, 60, 61, 62, 63, 64, 65, 66, 67, 68, 69, 70, 71, 72, 73, 74, 75, 76, 77] (by decide +kernel) (by decide +kernel)
set_option maxRecDepth 20000 in
theorem gX12_of_X12_placeOf : GoodIn wsX12_of (wsV RX12 143 RX12 yX12_placeOf wsX12_placeOf) := goodIn_app (goodIn_of _ (by decide +kernel)) ggX12_of_X12_placeOf
theorem dX12_of_0 : decode cX12_of 0 = .ok (.iload_n 2, 1) := by decide +kernel
theorem dX12_of_1 : decode cX12_of 1 = .ok (.bipush 11, 2) := by decide +kernel
theorem dX12_of_3 : decode cX12_of 3 = .ok (.if_icmp .ne 21, 3) := by decide +kernel
theorem dX12_of_6 : decode cX12_of 6 = .ok (.iload_n 1, 1) := by decide +kernel
theorem dX12_of_7 : decode cX12_of 7 = .ok (.invokestatic 140, 3) := by decide +kernel
theorem dX12_of_10 : decode cX12_of 10 = .ok (.ifCond .eq 12, 3) := by decide +kernel
theorem dX12_of_13 : decode cX12_of 13 = .ok (.aload_n 0, 1) := by decide +kernel
theorem dX12_of_14 : decode cX12_of 14 = .ok (.getfield 22, 3) := by decide +kernel
theorem dX12_of_17 : decode cX12_of 17 = .ok (.iload_n 1, 1) := by decide +kernel
theorem dX12_of_18 : decode cX12_of 18 = .ok (.iaload, 1) := by decide +kernel
theorem dX12_of_19 : decode cX12_of 19 = .ok (.goto 4, 3) := by decide +kernel
theorem dX12_of_22 : decode cX12_of 22 = .ok (.iconst (-1), 1) := by decide +kernel
theorem dX12_of_23 : decode cX12_of 23 = .ok (.ireturn, 1) := by decide +kernel
theorem dX12_of_24 : decode cX12_of 24 = .ok (.aload_n 0, 1) := by decide +kernel
theorem dX12_of_25 : decode cX12_of 25 = .ok (.iload_n 1, 1) := by decide +kernel
theorem dX12_of_26 : decode cX12_of 26 = .ok (.iload_n 2, 1) := by decide +kernel
theorem dX12_of_27 : decode cX12_of 27 = .ok (.invokevirtual 143, 3) := by decide +kernel
theorem dX12_of_30 : decode cX12_of 30 = .ok (.istore_n 3, 1) := by decide +kernel
theorem dX12_of_31 : decode cX12_of 31 = .ok (.iload_n 3, 1) := by decide +kernel
theorem dX12_of_32 : decode cX12_of 32 = .ok (.ifCond .ge 7, 3) := by decide +kernel
theorem dX12_of_35 : decode cX12_of 35 = .ok (.iconst (-1), 1) := by decide +kernel
theorem dX12_of_36 : decode cX12_of 36 = .ok (.goto 9, 3) := by decide +kernel
theorem dX12_of_39 : decode cX12_of 39 = .ok (.aload_n 0, 1) := by decide +kernel
theorem dX12_of_40 : decode cX12_of 40 = .ok (.getfield 9, 3) := by decide +kernel
theorem dX12_of_43 : decode cX12_of 43 = .ok (.iload_n 3, 1) := by decide +kernel
theorem dX12_of_44 : decode cX12_of 44 = .ok (.iaload, 1) := by decide +kernel
theorem dX12_of_45 : decode cX12_of 45 = .ok (.ireturn, 1) := by decide +kernel
set_option maxRecDepth 20000 in
theorem ggX12_feed_X12_within : GoodIn wsX12_feed wsX12_within := goodIn_r _ [7] (by decide +kernel) (by decide +kernel)
set_option maxRecDepth 20000 in
theorem gX12_feed_X12_within : GoodIn wsX12_feed (va_wsS RX12 109 yX12_within wsX12_within) := goodIn_app (goodIn_of _ (by decide +kernel)) ggX12_feed_X12_within
theorem dX12_feed_0 : decode cX12_feed 0 = .ok (.iload_n 1, 1) := by decide +kernel
theorem dX12_feed_1 : decode cX12_feed 1 = .ok (.i2l, 1) := by decide +kernel
theorem dX12_feed_2 : decode cX12_feed 2 = .ok (.lconst 0, 1) := by decide +kernel
theorem dX12_feed_3 : decode cX12_feed 3 = .ok (.ldc2_w 154, 3) := by decide +kernel
theorem dX12_feed_6 : decode cX12_feed 6 = .ok (.invokestatic 109, 3) := by decide +kernel
theorem dX12_feed_9 : decode cX12_feed 9 = .ok (.ifCond .ne 5, 3) := by decide +kernel
theorem dX12_feed_12 : decode cX12_feed 12 = .ok (.iconst (-1), 1) := by decide +kernel
theorem dX12_feed_13 : decode cX12_feed 13 = .ok (.ireturn, 1) := by decide +kernel
theorem dX12_feed_14 : decode cX12_feed 14 = .ok (.aload_n 0, 1) := by decide +kernel
theorem dX12_feed_15 : decode cX12_feed 15 = .ok (.getfield 156, 3) := by decide +kernel
theorem dX12_feed_18 : decode cX12_feed 18 = .ok (.bipush 120, 2) := by decide +kernel
theorem dX12_feed_20 : decode cX12_feed 20 = .ok (.if_icmp .ne 6, 3) := by decide +kernel
theorem dX12_feed_26 : decode cX12_feed 26 = .ok (.aload_n 0, 1) := by decide +kernel
theorem dX12_feed_27 : decode cX12_feed 27 = .ok (.getfield 25, 3) := by decide +kernel
theorem dX12_feed_30 : decode cX12_feed 30 = .ok (.aload_n 0, 1) := by decide +kernel
theorem dX12_feed_31 : decode cX12_feed 31 = .ok (.getfield 156, 3) := by decide +kernel
theorem dX12_feed_34 : decode cX12_feed 34 = .ok (.iload_n 1, 1) := by decide +kernel
theorem dX12_feed_35 : decode cX12_feed 35 = .ok (.iastore, 1) := by decide +kernel
theorem dX12_feed_36 : decode cX12_feed 36 = .ok (.aload_n 0, 1) := by decide +kernel
theorem dX12_feed_37 : decode cX12_feed 37 = .ok (.dup, 1) := by decide +kernel
theorem dX12_feed_38 : decode cX12_feed 38 = .ok (.getfield 156, 3) := by decide +kernel
theorem dX12_feed_41 : decode cX12_feed 41 = .ok (.iconst 1, 1) := by decide +kernel
theorem dX12_feed_42 : decode cX12_feed 42 = .ok (.iadd, 1) := by decide +kernel
theorem dX12_feed_43 : decode cX12_feed 43 = .ok (.putfield 156, 3) := by decide +kernel
theorem dX12_feed_46 : decode cX12_feed 46 = .ok (.aload_n 0, 1) := by decide +kernel
theorem dX12_feed_47 : decode cX12_feed 47 = .ok (.getfield 156, 3) := by decide +kernel
theorem dX12_feed_50 : decode cX12_feed 50 = .ok (.ireturn, 1) := by decide +kernel
theorem dX12_byteAt_0 : decode cX12_byteAt 0 = .ok (.aload_n 0, 1) := by decide +kernel
theorem dX12_byteAt_1 : decode cX12_byteAt 1 = .ok (.getfield 159, 3) := by decide +kernel
theorem dX12_byteAt_4 : decode cX12_byteAt 4 = .ok (.aload_n 0, 1) := by decide +kernel
theorem dX12_byteAt_5 : decode cX12_byteAt 5 = .ok (.getfield 162, 3) := by decide +kernel
theorem dX12_byteAt_8 : decode cX12_byteAt 8 = .ok (.if_icmp .ge 39, 3) := by decide +kernel
theorem dX12_byteAt_47 : decode cX12_byteAt 47 = .ok (.iconst 0, 1) := by decide +kernel
theorem dX12_byteAt_48 : decode cX12_byteAt 48 = .ok (.ireturn, 1) := by decide +kernel
theorem dX12_wrong_0 : decode cX12_wrong 0 = .ok (.aload_n 0, 1) := by decide +kernel
theorem dX12_wrong_1 : decode cX12_wrong 1 = .ok (.aload_n 0, 1) := by decide +kernel
theorem dX12_wrong_2 : decode cX12_wrong 2 = .ok (.getfield 168, 3) := by decide +kernel
theorem dX12_wrong_5 : decode cX12_wrong 5 = .ok (.ifCond .ge 10, 3) := by decide +kernel
theorem dX12_wrong_8 : decode cX12_wrong 8 = .ok (.aload_n 0, 1) := by decide +kernel
theorem dX12_wrong_9 : decode cX12_wrong 9 = .ok (.getfield 159, 3) := by decide +kernel
theorem dX12_wrong_12 : decode cX12_wrong 12 = .ok (.goto 7, 3) := by decide +kernel
theorem dX12_wrong_19 : decode cX12_wrong 19 = .ok (.putfield 168, 3) := by decide +kernel
theorem dX12_wrong_22 : decode cX12_wrong 22 = .ok (.iconst 0, 1) := by decide +kernel
theorem dX12_wrong_23 : decode cX12_wrong 23 = .ok (.ireturn, 1) := by decide +kernel
theorem dX12_takes_0 : decode cX12_takes 0 = .ok (.aload_n 0, 1) := by decide +kernel
theorem dX12_takes_1 : decode cX12_takes 1 = .ok (.getfield 168, 3) := by decide +kernel
theorem dX12_takes_4 : decode cX12_takes 4 = .ok (.ifCond .ge 11, 3) := by decide +kernel
theorem dX12_takes_15 : decode cX12_takes 15 = .ok (.iconst 0, 1) := by decide +kernel
theorem dX12_takes_16 : decode cX12_takes 16 = .ok (.ireturn, 1) := by decide +kernel
set_option maxRecDepth 20000 in
theorem ggX12_either_X12_both : GoodIn wsX12_either wsX12_both := goodIn_r _ [19, 20, 21, 22, 4, 5, 6, 7, 8, 9, 10, 11, 12, 13, 14, 15, 16, 17, 18, 23, 24, 25, 26, 0, 1, 2, 3, 27, 28, 29, 30, 31, 32, 33, 34, 35, 36, 37, 38, 39, 40, 41, 42, 43, 44, 45, 46, 47, 48, 49, 50, 51, 52, 53, 54, 55, 56, 57, 58, 59, 60, 61, 62, 63, 64, 65, 66, 67, 68, 69, 70, 71, 72, 73, 74, 75, 76, 77, 78, 79, 80, 81, 82, 83, 84, 85, 86, 87, 88, 89, 90, 91, 92, 93, 94, 95, 96, 97, 98, 99, 100, 101, 102] (by decide +kernel) (by decide +kernel)
set_option maxRecDepth 20000 in
theorem gX12_either_X12_both : GoodIn wsX12_either (wsV RX12 175 RX12 yX12_both wsX12_both) := goodIn_app (goodIn_of _ (by decide +kernel)) ggX12_either_X12_both
set_option maxRecDepth 20000 in
theorem ggX12_either_X12_takes : GoodIn wsX12_either wsX12_takes := goodIn_r _ [8, 9, 10, 11, 12, 13, 4, 14, 15, 16, 17, 18, 48, 49, 50, 51, 52, 53, 54, 55, 56, 57, 58, 59, 60, 61, 62, 63, 64, 65, 66, 67, 68, 69, 70, 71, 72, 73, 74, 75, 76, 77, 78, 79, 80, 81, 82, 83, 84, 85, 86, 87, 88, 89, 90, 91, 92, 93, 94, 95, 96, 97, 98, 99, 100, 101, 102] (by decide +kernel) (by decide +kernel)
set_option maxRecDepth 20000 in
theorem gX12_either_X12_takes : GoodIn wsX12_either (wsV RX12 178 RX12 yX12_takes wsX12_takes) := goodIn_app (goodIn_of _ (by decide +kernel)) ggX12_either_X12_takes
theorem dX12_either_0 : decode cX12_either 0 = .ok (.aload_n 0, 1) := by decide +kernel
theorem dX12_either_1 : decode cX12_either 1 = .ok (.invokevirtual 175, 3) := by decide +kernel
theorem dX12_either_4 : decode cX12_either 4 = .ok (.istore_n 1, 1) := by decide +kernel
theorem dX12_either_5 : decode cX12_either 5 = .ok (.aload_n 0, 1) := by decide +kernel
theorem dX12_either_6 : decode cX12_either 6 = .ok (.bipush 124, 2) := by decide +kernel
theorem dX12_either_8 : decode cX12_either 8 = .ok (.invokevirtual 178, 3) := by decide +kernel
theorem dX12_either_11 : decode cX12_either 11 = .ok (.ifCond .eq 25, 3) := by decide +kernel
theorem dX12_either_36 : decode cX12_either 36 = .ok (.iload_n 1, 1) := by decide +kernel
theorem dX12_either_37 : decode cX12_either 37 = .ok (.ireturn, 1) := by decide +kernel
set_option maxRecDepth 20000 in
theorem ggX12_both_X12_compared : GoodIn wsX12_both wsX12_compared := goodIn_r _ [19, 9, 10, 20, 21, 22, 4, 11, 12, 13, 14, 15, 16, 17, 18, 0, 1, 2, 3, 5, 6, 7, 8, 23, 24, 25, 26, 27, 28, 29, 30, 31, 32, 33, 34, 35, 36, 37, 38, 39, 40, 41, 42, 43, 44, 45, 46, 47, 48, 49, 50, 51, 52, 53, 54, 55, 56, 57, 58, 59, 60, 61, 62, 63, 64, 65, 66, 67, 68, 69, 70, 71, 72, 73, 74, 75, 76, 77, 78, 79, 80, 81, 82, 83, 84, 85, 86, 87, 88, 89, 90, 91, 92, 93, 94, 95, 96, 97, 98, 99, 100, 101, 102] (by decide +kernel) (by decide +kernel)
set_option maxRecDepth 20000 in
theorem gX12_both_X12_compared : GoodIn wsX12_both (wsV RX12 181 RX12 yX12_compared wsX12_compared) := goodIn_app (goodIn_of _ (by decide +kernel)) ggX12_both_X12_compared
set_option maxRecDepth 20000 in
theorem ggX12_both_X12_takes : GoodIn wsX12_both wsX12_takes := goodIn_r _ [8, 9, 10, 11, 12, 13, 4, 14, 15, 16, 17, 18, 48, 49, 50, 51, 52, 53, 54, 55, 56, 57, 58, 59, 60, 61, 62, 63, 64, 65, 66, 67, 68, 69, 70, 71, 72, 73, 74, 75, 76, 77, 78, 79, 80, 81, 82, 83, 84, 85, 86, 87, 88, 89, 90, 91, 92, 93, 94, 95, 96, 97, 98, 99, 100, 101, 102] (by decide +kernel) (by decide +kernel)
set_option maxRecDepth 20000 in
theorem gX12_both_X12_takes : GoodIn wsX12_both (wsV RX12 178 RX12 yX12_takes wsX12_takes) := goodIn_app (goodIn_of _ (by decide +kernel)) ggX12_both_X12_takes
theorem dX12_both_0 : decode cX12_both 0 = .ok (.aload_n 0, 1) := by decide +kernel
theorem dX12_both_1 : decode cX12_both 1 = .ok (.invokevirtual 181, 3) := by decide +kernel
theorem dX12_both_4 : decode cX12_both 4 = .ok (.istore_n 1, 1) := by decide +kernel
theorem dX12_both_5 : decode cX12_both 5 = .ok (.aload_n 0, 1) := by decide +kernel
theorem dX12_both_6 : decode cX12_both 6 = .ok (.bipush 38, 2) := by decide +kernel
theorem dX12_both_8 : decode cX12_both 8 = .ok (.invokevirtual 178, 3) := by decide +kernel
theorem dX12_both_11 : decode cX12_both 11 = .ok (.ifCond .eq 25, 3) := by decide +kernel
theorem dX12_both_36 : decode cX12_both 36 = .ok (.iload_n 1, 1) := by decide +kernel
theorem dX12_both_37 : decode cX12_both 37 = .ok (.ireturn, 1) := by decide +kernel
set_option maxRecDepth 20000 in
theorem ggX12_compared_X12_sums : GoodIn wsX12_compared wsX12_sums := goodIn_r _ [44, 1, 2, 45, 46, 47, 6, 7, 8, 9, 10, 11, 12, 13, 14, 15, 16, 17, 18, 19, 20, 21, 22, 0, 3, 4, 5, 23, 24, 25, 26, 27, 28, 29, 30, 31, 32, 33, 34, 35, 36, 37, 38, 39, 40, 41, 42, 43, 48, 49, 50, 51, 52, 53, 54, 55, 56, 57, 58, 59, 60, 61, 62, 63, 64, 65, 66, 67, 68, 69, 70, 71, 72, 73, 74, 75, 76, 77, 78, 79, 80, 81, 82, 83, 84, 85, 86, 87, 88, 89, 90, 91, 92, 93, 94, 95, 96, 97, 98, 99, 100, 101, 102] (by decide +kernel) (by decide +kernel)
set_option maxRecDepth 20000 in
theorem gX12_compared_X12_sums : GoodIn wsX12_compared (wsV RX12 184 RX12 yX12_sums wsX12_sums) := goodIn_app (goodIn_of _ (by decide +kernel)) ggX12_compared_X12_sums
set_option maxRecDepth 20000 in
theorem ggX12_compared_X12_byteAt : GoodIn wsX12_compared wsX12_byteAt := goodIn_r _ [10, 2, 11, 12, 13, 14, 48, 49, 50, 51, 52, 53, 54, 55, 56, 57, 58, 59, 60, 61, 62, 63, 64, 65, 66, 67, 68, 69, 70, 71, 72, 73, 74, 75, 76, 77, 78, 79, 80, 81, 82, 83, 84, 85, 86, 87, 88, 89, 90, 91, 92, 93, 94, 95, 96, 97, 98, 99, 100, 101, 102] (by decide +kernel) (by decide +kernel)
set_option maxRecDepth 20000 in
theorem gX12_compared_X12_byteAt : GoodIn wsX12_compared (wsV RX12 171 RX12 yX12_byteAt wsX12_byteAt) := goodIn_app (goodIn_of _ (by decide +kernel)) ggX12_compared_X12_byteAt
theorem dX12_compared_0 : decode cX12_compared 0 = .ok (.aload_n 0, 1) := by decide +kernel
theorem dX12_compared_1 : decode cX12_compared 1 = .ok (.invokevirtual 184, 3) := by decide +kernel
theorem dX12_compared_4 : decode cX12_compared 4 = .ok (.istore_n 1, 1) := by decide +kernel
theorem dX12_compared_5 : decode cX12_compared 5 = .ok (.aload_n 0, 1) := by decide +kernel
theorem dX12_compared_6 : decode cX12_compared 6 = .ok (.invokevirtual 171, 3) := by decide +kernel
theorem dX12_compared_9 : decode cX12_compared 9 = .ok (.istore_n 2, 1) := by decide +kernel
theorem dX12_compared_10 : decode cX12_compared 10 = .ok (.aload_n 0, 1) := by decide +kernel
theorem dX12_compared_11 : decode cX12_compared 11 = .ok (.getfield 168, 3) := by decide +kernel
theorem dX12_compared_14 : decode cX12_compared 14 = .ok (.ifCond .ge 21, 3) := by decide +kernel
theorem dX12_compared_35 : decode cX12_compared 35 = .ok (.iload_n 1, 1) := by decide +kernel
theorem dX12_compared_36 : decode cX12_compared 36 = .ok (.ireturn, 1) := by decide +kernel
set_option maxRecDepth 20000 in
theorem ggX12_sums_X12_product : GoodIn wsX12_sums wsX12_product := goodIn_r _ [47, 1, 2, 41, 42, 43, 6, 7, 8, 9, 10, 11, 12, 13, 14, 15, 16, 17, 18, 19, 20, 21, 22, 23, 24, 25, 26, 27, 28, 29, 30, 31, 32, 33, 34, 35, 36, 37, 38, 39, 40, 44, 45, 46, 0, 3, 4, 5, 48, 49, 50, 51, 52, 53, 54, 55, 56, 57, 58, 59, 60, 61, 62, 63, 64, 65, 66, 67, 68, 69, 70, 71, 72, 73, 74, 75, 76, 77, 78, 79, 80, 81, 82, 83, 84, 85, 86, 87, 88, 89, 90, 91, 92, 93, 94, 95, 96, 97, 98, 99, 100, 101, 102] (by decide +kernel) (by decide +kernel)
set_option maxRecDepth 20000 in
theorem gX12_sums_X12_product : GoodIn wsX12_sums (wsV RX12 187 RX12 yX12_product wsX12_product) := goodIn_app (goodIn_of _ (by decide +kernel)) ggX12_sums_X12_product
theorem dX12_sums_0 : decode cX12_sums 0 = .ok (.aload_n 0, 1) := by decide +kernel
theorem dX12_sums_1 : decode cX12_sums 1 = .ok (.invokevirtual 187, 3) := by decide +kernel
theorem dX12_sums_4 : decode cX12_sums 4 = .ok (.istore_n 1, 1) := by decide +kernel
theorem dX12_sums_5 : decode cX12_sums 5 = .ok (.aload_n 0, 1) := by decide +kernel
theorem dX12_sums_6 : decode cX12_sums 6 = .ok (.getfield 168, 3) := by decide +kernel
theorem dX12_sums_9 : decode cX12_sums 9 = .ok (.ifCond .ge 68, 3) := by decide +kernel
theorem dX12_sums_77 : decode cX12_sums 77 = .ok (.iload_n 1, 1) := by decide +kernel
theorem dX12_sums_78 : decode cX12_sums 78 = .ok (.ireturn, 1) := by decide +kernel
set_option maxRecDepth 20000 in
theorem ggX12_product_X12_one : GoodIn wsX12_product wsX12_one := goodIn_r _ [31, 1, 32, 2, 33, 7, 8, 9, 6, 10, 11, 12, 13, 14, 34, 35, 36, 37, 38, 39, 40, 3, 4, 5, 19, 20, 21, 22, 41, 42, 43, 15, 16, 17, 18, 23, 24, 25, 26, 27, 28, 29, 30, 0, 44, 45, 46, 47, 48, 49, 50, 51, 52, 53, 54, 55, 56, 57, 58, 59, 60, 61, 62, 63, 64, 65, 66, 67, 68, 69, 70, 71, 72, 73, 74, 75, 76, 77, 78, 79, 80, 81, 82, 83, 84, 85, 86, 87, 88, 89, 90, 91, 92, 93, 94, 95, 96, 97, 98, 99, 100, 101, 102] (by decide +kernel) (by decide +kernel)
set_option maxRecDepth 20000 in
theorem gX12_product_X12_one : GoodIn wsX12_product (wsV RX12 190 RX12 yX12_one wsX12_one) := goodIn_app (goodIn_of _ (by decide +kernel)) ggX12_product_X12_one
set_option maxRecDepth 20000 in
theorem ggX12_product_X12_byteAt : GoodIn wsX12_product wsX12_byteAt := goodIn_r _ [10, 2, 11, 12, 13, 14, 48, 49, 50, 51, 52, 53, 54, 55, 56, 57, 58, 59, 60, 61, 62, 63, 64, 65, 66, 67, 68, 69, 70, 71, 72, 73, 74, 75, 76, 77, 78, 79, 80, 81, 82, 83, 84, 85, 86, 87, 88, 89, 90, 91, 92, 93, 94, 95, 96, 97, 98, 99, 100, 101, 102] (by decide +kernel) (by decide +kernel)
set_option maxRecDepth 20000 in
theorem gX12_product_X12_byteAt : GoodIn wsX12_product (wsV RX12 171 RX12 yX12_byteAt wsX12_byteAt) := goodIn_app (goodIn_of _ (by decide +kernel)) ggX12_product_X12_byteAt
theorem dX12_product_0 : decode cX12_product 0 = .ok (.aload_n 0, 1) := by decide +kernel
theorem dX12_product_1 : decode cX12_product 1 = .ok (.invokevirtual 190, 3) := by decide +kernel
theorem dX12_product_4 : decode cX12_product 4 = .ok (.istore_n 1, 1) := by decide +kernel
theorem dX12_product_5 : decode cX12_product 5 = .ok (.aload_n 0, 1) := by decide +kernel
theorem dX12_product_6 : decode cX12_product 6 = .ok (.invokevirtual 171, 3) := by decide +kernel
theorem dX12_product_9 : decode cX12_product 9 = .ok (.istore_n 2, 1) := by decide +kernel
theorem dX12_product_10 : decode cX12_product 10 = .ok (.aload_n 0, 1) := by decide +kernel
theorem dX12_product_11 : decode cX12_product 11 = .ok (.getfield 168, 3) := by decide +kernel
theorem dX12_product_14 : decode cX12_product 14 = .ok (.ifCond .ge 80, 3) := by decide +kernel
theorem dX12_product_94 : decode cX12_product 94 = .ok (.iload_n 1, 1) := by decide +kernel
theorem dX12_product_95 : decode cX12_product 95 = .ok (.ireturn, 1) := by decide +kernel
theorem dX12_nameOf_0 : decode cX12_nameOf 0 = .ok (.iload_n 0, 1) := by decide +kernel
theorem dX12_nameOf_1 : decode cX12_nameOf 1 = .ok (.tableswitch 107 100 119 #[95, 107, 107, 107, 103, 107, 107, 105, 107, 107, 107, 107, 107, 107, 107, 99, 107, 97, 107, 101], 95) := by decide +kernel
theorem dX12_nameOf_108 : decode cX12_nameOf 108 = .ok (.iconst (-1), 1) := by decide +kernel
theorem dX12_nameOf_109 : decode cX12_nameOf 109 = .ok (.ireturn, 1) := by decide +kernel
set_option maxRecDepth 20000 in
theorem ggX12_one_X12_byteAt : GoodIn wsX12_one wsX12_byteAt := goodIn_r _ [9, 3, 10, 11, 12, 13, 48, 49, 50, 51, 52, 53, 54, 55, 56, 57, 58, 59, 60, 61, 62, 63, 64, 65, 66, 67, 68, 69, 70, 71, 72, 73, 74, 75, 76, 77, 78, 79, 80, 81, 82, 83, 84, 85, 86, 87, 88, 89, 90, 91, 92, 93, 94, 95, 96, 97, 98, 99, 100, 101, 102] (by decide +kernel) (by decide +kernel)
set_option maxRecDepth 20000 in
theorem gX12_one_X12_byteAt : GoodIn wsX12_one (wsV RX12 171 RX12 yX12_byteAt wsX12_byteAt) := goodIn_app (goodIn_of _ (by decide +kernel)) ggX12_one_X12_byteAt
set_option maxRecDepth 20000 in
theorem ggX12_one_X12_wrong : GoodIn wsX12_one wsX12_wrong := goodIn_r _ [17, 1, 3, 48, 49, 50, 51, 52, 53, 54, 55, 56, 57, 58, 59, 60, 61, 62, 63, 64, 65, 66, 67, 68, 69, 70, 71, 72, 73, 74, 75, 76, 77, 78, 79, 80, 81, 82, 83, 84, 85, 86, 87, 88, 89, 90, 91, 92, 93, 94, 95, 96, 97, 98, 99, 100, 101, 102] (by decide +kernel) (by decide +kernel)
set_option maxRecDepth 20000 in
theorem gX12_one_X12_wrong : GoodIn wsX12_one (wsV RX12 196 RX12 yX12_wrong wsX12_wrong) := goodIn_app (goodIn_of _ (by decide +kernel)) ggX12_one_X12_wrong
set_option maxRecDepth 20000 in
theorem ggX12_one_X12_nameOf : GoodIn wsX12_one wsX12_nameOf := goodIn_r _ [30] (by decide +kernel) (by decide +kernel)
set_option maxRecDepth 20000 in
theorem gX12_one_X12_nameOf : GoodIn wsX12_one (va_wsS RX12 202 yX12_nameOf wsX12_nameOf) := goodIn_app (goodIn_of _ (by decide +kernel)) ggX12_one_X12_nameOf
theorem dX12_one_0 : decode cX12_one 0 = .ok (.aload_n 0, 1) := by decide +kernel
theorem dX12_one_1 : decode cX12_one 1 = .ok (.getfield 168, 3) := by decide +kernel
theorem dX12_one_4 : decode cX12_one 4 = .ok (.ifCond .lt 5, 3) := by decide +kernel
theorem dX12_one_9 : decode cX12_one 9 = .ok (.aload_n 0, 1) := by decide +kernel
theorem dX12_one_10 : decode cX12_one 10 = .ok (.invokevirtual 171, 3) := by decide +kernel
theorem dX12_one_13 : decode cX12_one 13 = .ok (.istore_n 1, 1) := by decide +kernel
theorem dX12_one_14 : decode cX12_one 14 = .ok (.iload_n 1, 1) := by decide +kernel
theorem dX12_one_15 : decode cX12_one 15 = .ok (.bipush 33, 2) := by decide +kernel
theorem dX12_one_17 : decode cX12_one 17 = .ok (.if_icmp .eq 15, 3) := by decide +kernel
theorem dX12_one_20 : decode cX12_one 20 = .ok (.iload_n 1, 1) := by decide +kernel
theorem dX12_one_21 : decode cX12_one 21 = .ok (.bipush 45, 2) := by decide +kernel
theorem dX12_one_23 : decode cX12_one 23 = .ok (.if_icmp .eq 9, 3) := by decide +kernel
theorem dX12_one_26 : decode cX12_one 26 = .ok (.iload_n 1, 1) := by decide +kernel
theorem dX12_one_27 : decode cX12_one 27 = .ok (.bipush 40, 2) := by decide +kernel
theorem dX12_one_29 : decode cX12_one 29 = .ok (.if_icmp .ne 116, 3) := by decide +kernel
theorem dX12_one_145 : decode cX12_one 145 = .ok (.iload_n 1, 1) := by decide +kernel
theorem dX12_one_146 : decode cX12_one 146 = .ok (.invokestatic 202, 3) := by decide +kernel
theorem dX12_one_149 : decode cX12_one 149 = .ok (.istore_n 2, 1) := by decide +kernel
theorem dX12_one_150 : decode cX12_one 150 = .ok (.iload_n 2, 1) := by decide +kernel
theorem dX12_one_151 : decode cX12_one 151 = .ok (.ifCond .lt 20, 3) := by decide +kernel
theorem dX12_one_171 : decode cX12_one 171 = .ok (.iconst 0, 1) := by decide +kernel
theorem dX12_one_172 : decode cX12_one 172 = .ok (.istore_n 3, 1) := by decide +kernel
theorem dX12_one_173 : decode cX12_one 173 = .ok (.iconst 0, 1) := by decide +kernel
theorem dX12_one_174 : decode cX12_one 174 = .ok (.istore 4, 2) := by decide +kernel
theorem dX12_one_176 : decode cX12_one 176 = .ok (.iload 4, 2) := by decide +kernel
theorem dX12_one_178 : decode cX12_one 178 = .ok (.iconst 4, 1) := by decide +kernel
theorem dX12_one_179 : decode cX12_one 179 = .ok (.if_icmp .ge 50, 3) := by decide +kernel
theorem dX12_one_182 : decode cX12_one 182 = .ok (.aload_n 0, 1) := by decide +kernel
theorem dX12_one_183 : decode cX12_one 183 = .ok (.invokevirtual 171, 3) := by decide +kernel
theorem dX12_one_186 : decode cX12_one 186 = .ok (.bipush 48, 2) := by decide +kernel
theorem dX12_one_188 : decode cX12_one 188 = .ok (.if_icmp .lt 41, 3) := by decide +kernel
theorem dX12_one_229 : decode cX12_one 229 = .ok (.iload 4, 2) := by decide +kernel
theorem dX12_one_231 : decode cX12_one 231 = .ok (.ifCond .ne 10, 3) := by decide +kernel
theorem dX12_one_234 : decode cX12_one 234 = .ok (.aload_n 0, 1) := by decide +kernel
theorem dX12_one_235 : decode cX12_one 235 = .ok (.invokevirtual 196, 3) := by decide +kernel
theorem dX12_one_238 : decode cX12_one 238 = .ok (.goto 4, 3) := by decide +kernel
theorem dX12_one_242 : decode cX12_one 242 = .ok (.ireturn, 1) := by decide +kernel
set_option maxRecDepth 20000 in
theorem ggX12_workOut_X12_either : GoodIn wsX12_workOut wsX12_either := goodIn_r _ [10, 11, 12, 13, 9, 14, 15, 16, 17, 4, 2, 18, 19, 20, 21, 3, 1, 22, 23, 24, 25, 26, 27, 28, 29, 30, 31, 32, 5, 33, 34, 35, 36, 37, 6, 7, 8, 38, 39, 40, 41, 42, 43, 44, 45, 46, 47, 48, 49, 50, 51, 52, 53, 54, 55, 56, 57, 58, 59, 60, 61, 62, 63, 64, 65, 66, 67, 68, 69, 70, 71, 72, 73, 74, 75, 76, 77, 78, 79, 80, 81, 82, 83, 84, 85, 86, 87, 88, 89, 90, 91, 92, 93, 94, 95, 96, 97, 98, 99, 100, 101, 102, 103] (by decide +kernel) (by decide +kernel)
set_option maxRecDepth 20000 in
theorem gX12_workOut_X12_either : GoodIn wsX12_workOut (wsV RX12 199 RX12 yX12_either wsX12_either) := goodIn_app (goodIn_of _ (by decide +kernel)) ggX12_workOut_X12_either
set_option maxRecDepth 20000 in
theorem ggX12_workOut_X12_takes : GoodIn wsX12_workOut wsX12_takes := goodIn_r _ [17, 4, 2, 18, 19, 20, 9, 21, 3, 1, 22, 23, 49, 50, 51, 52, 53, 54, 55, 56, 57, 58, 59, 60, 61, 62, 63, 64, 65, 66, 67, 68, 69, 70, 71, 72, 73, 74, 75, 76, 77, 78, 79, 80, 81, 82, 83, 84, 85, 86, 87, 88, 89, 90, 91, 92, 93, 94, 95, 96, 97, 98, 99, 100, 101, 102, 103] (by decide +kernel) (by decide +kernel)
set_option maxRecDepth 20000 in
theorem gX12_workOut_X12_takes : GoodIn wsX12_workOut (wsV RX12 178 RX12 yX12_takes wsX12_takes) := goodIn_app (goodIn_of _ (by decide +kernel)) ggX12_workOut_X12_takes
theorem dX12_workOut_0 : decode cX12_workOut 0 = .ok (.aload_n 0, 1) := by decide +kernel
theorem dX12_workOut_1 : decode cX12_workOut 1 = .ok (.iload_n 1, 1) := by decide +kernel
theorem dX12_workOut_2 : decode cX12_workOut 2 = .ok (.putfield 165, 3) := by decide +kernel
theorem dX12_workOut_5 : decode cX12_workOut 5 = .ok (.aload_n 0, 1) := by decide +kernel
theorem dX12_workOut_6 : decode cX12_workOut 6 = .ok (.iconst 0, 1) := by decide +kernel
theorem dX12_workOut_7 : decode cX12_workOut 7 = .ok (.putfield 159, 3) := by decide +kernel
theorem dX12_workOut_10 : decode cX12_workOut 10 = .ok (.aload_n 0, 1) := by decide +kernel
theorem dX12_workOut_11 : decode cX12_workOut 11 = .ok (.iload_n 2, 1) := by decide +kernel
theorem dX12_workOut_12 : decode cX12_workOut 12 = .ok (.putfield 162, 3) := by decide +kernel
theorem dX12_workOut_15 : decode cX12_workOut 15 = .ok (.aload_n 0, 1) := by decide +kernel
theorem dX12_workOut_16 : decode cX12_workOut 16 = .ok (.iconst (-1), 1) := by decide +kernel
theorem dX12_workOut_17 : decode cX12_workOut 17 = .ok (.putfield 168, 3) := by decide +kernel
theorem dX12_workOut_20 : decode cX12_workOut 20 = .ok (.aload_n 0, 1) := by decide +kernel
theorem dX12_workOut_21 : decode cX12_workOut 21 = .ok (.iconst 0, 1) := by decide +kernel
theorem dX12_workOut_22 : decode cX12_workOut 22 = .ok (.putfield 193, 3) := by decide +kernel
theorem dX12_workOut_25 : decode cX12_workOut 25 = .ok (.iconst 0, 1) := by decide +kernel
theorem dX12_workOut_26 : decode cX12_workOut 26 = .ok (.istore_n 3, 1) := by decide +kernel
theorem dX12_workOut_27 : decode cX12_workOut 27 = .ok (.iconst 0, 1) := by decide +kernel
theorem dX12_workOut_28 : decode cX12_workOut 28 = .ok (.istore 4, 2) := by decide +kernel
theorem dX12_workOut_30 : decode cX12_workOut 30 = .ok (.iconst 1, 1) := by decide +kernel
theorem dX12_workOut_31 : decode cX12_workOut 31 = .ok (.istore 5, 2) := by decide +kernel
theorem dX12_workOut_33 : decode cX12_workOut 33 = .ok (.iload 5, 2) := by decide +kernel
theorem dX12_workOut_35 : decode cX12_workOut 35 = .ok (.ifCond .eq 72, 3) := by decide +kernel
theorem dX12_workOut_38 : decode cX12_workOut 38 = .ok (.aload_n 0, 1) := by decide +kernel
theorem dX12_workOut_39 : decode cX12_workOut 39 = .ok (.invokevirtual 199, 3) := by decide +kernel
theorem dX12_workOut_42 : decode cX12_workOut 42 = .ok (.istore 6, 2) := by decide +kernel
theorem dX12_workOut_44 : decode cX12_workOut 44 = .ok (.iconst 1, 1) := by decide +kernel
theorem dX12_workOut_45 : decode cX12_workOut 45 = .ok (.istore 7, 2) := by decide +kernel
theorem dX12_workOut_47 : decode cX12_workOut 47 = .ok (.aload_n 0, 1) := by decide +kernel
theorem dX12_workOut_48 : decode cX12_workOut 48 = .ok (.bipush 63, 2) := by decide +kernel
theorem dX12_workOut_50 : decode cX12_workOut 50 = .ok (.invokevirtual 178, 3) := by decide +kernel
theorem dX12_workOut_53 : decode cX12_workOut 53 = .ok (.ifCond .eq 21, 3) := by decide +kernel
theorem dX12_workOut_74 : decode cX12_workOut 74 = .ok (.aload_n 0, 1) := by decide +kernel
theorem dX12_workOut_75 : decode cX12_workOut 75 = .ok (.getfield 168, 3) := by decide +kernel
theorem dX12_workOut_78 : decode cX12_workOut 78 = .ok (.ifCond .ge 18, 3) := by decide +kernel
theorem dX12_workOut_96 : decode cX12_workOut 96 = .ok (.aload_n 0, 1) := by decide +kernel
theorem dX12_workOut_97 : decode cX12_workOut 97 = .ok (.bipush 59, 2) := by decide +kernel
theorem dX12_workOut_99 : decode cX12_workOut 99 = .ok (.invokevirtual 178, 3) := by decide +kernel
theorem dX12_workOut_102 : decode cX12_workOut 102 = .ok (.istore 5, 2) := by decide +kernel
theorem dX12_workOut_104 : decode cX12_workOut 104 = .ok (.goto (-71), 3) := by decide +kernel
theorem dX12_workOut_107 : decode cX12_workOut 107 = .ok (.aload_n 0, 1) := by decide +kernel
theorem dX12_workOut_108 : decode cX12_workOut 108 = .ok (.getfield 168, 3) := by decide +kernel
theorem dX12_workOut_111 : decode cX12_workOut 111 = .ok (.ifCond .ge 19, 3) := by decide +kernel
theorem dX12_workOut_130 : decode cX12_workOut 130 = .ok (.iload 4, 2) := by decide +kernel
theorem dX12_workOut_132 : decode cX12_workOut 132 = .ok (.ireturn, 1) := by decide +kernel
set_option maxRecDepth 20000 in
theorem ggX12_law_X12_workOut : GoodIn wsX12_law wsX12_workOut := goodIn_r _ [10, 11, 12, 13, 2, 14, 15, 16, 17, 9, 18, 19, 20, 21, 22, 23, 24, 25, 26, 27, 28, 29, 4, 3, 30, 31, 32, 33, 34, 35, 36, 37, 38, 39, 40, 41, 42, 43, 44, 45, 46, 47, 48, 49, 50, 51, 52, 53, 54, 55, 56, 57, 58, 59, 60, 61, 62, 63, 64, 65, 66, 67, 68, 69, 70, 71, 72, 73, 74, 75, 76, 77, 78, 79, 80, 81, 82, 83, 84, 85, 86, 87, 88, 89, 90, 91, 92, 93, 94, 95, 96, 97, 98, 99, 100, 101, 102, 103, 104, 105, 106, 107, 108, 109] (by decide +kernel) (by decide +kernel)
set_option maxRecDepth 20000 in
theorem gX12_law_X12_workOut : GoodIn wsX12_law (wsV RX12 205 RX12 yX12_workOut wsX12_workOut) := goodIn_app (goodIn_of _ (by decide +kernel)) ggX12_law_X12_workOut
theorem dX12_law_0 : decode cX12_law 0 = .ok (.aload_n 0, 1) := by decide +kernel
theorem dX12_law_1 : decode cX12_law 1 = .ok (.iconst (-1), 1) := by decide +kernel
theorem dX12_law_2 : decode cX12_law 2 = .ok (.aload_n 0, 1) := by decide +kernel
theorem dX12_law_3 : decode cX12_law 3 = .ok (.getfield 156, 3) := by decide +kernel
theorem dX12_law_6 : decode cX12_law 6 = .ok (.invokevirtual 205, 3) := by decide +kernel
theorem dX12_law_9 : decode cX12_law 9 = .ok (.istore_n 1, 1) := by decide +kernel
theorem dX12_law_10 : decode cX12_law 10 = .ok (.aload_n 0, 1) := by decide +kernel
theorem dX12_law_11 : decode cX12_law 11 = .ok (.getfield 156, 3) := by decide +kernel
theorem dX12_law_14 : decode cX12_law 14 = .ok (.istore_n 2, 1) := by decide +kernel
theorem dX12_law_15 : decode cX12_law 15 = .ok (.aload_n 0, 1) := by decide +kernel
theorem dX12_law_16 : decode cX12_law 16 = .ok (.iconst 0, 1) := by decide +kernel
theorem dX12_law_17 : decode cX12_law 17 = .ok (.putfield 156, 3) := by decide +kernel
theorem dX12_law_20 : decode cX12_law 20 = .ok (.aload_n 0, 1) := by decide +kernel
theorem dX12_law_21 : decode cX12_law 21 = .ok (.getfield 168, 3) := by decide +kernel
theorem dX12_law_24 : decode cX12_law 24 = .ok (.ifCond .lt 11, 3) := by decide +kernel
theorem dX12_law_27 : decode cX12_law 27 = .ok (.bipush (-100), 2) := by decide +kernel
theorem dX12_law_29 : decode cX12_law 29 = .ok (.aload_n 0, 1) := by decide +kernel
theorem dX12_law_30 : decode cX12_law 30 = .ok (.getfield 168, 3) := by decide +kernel
theorem dX12_law_33 : decode cX12_law 33 = .ok (.isub, 1) := by decide +kernel
theorem dX12_law_34 : decode cX12_law 34 = .ok (.ireturn, 1) := by decide +kernel
set_option maxRecDepth 20000 in
theorem ggX12_loss_X12_isSitter : GoodIn wsX12_loss wsX12_isSitter := goodIn_r _ [5, 6, 7, 8, 4, 9, 82, 83, 84, 85, 86, 87, 88, 89, 90, 91, 92, 93, 94, 95, 96, 97, 98, 99, 100, 101, 102, 103, 104, 105, 106, 107, 108, 109, 110, 111, 112, 113, 114, 115, 116, 117, 118, 119, 120, 121, 122, 123, 124, 125, 126, 127, 128, 129, 130, 131, 132, 133, 134, 135, 136] (by decide +kernel) (by decide +kernel)
set_option maxRecDepth 20000 in
theorem gX12_loss_X12_isSitter : GoodIn wsX12_loss (wsV RX12 135 RX12 yX12_isSitter wsX12_isSitter) := goodIn_app (goodIn_of _ (by decide +kernel)) ggX12_loss_X12_isSitter
theorem dX12_loss_0 : decode cX12_loss 0 = .ok (.aload_n 0, 1) := by decide +kernel
theorem dX12_loss_1 : decode cX12_loss 1 = .ok (.iload_n 1, 1) := by decide +kernel
theorem dX12_loss_2 : decode cX12_loss 2 = .ok (.i2l, 1) := by decide +kernel
theorem dX12_loss_3 : decode cX12_loss 3 = .ok (.invokevirtual 135, 3) := by decide +kernel
theorem dX12_loss_6 : decode cX12_loss 6 = .ok (.ifCond .eq 28, 3) := by decide +kernel
theorem dX12_loss_34 : decode cX12_loss 34 = .ok (.iconst (-1), 1) := by decide +kernel
theorem dX12_loss_35 : decode cX12_loss 35 = .ok (.ireturn, 1) := by decide +kernel
set_option maxRecDepth 20000 in
theorem ggX12_bytesIs_X12_isShelf : GoodIn wsX12_bytesIs wsX12_isShelf := goodIn_r _ [5, 6, 7, 8, 4, 9] (by decide +kernel) (by decide +kernel)
set_option maxRecDepth 20000 in
theorem gX12_bytesIs_X12_isShelf : GoodIn wsX12_bytesIs (va_wsS RX12 127 yX12_isShelf wsX12_isShelf) := goodIn_app (goodIn_of _ (by decide +kernel)) ggX12_bytesIs_X12_isShelf
theorem dX12_bytesIs_0 : decode cX12_bytesIs 0 = .ok (.iload_n 1, 1) := by decide +kernel
theorem dX12_bytesIs_1 : decode cX12_bytesIs 1 = .ok (.invokestatic 127, 3) := by decide +kernel
theorem dX12_bytesIs_4 : decode cX12_bytesIs 4 = .ok (.ifCond .ne 7, 3) := by decide +kernel
theorem dX12_bytesIs_7 : decode cX12_bytesIs 7 = .ok (.iconst (-1), 1) := by decide +kernel
theorem dX12_bytesIs_8 : decode cX12_bytesIs 8 = .ok (.goto 34, 3) := by decide +kernel
theorem dX12_bytesIs_11 : decode cX12_bytesIs 11 = .ok (.aload_n 0, 1) := by decide +kernel
theorem dX12_bytesIs_12 : decode cX12_bytesIs 12 = .ok (.getfield 74, 3) := by decide +kernel
theorem dX12_bytesIs_15 : decode cX12_bytesIs 15 = .ok (.iload_n 1, 1) := by decide +kernel
theorem dX12_bytesIs_16 : decode cX12_bytesIs 16 = .ok (.iaload, 1) := by decide +kernel
theorem dX12_bytesIs_17 : decode cX12_bytesIs 17 = .ok (.ifCond .ge 8, 3) := by decide +kernel
theorem dX12_bytesIs_20 : decode cX12_bytesIs 20 = .ok (.bipush (-11), 2) := by decide +kernel
theorem dX12_bytesIs_22 : decode cX12_bytesIs 22 = .ok (.goto 20, 3) := by decide +kernel
theorem dX12_bytesIs_42 : decode cX12_bytesIs 42 = .ok (.ireturn, 1) := by decide +kernel
set_option maxRecDepth 20000 in
theorem ggX12_never_X12_bytesIs : GoodIn wsX12_never wsX12_bytesIs := goodIn_r _ [5, 6, 7, 8, 4, 9, 10, 11, 12, 13, 105, 106, 107, 108, 109, 110, 111, 112, 113, 114, 115, 116, 117, 118, 119, 120, 121, 122, 123, 124, 125, 126, 127, 128, 129, 130, 131, 132, 133, 134, 135, 136, 137, 138, 139, 140, 141, 142, 143, 144, 145, 146, 147, 148, 149, 150, 151, 152, 153, 154, 155, 156, 157, 158, 159] (by decide +kernel) (by decide +kernel)
set_option maxRecDepth 20000 in
theorem gX12_never_X12_bytesIs : GoodIn wsX12_never (wsV RX12 224 RX12 yX12_bytesIs wsX12_bytesIs) := goodIn_app (goodIn_of _ (by decide +kernel)) ggX12_never_X12_bytesIs
set_option maxRecDepth 20000 in
theorem ggX12_never_X12_isPart : GoodIn wsX12_never wsX12_isPart := goodIn_r _ [16, 17, 11, 12, 4, 13] (by decide +kernel) (by decide +kernel)
set_option maxRecDepth 20000 in
theorem gX12_never_X12_isPart : GoodIn wsX12_never (va_wsS RX12 140 yX12_isPart wsX12_isPart) := goodIn_app (goodIn_of _ (by decide +kernel)) ggX12_never_X12_isPart
set_option maxRecDepth 20000 in
theorem ggX12_never_X12_isSetting : GoodIn wsX12_never wsX12_isSetting := goodIn_r _ [20, 21, 11, 12, 4, 13] (by decide +kernel) (by decide +kernel)
set_option maxRecDepth 20000 in
theorem gX12_never_X12_isSetting : GoodIn wsX12_never (va_wsS RX12 117 yX12_isSetting wsX12_isSetting) := goodIn_app (goodIn_of _ (by decide +kernel)) ggX12_never_X12_isSetting
theorem dX12_never_0 : decode cX12_never 0 = .ok (.aload_n 0, 1) := by decide +kernel
theorem dX12_never_1 : decode cX12_never 1 = .ok (.iload_n 1, 1) := by decide +kernel
theorem dX12_never_2 : decode cX12_never 2 = .ok (.invokevirtual 224, 3) := by decide +kernel
theorem dX12_never_5 : decode cX12_never 5 = .ok (.iconst (-1), 1) := by decide +kernel
theorem dX12_never_6 : decode cX12_never 6 = .ok (.if_icmp .eq 18, 3) := by decide +kernel
theorem dX12_never_9 : decode cX12_never 9 = .ok (.iload_n 2, 1) := by decide +kernel
theorem dX12_never_10 : decode cX12_never 10 = .ok (.invokestatic 140, 3) := by decide +kernel
theorem dX12_never_13 : decode cX12_never 13 = .ok (.ifCond .eq 11, 3) := by decide +kernel
theorem dX12_never_16 : decode cX12_never 16 = .ok (.iload_n 3, 1) := by decide +kernel
theorem dX12_never_17 : decode cX12_never 17 = .ok (.i2l, 1) := by decide +kernel
theorem dX12_never_18 : decode cX12_never 18 = .ok (.invokestatic 117, 3) := by decide +kernel
theorem dX12_never_21 : decode cX12_never 21 = .ok (.ifCond .ne 5, 3) := by decide +kernel
theorem dX12_never_24 : decode cX12_never 24 = .ok (.iconst (-1), 1) := by decide +kernel
theorem dX12_never_25 : decode cX12_never 25 = .ok (.ireturn, 1) := by decide +kernel
theorem dX12_never_26 : decode cX12_never 26 = .ok (.aload_n 0, 1) := by decide +kernel
theorem dX12_never_27 : decode cX12_never 27 = .ok (.iload_n 1, 1) := by decide +kernel
theorem dX12_never_28 : decode cX12_never 28 = .ok (.invokevirtual 224, 3) := by decide +kernel
theorem dX12_never_31 : decode cX12_never 31 = .ok (.ifCond .ge 11, 3) := by decide +kernel
theorem dX12_never_34 : decode cX12_never 34 = .ok (.aload_n 0, 1) := by decide +kernel
theorem dX12_never_35 : decode cX12_never 35 = .ok (.iload_n 1, 1) := by decide +kernel
theorem dX12_never_36 : decode cX12_never 36 = .ok (.invokevirtual 224, 3) := by decide +kernel
theorem dX12_never_39 : decode cX12_never 39 = .ok (.goto 10, 3) := by decide +kernel
theorem dX12_never_49 : decode cX12_never 49 = .ok (.ireturn, 1) := by decide +kernel
set_option maxRecDepth 20000 in
theorem ggX12_best_X12_bytesIs : GoodIn wsX12_best wsX12_bytesIs := goodIn_r _ [6, 7, 8, 9, 5, 10, 11, 12, 13, 14, 110, 111, 112, 113, 114, 115, 116, 117, 118, 119, 120, 121, 122, 123, 124, 125, 126, 127, 128, 129, 130, 131, 132, 133, 134, 135, 136, 137, 138, 139, 140, 141, 142, 143, 144, 145, 146, 147, 148, 149, 150, 151, 152, 153, 154, 155, 156, 157, 158, 159, 160, 161, 162, 163, 164] (by decide +kernel) (by decide +kernel)
set_option maxRecDepth 20000 in
theorem gX12_best_X12_bytesIs : GoodIn wsX12_best (wsV RX12 224 RX12 yX12_bytesIs wsX12_bytesIs) := goodIn_app (goodIn_of _ (by decide +kernel)) ggX12_best_X12_bytesIs
set_option maxRecDepth 20000 in
theorem ggX12_best_X12_isPart : GoodIn wsX12_best wsX12_isPart := goodIn_r _ [17, 18, 12, 13, 5, 14] (by decide +kernel) (by decide +kernel)
set_option maxRecDepth 20000 in
theorem gX12_best_X12_isPart : GoodIn wsX12_best (va_wsS RX12 140 yX12_isPart wsX12_isPart) := goodIn_app (goodIn_of _ (by decide +kernel)) ggX12_best_X12_isPart
set_option maxRecDepth 20000 in
theorem ggX12_best_X12_within : GoodIn wsX12_best wsX12_within := goodIn_r _ [14] (by decide +kernel) (by decide +kernel)
set_option maxRecDepth 20000 in
theorem gX12_best_X12_within : GoodIn wsX12_best (va_wsS RX12 109 yX12_within wsX12_within) := goodIn_app (goodIn_of _ (by decide +kernel)) ggX12_best_X12_within
theorem dX12_best_0 : decode cX12_best 0 = .ok (.aload_n 0, 1) := by decide +kernel
theorem dX12_best_1 : decode cX12_best 1 = .ok (.iload_n 1, 1) := by decide +kernel
theorem dX12_best_2 : decode cX12_best 2 = .ok (.invokevirtual 224, 3) := by decide +kernel
theorem dX12_best_5 : decode cX12_best 5 = .ok (.iconst (-1), 1) := by decide +kernel
theorem dX12_best_6 : decode cX12_best 6 = .ok (.if_icmp .eq 22, 3) := by decide +kernel
theorem dX12_best_9 : decode cX12_best 9 = .ok (.iload_n 2, 1) := by decide +kernel
theorem dX12_best_10 : decode cX12_best 10 = .ok (.invokestatic 140, 3) := by decide +kernel
theorem dX12_best_13 : decode cX12_best 13 = .ok (.ifCond .eq 15, 3) := by decide +kernel
theorem dX12_best_16 : decode cX12_best 16 = .ok (.iload_n 3, 1) := by decide +kernel
theorem dX12_best_17 : decode cX12_best 17 = .ok (.i2l, 1) := by decide +kernel
theorem dX12_best_18 : decode cX12_best 18 = .ok (.lconst 0, 1) := by decide +kernel
theorem dX12_best_19 : decode cX12_best 19 = .ok (.ldc2_w 230, 3) := by decide +kernel
theorem dX12_best_22 : decode cX12_best 22 = .ok (.invokestatic 109, 3) := by decide +kernel
theorem dX12_best_25 : decode cX12_best 25 = .ok (.ifCond .ne 5, 3) := by decide +kernel
theorem dX12_best_28 : decode cX12_best 28 = .ok (.iconst (-1), 1) := by decide +kernel
theorem dX12_best_29 : decode cX12_best 29 = .ok (.ireturn, 1) := by decide +kernel
theorem dX12_best_30 : decode cX12_best 30 = .ok (.aload_n 0, 1) := by decide +kernel
theorem dX12_best_31 : decode cX12_best 31 = .ok (.iload_n 1, 1) := by decide +kernel
theorem dX12_best_32 : decode cX12_best 32 = .ok (.invokevirtual 224, 3) := by decide +kernel
theorem dX12_best_35 : decode cX12_best 35 = .ok (.ifCond .ge 9, 3) := by decide +kernel
theorem dX12_best_38 : decode cX12_best 38 = .ok (.aload_n 0, 1) := by decide +kernel
theorem dX12_best_39 : decode cX12_best 39 = .ok (.iload_n 1, 1) := by decide +kernel
theorem dX12_best_40 : decode cX12_best 40 = .ok (.invokevirtual 224, 3) := by decide +kernel
theorem dX12_best_43 : decode cX12_best 43 = .ok (.ireturn, 1) := by decide +kernel
set_option maxRecDepth 20000 in
theorem ggX12_middle_X12_bytesIs : GoodIn wsX12_middle wsX12_bytesIs := goodIn_r _ [5, 6, 7, 8, 4, 9, 10, 11, 12, 13, 50, 51, 52, 53, 54, 55, 56, 57, 58, 59, 60, 61, 62, 63, 64, 65, 66, 67, 68, 69, 70, 71, 72, 73, 74, 75, 76, 77, 78, 79, 80, 81, 82, 83, 84, 85, 86, 87, 88, 89, 90, 91, 92, 93, 94, 95, 96, 97, 98, 99, 100, 101, 102, 103, 104] (by decide +kernel) (by decide +kernel)
set_option maxRecDepth 20000 in
theorem gX12_middle_X12_bytesIs : GoodIn wsX12_middle (wsV RX12 224 RX12 yX12_bytesIs wsX12_bytesIs) := goodIn_app (goodIn_of _ (by decide +kernel)) ggX12_middle_X12_bytesIs
set_option maxRecDepth 20000 in
theorem ggX12_middle_X12_isPart : GoodIn wsX12_middle wsX12_isPart := goodIn_r _ [16, 17, 11, 12, 4, 13] (by decide +kernel) (by decide +kernel)
set_option maxRecDepth 20000 in
theorem gX12_middle_X12_isPart : GoodIn wsX12_middle (va_wsS RX12 140 yX12_isPart wsX12_isPart) := goodIn_app (goodIn_of _ (by decide +kernel)) ggX12_middle_X12_isPart
theorem dX12_middle_0 : decode cX12_middle 0 = .ok (.aload_n 0, 1) := by decide +kernel
theorem dX12_middle_1 : decode cX12_middle 1 = .ok (.iload_n 1, 1) := by decide +kernel
theorem dX12_middle_2 : decode cX12_middle 2 = .ok (.invokevirtual 224, 3) := by decide +kernel
theorem dX12_middle_5 : decode cX12_middle 5 = .ok (.iconst (-1), 1) := by decide +kernel
theorem dX12_middle_6 : decode cX12_middle 6 = .ok (.if_icmp .eq 10, 3) := by decide +kernel
theorem dX12_middle_9 : decode cX12_middle 9 = .ok (.iload_n 2, 1) := by decide +kernel
theorem dX12_middle_10 : decode cX12_middle 10 = .ok (.invokestatic 140, 3) := by decide +kernel
theorem dX12_middle_13 : decode cX12_middle 13 = .ok (.ifCond .ne 5, 3) := by decide +kernel
theorem dX12_middle_16 : decode cX12_middle 16 = .ok (.iconst (-1), 1) := by decide +kernel
theorem dX12_middle_17 : decode cX12_middle 17 = .ok (.ireturn, 1) := by decide +kernel
theorem dX12_middle_18 : decode cX12_middle 18 = .ok (.aload_n 0, 1) := by decide +kernel
theorem dX12_middle_19 : decode cX12_middle 19 = .ok (.iload_n 1, 1) := by decide +kernel
theorem dX12_middle_20 : decode cX12_middle 20 = .ok (.invokevirtual 224, 3) := by decide +kernel
theorem dX12_middle_23 : decode cX12_middle 23 = .ok (.ifCond .ge 9, 3) := by decide +kernel
theorem dX12_middle_26 : decode cX12_middle 26 = .ok (.aload_n 0, 1) := by decide +kernel
theorem dX12_middle_27 : decode cX12_middle 27 = .ok (.iload_n 1, 1) := by decide +kernel
theorem dX12_middle_28 : decode cX12_middle 28 = .ok (.invokevirtual 224, 3) := by decide +kernel
theorem dX12_middle_31 : decode cX12_middle 31 = .ok (.ireturn, 1) := by decide +kernel
theorem dX12_slipped_0 : decode cX12_slipped 0 = .ok (.iload_n 2, 1) := by decide +kernel
theorem dX12_slipped_1 : decode cX12_slipped 1 = .ok (.aload_n 0, 1) := by decide +kernel
theorem dX12_slipped_2 : decode cX12_slipped 2 = .ok (.getfield 9, 3) := by decide +kernel
theorem dX12_slipped_5 : decode cX12_slipped 5 = .ok (.bipush 64, 2) := by decide +kernel
theorem dX12_slipped_7 : decode cX12_slipped 7 = .ok (.iload_n 1, 1) := by decide +kernel
theorem dX12_slipped_8 : decode cX12_slipped 8 = .ok (.iadd, 1) := by decide +kernel
theorem dX12_slipped_9 : decode cX12_slipped 9 = .ok (.iaload, 1) := by decide +kernel
theorem dX12_slipped_10 : decode cX12_slipped 10 = .ok (.isub, 1) := by decide +kernel
theorem dX12_slipped_11 : decode cX12_slipped 11 = .ok (.istore_n 3, 1) := by decide +kernel
theorem dX12_slipped_12 : decode cX12_slipped 12 = .ok (.iload_n 3, 1) := by decide +kernel
theorem dX12_slipped_13 : decode cX12_slipped 13 = .ok (.ifCond .ge 7, 3) := by decide +kernel
theorem dX12_slipped_20 : decode cX12_slipped 20 = .ok (.iload_n 3, 1) := by decide +kernel
theorem dX12_slipped_21 : decode cX12_slipped 21 = .ok (.ireturn, 1) := by decide +kernel
set_option maxRecDepth 20000 in
theorem ggX12_shifts_X12_bytesIs : GoodIn wsX12_shifts wsX12_bytesIs := goodIn_r _ [7, 8, 9, 10, 6, 11, 12, 13, 14, 15, 112, 113, 114, 115, 116, 117, 118, 119, 120, 121, 122, 123, 124, 125, 126, 127, 128, 129, 130, 131, 132, 133, 134, 135, 136, 137, 138, 139, 140, 141, 142, 143, 144, 145, 146, 147, 148, 149, 150, 151, 152, 153, 154, 155, 156, 157, 158, 159, 160, 161, 162, 163, 164, 165, 166] (by decide +kernel) (by decide +kernel)
set_option maxRecDepth 20000 in
theorem gX12_shifts_X12_bytesIs : GoodIn wsX12_shifts (wsV RX12 224 RX12 yX12_bytesIs wsX12_bytesIs) := goodIn_app (goodIn_of _ (by decide +kernel)) ggX12_shifts_X12_bytesIs
set_option maxRecDepth 20000 in
theorem ggX12_shifts_X12_isPart : GoodIn wsX12_shifts wsX12_isPart := goodIn_r _ [18, 19, 13, 14, 6, 15] (by decide +kernel) (by decide +kernel)
set_option maxRecDepth 20000 in
theorem gX12_shifts_X12_isPart : GoodIn wsX12_shifts (va_wsS RX12 140 yX12_isPart wsX12_isPart) := goodIn_app (goodIn_of _ (by decide +kernel)) ggX12_shifts_X12_isPart
theorem dX12_shifts_0 : decode cX12_shifts 0 = .ok (.aload_n 0, 1) := by decide +kernel
theorem dX12_shifts_1 : decode cX12_shifts 1 = .ok (.iload_n 1, 1) := by decide +kernel
theorem dX12_shifts_2 : decode cX12_shifts 2 = .ok (.invokevirtual 224, 3) := by decide +kernel
theorem dX12_shifts_5 : decode cX12_shifts 5 = .ok (.iconst (-1), 1) := by decide +kernel
theorem dX12_shifts_6 : decode cX12_shifts 6 = .ok (.if_icmp .eq 15, 3) := by decide +kernel
theorem dX12_shifts_9 : decode cX12_shifts 9 = .ok (.iload_n 2, 1) := by decide +kernel
theorem dX12_shifts_10 : decode cX12_shifts 10 = .ok (.invokestatic 140, 3) := by decide +kernel
theorem dX12_shifts_13 : decode cX12_shifts 13 = .ok (.ifCond .eq 8, 3) := by decide +kernel
theorem dX12_shifts_16 : decode cX12_shifts 16 = .ok (.iload_n 3, 1) := by decide +kernel
theorem dX12_shifts_17 : decode cX12_shifts 17 = .ok (.iconst (-1), 1) := by decide +kernel
theorem dX12_shifts_18 : decode cX12_shifts 18 = .ok (.if_icmp .ge 5, 3) := by decide +kernel
theorem dX12_shifts_21 : decode cX12_shifts 21 = .ok (.iconst (-1), 1) := by decide +kernel
theorem dX12_shifts_22 : decode cX12_shifts 22 = .ok (.ireturn, 1) := by decide +kernel
theorem dX12_shifts_23 : decode cX12_shifts 23 = .ok (.aload_n 0, 1) := by decide +kernel
theorem dX12_shifts_24 : decode cX12_shifts 24 = .ok (.iload_n 1, 1) := by decide +kernel
theorem dX12_shifts_25 : decode cX12_shifts 25 = .ok (.invokevirtual 224, 3) := by decide +kernel
theorem dX12_shifts_28 : decode cX12_shifts 28 = .ok (.ifCond .ge 9, 3) := by decide +kernel
theorem dX12_shifts_31 : decode cX12_shifts 31 = .ok (.aload_n 0, 1) := by decide +kernel
theorem dX12_shifts_32 : decode cX12_shifts 32 = .ok (.iload_n 1, 1) := by decide +kernel
theorem dX12_shifts_33 : decode cX12_shifts 33 = .ok (.invokevirtual 224, 3) := by decide +kernel
theorem dX12_shifts_36 : decode cX12_shifts 36 = .ok (.ireturn, 1) := by decide +kernel
set_option maxRecDepth 20000 in
theorem ggX12_once_X12_bytesIs : GoodIn wsX12_once wsX12_bytesIs := goodIn_r _ [9, 10, 11, 12, 8, 13, 14, 15, 16, 17, 107, 108, 109, 110, 111, 112, 113, 114, 115, 116, 117, 118, 119, 120, 121, 122, 123, 124, 125, 126, 127, 128, 129, 130, 131, 132, 133, 134, 135, 136, 137, 138, 139, 140, 141, 142, 143, 144, 145, 146, 147, 148, 149, 150, 151, 152, 153, 154, 155, 156, 157, 158, 159, 160, 161] (by decide +kernel) (by decide +kernel)
set_option maxRecDepth 20000 in
theorem gX12_once_X12_bytesIs : GoodIn wsX12_once (wsV RX12 224 RX12 yX12_bytesIs wsX12_bytesIs) := goodIn_app (goodIn_of _ (by decide +kernel)) ggX12_once_X12_bytesIs
set_option maxRecDepth 20000 in
theorem ggX12_once_X12_isPart : GoodIn wsX12_once wsX12_isPart := goodIn_r _ [20, 1, 15, 16, 8, 17] (by decide +kernel) (by decide +kernel)
set_option maxRecDepth 20000 in
theorem gX12_once_X12_isPart : GoodIn wsX12_once (va_wsS RX12 140 yX12_isPart wsX12_isPart) := goodIn_app (goodIn_of _ (by decide +kernel)) ggX12_once_X12_isPart
set_option maxRecDepth 20000 in
theorem ggX12_once_X12_within : GoodIn wsX12_once wsX12_within := goodIn_r _ [17] (by decide +kernel) (by decide +kernel)
set_option maxRecDepth 20000 in
theorem gX12_once_X12_within : GoodIn wsX12_once (va_wsS RX12 109 yX12_within wsX12_within) := goodIn_app (goodIn_of _ (by decide +kernel)) ggX12_once_X12_within
theorem dX12_once_0 : decode cX12_once 0 = .ok (.aload_n 0, 1) := by decide +kernel
theorem dX12_once_1 : decode cX12_once 1 = .ok (.iload_n 1, 1) := by decide +kernel
theorem dX12_once_2 : decode cX12_once 2 = .ok (.invokevirtual 224, 3) := by decide +kernel
theorem dX12_once_5 : decode cX12_once 5 = .ok (.iconst (-1), 1) := by decide +kernel
theorem dX12_once_6 : decode cX12_once 6 = .ok (.if_icmp .eq 22, 3) := by decide +kernel
theorem dX12_once_9 : decode cX12_once 9 = .ok (.iload_n 2, 1) := by decide +kernel
theorem dX12_once_10 : decode cX12_once 10 = .ok (.invokestatic 140, 3) := by decide +kernel
theorem dX12_once_13 : decode cX12_once 13 = .ok (.ifCond .eq 15, 3) := by decide +kernel
theorem dX12_once_16 : decode cX12_once 16 = .ok (.iload_n 3, 1) := by decide +kernel
theorem dX12_once_17 : decode cX12_once 17 = .ok (.i2l, 1) := by decide +kernel
theorem dX12_once_18 : decode cX12_once 18 = .ok (.lconst 0, 1) := by decide +kernel
theorem dX12_once_19 : decode cX12_once 19 = .ok (.ldc2_w 113, 3) := by decide +kernel
theorem dX12_once_22 : decode cX12_once 22 = .ok (.invokestatic 109, 3) := by decide +kernel
theorem dX12_once_25 : decode cX12_once 25 = .ok (.ifCond .ne 5, 3) := by decide +kernel
theorem dX12_once_28 : decode cX12_once 28 = .ok (.iconst (-1), 1) := by decide +kernel
theorem dX12_once_29 : decode cX12_once 29 = .ok (.ireturn, 1) := by decide +kernel
theorem dX12_once_30 : decode cX12_once 30 = .ok (.aload_n 0, 1) := by decide +kernel
theorem dX12_once_31 : decode cX12_once 31 = .ok (.iload_n 1, 1) := by decide +kernel
theorem dX12_once_32 : decode cX12_once 32 = .ok (.invokevirtual 224, 3) := by decide +kernel
theorem dX12_once_35 : decode cX12_once 35 = .ok (.ifCond .ge 9, 3) := by decide +kernel
theorem dX12_once_38 : decode cX12_once 38 = .ok (.aload_n 0, 1) := by decide +kernel
theorem dX12_once_39 : decode cX12_once 39 = .ok (.iload_n 1, 1) := by decide +kernel
theorem dX12_once_40 : decode cX12_once 40 = .ok (.invokevirtual 224, 3) := by decide +kernel
theorem dX12_once_43 : decode cX12_once 43 = .ok (.ireturn, 1) := by decide +kernel
set_option maxRecDepth 20000 in
theorem ggX12_week_X12_bytesIs : GoodIn wsX12_week wsX12_bytesIs := goodIn_r _ [8, 9, 10, 11, 7, 12, 13, 14, 15, 16, 138, 139, 140, 141, 142, 143, 144, 145, 146, 147, 148, 149, 150, 151, 152, 153, 154, 155, 156, 157, 158, 159, 160, 161, 162, 163, 164, 165, 166, 167, 168, 169, 170, 171, 172, 173, 174, 175, 176, 177, 178, 179, 180, 181, 182, 183, 184, 185, 186, 187, 188, 189, 190, 191, 192] (by decide +kernel) (by decide +kernel)
set_option maxRecDepth 20000 in
theorem gX12_week_X12_bytesIs : GoodIn wsX12_week (wsV RX12 224 RX12 yX12_bytesIs wsX12_bytesIs) := goodIn_app (goodIn_of _ (by decide +kernel)) ggX12_week_X12_bytesIs
set_option maxRecDepth 20000 in
theorem ggX12_week_X12_within : GoodIn wsX12_week wsX12_within := goodIn_r _ [16] (by decide +kernel) (by decide +kernel)
set_option maxRecDepth 20000 in
theorem gX12_week_X12_within : GoodIn wsX12_week (va_wsS RX12 109 yX12_within wsX12_within) := goodIn_app (goodIn_of _ (by decide +kernel)) ggX12_week_X12_within
theorem dX12_week_0 : decode cX12_week 0 = .ok (.aload_n 0, 1) := by decide +kernel
theorem dX12_week_1 : decode cX12_week 1 = .ok (.iload_n 1, 1) := by decide +kernel
theorem dX12_week_2 : decode cX12_week 2 = .ok (.invokevirtual 224, 3) := by decide +kernel
theorem dX12_week_5 : decode cX12_week 5 = .ok (.iconst (-1), 1) := by decide +kernel
theorem dX12_week_6 : decode cX12_week 6 = .ok (.if_icmp .eq 15, 3) := by decide +kernel
theorem dX12_week_9 : decode cX12_week 9 = .ok (.iload_n 2, 1) := by decide +kernel
theorem dX12_week_10 : decode cX12_week 10 = .ok (.i2l, 1) := by decide +kernel
theorem dX12_week_11 : decode cX12_week 11 = .ok (.lconst 0, 1) := by decide +kernel
theorem dX12_week_12 : decode cX12_week 12 = .ok (.ldc2_w 113, 3) := by decide +kernel
theorem dX12_week_15 : decode cX12_week 15 = .ok (.invokestatic 109, 3) := by decide +kernel
theorem dX12_week_18 : decode cX12_week 18 = .ok (.ifCond .ne 5, 3) := by decide +kernel
theorem dX12_week_21 : decode cX12_week 21 = .ok (.iconst (-1), 1) := by decide +kernel
theorem dX12_week_22 : decode cX12_week 22 = .ok (.ireturn, 1) := by decide +kernel
theorem dX12_week_23 : decode cX12_week 23 = .ok (.aload_n 0, 1) := by decide +kernel
theorem dX12_week_24 : decode cX12_week 24 = .ok (.iload_n 1, 1) := by decide +kernel
theorem dX12_week_25 : decode cX12_week 25 = .ok (.invokevirtual 224, 3) := by decide +kernel
theorem dX12_week_28 : decode cX12_week 28 = .ok (.ifCond .ge 9, 3) := by decide +kernel
theorem dX12_week_31 : decode cX12_week 31 = .ok (.aload_n 0, 1) := by decide +kernel
theorem dX12_week_32 : decode cX12_week 32 = .ok (.iload_n 1, 1) := by decide +kernel
theorem dX12_week_33 : decode cX12_week 33 = .ok (.invokevirtual 224, 3) := by decide +kernel
theorem dX12_week_36 : decode cX12_week 36 = .ok (.ireturn, 1) := by decide +kernel
set_option maxRecDepth 20000 in
theorem ggX12_stands_X12_bytesIs : GoodIn wsX12_stands wsX12_bytesIs := goodIn_r _ [7, 8, 9, 10, 6, 11, 12, 13, 14, 15, 141, 142, 143, 144, 145, 146, 147, 148, 149, 150, 151, 152, 153, 154, 155, 156, 157, 158, 159, 160, 161, 162, 163, 164, 165, 166, 167, 168, 169, 170, 171, 172, 173, 174, 175, 176, 177, 178, 179, 180, 181, 182, 183, 184, 185, 186, 187, 188, 189, 190, 191, 192, 193, 194, 195] (by decide +kernel) (by decide +kernel)
set_option maxRecDepth 20000 in
theorem gX12_stands_X12_bytesIs : GoodIn wsX12_stands (wsV RX12 224 RX12 yX12_bytesIs wsX12_bytesIs) := goodIn_app (goodIn_of _ (by decide +kernel)) ggX12_stands_X12_bytesIs
set_option maxRecDepth 20000 in
theorem ggX12_stands_X12_isPart : GoodIn wsX12_stands wsX12_isPart := goodIn_r _ [18, 19, 13, 14, 6, 15] (by decide +kernel) (by decide +kernel)
set_option maxRecDepth 20000 in
theorem gX12_stands_X12_isPart : GoodIn wsX12_stands (va_wsS RX12 140 yX12_isPart wsX12_isPart) := goodIn_app (goodIn_of _ (by decide +kernel)) ggX12_stands_X12_isPart
theorem dX12_stands_0 : decode cX12_stands 0 = .ok (.aload_n 0, 1) := by decide +kernel
theorem dX12_stands_1 : decode cX12_stands 1 = .ok (.iload_n 1, 1) := by decide +kernel
theorem dX12_stands_2 : decode cX12_stands 2 = .ok (.invokevirtual 224, 3) := by decide +kernel
theorem dX12_stands_5 : decode cX12_stands 5 = .ok (.iconst (-1), 1) := by decide +kernel
theorem dX12_stands_6 : decode cX12_stands 6 = .ok (.if_icmp .eq 14, 3) := by decide +kernel
theorem dX12_stands_9 : decode cX12_stands 9 = .ok (.iload_n 2, 1) := by decide +kernel
theorem dX12_stands_10 : decode cX12_stands 10 = .ok (.invokestatic 140, 3) := by decide +kernel
theorem dX12_stands_13 : decode cX12_stands 13 = .ok (.ifCond .eq 7, 3) := by decide +kernel
theorem dX12_stands_16 : decode cX12_stands 16 = .ok (.iload_n 3, 1) := by decide +kernel
theorem dX12_stands_17 : decode cX12_stands 17 = .ok (.ifCond .ge 5, 3) := by decide +kernel
theorem dX12_stands_20 : decode cX12_stands 20 = .ok (.iconst (-1), 1) := by decide +kernel
theorem dX12_stands_21 : decode cX12_stands 21 = .ok (.ireturn, 1) := by decide +kernel
theorem dX12_stands_22 : decode cX12_stands 22 = .ok (.aload_n 0, 1) := by decide +kernel
theorem dX12_stands_23 : decode cX12_stands 23 = .ok (.iload_n 1, 1) := by decide +kernel
theorem dX12_stands_24 : decode cX12_stands 24 = .ok (.invokevirtual 224, 3) := by decide +kernel
theorem dX12_stands_27 : decode cX12_stands 27 = .ok (.ifCond .ge 9, 3) := by decide +kernel
theorem dX12_stands_30 : decode cX12_stands 30 = .ok (.aload_n 0, 1) := by decide +kernel
theorem dX12_stands_31 : decode cX12_stands 31 = .ok (.iload_n 1, 1) := by decide +kernel
theorem dX12_stands_32 : decode cX12_stands 32 = .ok (.invokevirtual 224, 3) := by decide +kernel
theorem dX12_stands_35 : decode cX12_stands 35 = .ok (.ireturn, 1) := by decide +kernel
set_option maxRecDepth 20000 in
theorem ggX12_pays_X12_bytesIs : GoodIn wsX12_pays wsX12_bytesIs := goodIn_r _ [7, 8, 9, 10, 6, 11, 12, 13, 14, 15, 137, 138, 139, 140, 141, 142, 143, 144, 145, 146, 147, 148, 149, 150, 151, 152, 153, 154, 155, 156, 157, 158, 159, 160, 161, 162, 163, 164, 165, 166, 167, 168, 169, 170, 171, 172, 173, 174, 175, 176, 177, 178, 179, 180, 181, 182, 183, 184, 185, 186, 187, 188, 189, 190, 191] (by decide +kernel) (by decide +kernel)
set_option maxRecDepth 20000 in
theorem gX12_pays_X12_bytesIs : GoodIn wsX12_pays (wsV RX12 224 RX12 yX12_bytesIs wsX12_bytesIs) := goodIn_app (goodIn_of _ (by decide +kernel)) ggX12_pays_X12_bytesIs
set_option maxRecDepth 20000 in
theorem ggX12_pays_X12_isSitter : GoodIn wsX12_pays wsX12_isSitter := goodIn_r _ [19, 20, 13, 14, 6, 15, 137, 138, 139, 140, 141, 142, 143, 144, 145, 146, 147, 148, 149, 150, 151, 152, 153, 154, 155, 156, 157, 158, 159, 160, 161, 162, 163, 164, 165, 166, 167, 168, 169, 170, 171, 172, 173, 174, 175, 176, 177, 178, 179, 180, 181, 182, 183, 184, 185, 186, 187, 188, 189, 190, 191] (by decide +kernel) (by decide +kernel)
set_option maxRecDepth 20000 in
theorem gX12_pays_X12_isSitter : GoodIn wsX12_pays (wsV RX12 135 RX12 yX12_isSitter wsX12_isSitter) := goodIn_app (goodIn_of _ (by decide +kernel)) ggX12_pays_X12_isSitter
theorem dX12_pays_0 : decode cX12_pays 0 = .ok (.aload_n 0, 1) := by decide +kernel
theorem dX12_pays_1 : decode cX12_pays 1 = .ok (.iload_n 1, 1) := by decide +kernel
theorem dX12_pays_2 : decode cX12_pays 2 = .ok (.invokevirtual 224, 3) := by decide +kernel
theorem dX12_pays_5 : decode cX12_pays 5 = .ok (.iconst (-1), 1) := by decide +kernel
theorem dX12_pays_6 : decode cX12_pays 6 = .ok (.if_icmp .eq 22, 3) := by decide +kernel
theorem dX12_pays_9 : decode cX12_pays 9 = .ok (.aload_n 0, 1) := by decide +kernel
theorem dX12_pays_10 : decode cX12_pays 10 = .ok (.iload_n 2, 1) := by decide +kernel
theorem dX12_pays_11 : decode cX12_pays 11 = .ok (.i2l, 1) := by decide +kernel
theorem dX12_pays_12 : decode cX12_pays 12 = .ok (.invokevirtual 135, 3) := by decide +kernel
theorem dX12_pays_15 : decode cX12_pays 15 = .ok (.ifCond .eq 13, 3) := by decide +kernel
theorem dX12_pays_28 : decode cX12_pays 28 = .ok (.iconst (-1), 1) := by decide +kernel
theorem dX12_pays_29 : decode cX12_pays 29 = .ok (.ireturn, 1) := by decide +kernel
set_option maxRecDepth 20000 in
theorem ggX12_memories_X12_bytesIs : GoodIn wsX12_memories wsX12_bytesIs := goodIn_r _ [8, 9, 10, 11, 7, 12, 13, 14, 15, 16, 141, 142, 143, 144, 145, 146, 147, 148, 149, 150, 151, 152, 153, 154, 155, 156, 157, 158, 159, 160, 161, 162, 163, 164, 165, 166, 167, 168, 169, 170, 171, 172, 173, 174, 175, 176, 177, 178, 179, 180, 181, 182, 183, 184, 185, 186, 187, 188, 189, 190, 191, 192, 193, 194, 195] (by decide +kernel) (by decide +kernel)
set_option maxRecDepth 20000 in
theorem gX12_memories_X12_bytesIs : GoodIn wsX12_memories (wsV RX12 224 RX12 yX12_bytesIs wsX12_bytesIs) := goodIn_app (goodIn_of _ (by decide +kernel)) ggX12_memories_X12_bytesIs
set_option maxRecDepth 20000 in
theorem ggX12_memories_X12_within : GoodIn wsX12_memories wsX12_within := goodIn_r _ [16] (by decide +kernel) (by decide +kernel)
set_option maxRecDepth 20000 in
theorem gX12_memories_X12_within : GoodIn wsX12_memories (va_wsS RX12 109 yX12_within wsX12_within) := goodIn_app (goodIn_of _ (by decide +kernel)) ggX12_memories_X12_within
theorem dX12_memories_0 : decode cX12_memories 0 = .ok (.aload_n 0, 1) := by decide +kernel
theorem dX12_memories_1 : decode cX12_memories 1 = .ok (.iload_n 1, 1) := by decide +kernel
theorem dX12_memories_2 : decode cX12_memories 2 = .ok (.invokevirtual 224, 3) := by decide +kernel
theorem dX12_memories_5 : decode cX12_memories 5 = .ok (.iconst (-1), 1) := by decide +kernel
theorem dX12_memories_6 : decode cX12_memories 6 = .ok (.if_icmp .eq 25, 3) := by decide +kernel
theorem dX12_memories_9 : decode cX12_memories 9 = .ok (.iload_n 2, 1) := by decide +kernel
theorem dX12_memories_10 : decode cX12_memories 10 = .ok (.i2l, 1) := by decide +kernel
theorem dX12_memories_11 : decode cX12_memories 11 = .ok (.lconst 0, 1) := by decide +kernel
theorem dX12_memories_12 : decode cX12_memories 12 = .ok (.ldc2_w 230, 3) := by decide +kernel
theorem dX12_memories_15 : decode cX12_memories 15 = .ok (.invokestatic 109, 3) := by decide +kernel
theorem dX12_memories_18 : decode cX12_memories 18 = .ok (.ifCond .eq 13, 3) := by decide +kernel
theorem dX12_memories_21 : decode cX12_memories 21 = .ok (.iload_n 3, 1) := by decide +kernel
theorem dX12_memories_22 : decode cX12_memories 22 = .ok (.i2l, 1) := by decide +kernel
theorem dX12_memories_23 : decode cX12_memories 23 = .ok (.lconst 0, 1) := by decide +kernel
theorem dX12_memories_24 : decode cX12_memories 24 = .ok (.lconst 1, 1) := by decide +kernel
theorem dX12_memories_25 : decode cX12_memories 25 = .ok (.invokestatic 109, 3) := by decide +kernel
theorem dX12_memories_28 : decode cX12_memories 28 = .ok (.ifCond .ne 5, 3) := by decide +kernel
theorem dX12_memories_31 : decode cX12_memories 31 = .ok (.iconst (-1), 1) := by decide +kernel
theorem dX12_memories_32 : decode cX12_memories 32 = .ok (.ireturn, 1) := by decide +kernel
theorem dX12_memories_33 : decode cX12_memories 33 = .ok (.aload_n 0, 1) := by decide +kernel
theorem dX12_memories_34 : decode cX12_memories 34 = .ok (.iload_n 1, 1) := by decide +kernel
theorem dX12_memories_35 : decode cX12_memories 35 = .ok (.invokevirtual 224, 3) := by decide +kernel
theorem dX12_memories_38 : decode cX12_memories 38 = .ok (.ifCond .ge 9, 3) := by decide +kernel
theorem dX12_memories_41 : decode cX12_memories 41 = .ok (.aload_n 0, 1) := by decide +kernel
theorem dX12_memories_42 : decode cX12_memories 42 = .ok (.iload_n 1, 1) := by decide +kernel
theorem dX12_memories_43 : decode cX12_memories 43 = .ok (.invokevirtual 224, 3) := by decide +kernel
theorem dX12_memories_46 : decode cX12_memories 46 = .ok (.ireturn, 1) := by decide +kernel
set_option maxRecDepth 20000 in
theorem ggX12_marked_X12_bytesIs : GoodIn wsX12_marked wsX12_bytesIs := goodIn_r _ [6, 7, 8, 9, 5, 10, 11, 12, 13, 14, 137, 138, 139, 140, 141, 142, 143, 144, 145, 146, 147, 148, 149, 150, 151, 152, 153, 154, 155, 156, 157, 158, 159, 160, 161, 162, 163, 164, 165, 166, 167, 168, 169, 170, 171, 172, 173, 174, 175, 176, 177, 178, 179, 180, 181, 182, 183, 184, 185, 186, 187, 188, 189, 190, 191] (by decide +kernel) (by decide +kernel)
set_option maxRecDepth 20000 in
theorem gX12_marked_X12_bytesIs : GoodIn wsX12_marked (wsV RX12 224 RX12 yX12_bytesIs wsX12_bytesIs) := goodIn_app (goodIn_of _ (by decide +kernel)) ggX12_marked_X12_bytesIs
theorem dX12_marked_0 : decode cX12_marked 0 = .ok (.aload_n 0, 1) := by decide +kernel
theorem dX12_marked_1 : decode cX12_marked 1 = .ok (.iload_n 1, 1) := by decide +kernel
theorem dX12_marked_2 : decode cX12_marked 2 = .ok (.invokevirtual 224, 3) := by decide +kernel
theorem dX12_marked_5 : decode cX12_marked 5 = .ok (.ifCond .ge 9, 3) := by decide +kernel
theorem dX12_marked_8 : decode cX12_marked 8 = .ok (.aload_n 0, 1) := by decide +kernel
theorem dX12_marked_9 : decode cX12_marked 9 = .ok (.iload_n 1, 1) := by decide +kernel
theorem dX12_marked_10 : decode cX12_marked 10 = .ok (.invokevirtual 224, 3) := by decide +kernel
theorem dX12_marked_13 : decode cX12_marked 13 = .ok (.ireturn, 1) := by decide +kernel
set_option maxRecDepth 20000 in
theorem ggX12_wilful_X12_bytesIs : GoodIn wsX12_wilful wsX12_bytesIs := goodIn_r _ [8, 9, 10, 11, 7, 12, 13, 14, 15, 16, 142, 143, 144, 145, 146, 147, 148, 149, 150, 151, 152, 153, 154, 155, 156, 157, 158, 159, 160, 161, 162, 163, 164, 165, 166, 167, 168, 169, 170, 171, 172, 173, 174, 175, 176, 177, 178, 179, 180, 181, 182, 183, 184, 185, 186, 187, 188, 189, 190, 191, 192, 193, 194, 195, 196] (by decide +kernel) (by decide +kernel)
set_option maxRecDepth 20000 in
theorem gX12_wilful_X12_bytesIs : GoodIn wsX12_wilful (wsV RX12 224 RX12 yX12_bytesIs wsX12_bytesIs) := goodIn_app (goodIn_of _ (by decide +kernel)) ggX12_wilful_X12_bytesIs
theorem dX12_wilful_0 : decode cX12_wilful 0 = .ok (.aload_n 0, 1) := by decide +kernel
theorem dX12_wilful_1 : decode cX12_wilful 1 = .ok (.iload_n 1, 1) := by decide +kernel
theorem dX12_wilful_2 : decode cX12_wilful 2 = .ok (.invokevirtual 224, 3) := by decide +kernel
theorem dX12_wilful_5 : decode cX12_wilful 5 = .ok (.ifCond .lt 20, 3) := by decide +kernel
theorem dX12_wilful_25 : decode cX12_wilful 25 = .ok (.ldc_w 308, 3) := by decide +kernel
theorem dX12_wilful_28 : decode cX12_wilful 28 = .ok (.ireturn, 1) := by decide +kernel
set_option maxRecDepth 20000 in
theorem ggX12_chairs_X12_bytesIs : GoodIn wsX12_chairs wsX12_bytesIs := goodIn_r _ [9, 10, 11, 12, 8, 13, 14, 15, 16, 17, 117, 118, 119, 120, 121, 122, 123, 124, 125, 126, 127, 128, 129, 130, 131, 132, 133, 134, 135, 136, 137, 138, 139, 140, 141, 142, 143, 144, 145, 146, 147, 148, 149, 150, 151, 152, 153, 154, 155, 156, 157, 158, 159, 160, 161, 162, 163, 164, 165, 166, 167, 168, 169, 170, 171] (by decide +kernel) (by decide +kernel)
set_option maxRecDepth 20000 in
theorem gX12_chairs_X12_bytesIs : GoodIn wsX12_chairs (wsV RX12 224 RX12 yX12_bytesIs wsX12_bytesIs) := goodIn_app (goodIn_of _ (by decide +kernel)) ggX12_chairs_X12_bytesIs
set_option maxRecDepth 20000 in
theorem ggX12_chairs_X12_isPart : GoodIn wsX12_chairs wsX12_isPart := goodIn_r _ [20, 21, 15, 16, 8, 17] (by decide +kernel) (by decide +kernel)
set_option maxRecDepth 20000 in
theorem gX12_chairs_X12_isPart : GoodIn wsX12_chairs (va_wsS RX12 140 yX12_isPart wsX12_isPart) := goodIn_app (goodIn_of _ (by decide +kernel)) ggX12_chairs_X12_isPart
set_option maxRecDepth 20000 in
theorem ggX12_chairs_X12_within : GoodIn wsX12_chairs wsX12_within := goodIn_r _ [17] (by decide +kernel) (by decide +kernel)
set_option maxRecDepth 20000 in
theorem gX12_chairs_X12_within : GoodIn wsX12_chairs (va_wsS RX12 109 yX12_within wsX12_within) := goodIn_app (goodIn_of _ (by decide +kernel)) ggX12_chairs_X12_within
set_option maxRecDepth 20000 in
theorem ggX12_chairs_X12_isSitter : GoodIn wsX12_chairs wsX12_isSitter := goodIn_r _ [25, 26, 15, 16, 8, 17, 117, 118, 119, 120, 121, 122, 123, 124, 125, 126, 127, 128, 129, 130, 131, 132, 133, 134, 135, 136, 137, 138, 139, 140, 141, 142, 143, 144, 145, 146, 147, 148, 149, 150, 151, 152, 153, 154, 155, 156, 157, 158, 159, 160, 161, 162, 163, 164, 165, 166, 167, 168, 169, 170, 171] (by decide +kernel) (by decide +kernel)
set_option maxRecDepth 20000 in
theorem gX12_chairs_X12_isSitter : GoodIn wsX12_chairs (wsV RX12 135 RX12 yX12_isSitter wsX12_isSitter) := goodIn_app (goodIn_of _ (by decide +kernel)) ggX12_chairs_X12_isSitter
theorem dX12_chairs_0 : decode cX12_chairs 0 = .ok (.aload_n 0, 1) := by decide +kernel
theorem dX12_chairs_1 : decode cX12_chairs 1 = .ok (.iload_n 1, 1) := by decide +kernel
theorem dX12_chairs_2 : decode cX12_chairs 2 = .ok (.invokevirtual 224, 3) := by decide +kernel
theorem dX12_chairs_5 : decode cX12_chairs 5 = .ok (.iconst (-1), 1) := by decide +kernel
theorem dX12_chairs_6 : decode cX12_chairs 6 = .ok (.if_icmp .eq 46, 3) := by decide +kernel
theorem dX12_chairs_9 : decode cX12_chairs 9 = .ok (.iload_n 2, 1) := by decide +kernel
theorem dX12_chairs_10 : decode cX12_chairs 10 = .ok (.ifCond .lt 42, 3) := by decide +kernel
theorem dX12_chairs_13 : decode cX12_chairs 13 = .ok (.iload_n 2, 1) := by decide +kernel
theorem dX12_chairs_14 : decode cX12_chairs 14 = .ok (.bipush 10, 2) := by decide +kernel
theorem dX12_chairs_16 : decode cX12_chairs 16 = .ok (.idiv, 1) := by decide +kernel
theorem dX12_chairs_17 : decode cX12_chairs 17 = .ok (.invokestatic 140, 3) := by decide +kernel
theorem dX12_chairs_20 : decode cX12_chairs 20 = .ok (.ifCond .eq 32, 3) := by decide +kernel
theorem dX12_chairs_23 : decode cX12_chairs 23 = .ok (.iload_n 2, 1) := by decide +kernel
theorem dX12_chairs_24 : decode cX12_chairs 24 = .ok (.bipush 10, 2) := by decide +kernel
theorem dX12_chairs_26 : decode cX12_chairs 26 = .ok (.irem, 1) := by decide +kernel
theorem dX12_chairs_27 : decode cX12_chairs 27 = .ok (.i2l, 1) := by decide +kernel
theorem dX12_chairs_28 : decode cX12_chairs 28 = .ok (.lconst 1, 1) := by decide +kernel
theorem dX12_chairs_29 : decode cX12_chairs 29 = .ok (.ldc2_w 230, 3) := by decide +kernel
theorem dX12_chairs_32 : decode cX12_chairs 32 = .ok (.invokestatic 109, 3) := by decide +kernel
theorem dX12_chairs_35 : decode cX12_chairs 35 = .ok (.ifCond .eq 17, 3) := by decide +kernel
theorem dX12_chairs_38 : decode cX12_chairs 38 = .ok (.iload_n 3, 1) := by decide +kernel
theorem dX12_chairs_39 : decode cX12_chairs 39 = .ok (.iconst (-1), 1) := by decide +kernel
theorem dX12_chairs_40 : decode cX12_chairs 40 = .ok (.if_icmp .eq 14, 3) := by decide +kernel
theorem dX12_chairs_43 : decode cX12_chairs 43 = .ok (.aload_n 0, 1) := by decide +kernel
theorem dX12_chairs_44 : decode cX12_chairs 44 = .ok (.iload_n 3, 1) := by decide +kernel
theorem dX12_chairs_45 : decode cX12_chairs 45 = .ok (.i2l, 1) := by decide +kernel
theorem dX12_chairs_46 : decode cX12_chairs 46 = .ok (.invokevirtual 135, 3) := by decide +kernel
theorem dX12_chairs_49 : decode cX12_chairs 49 = .ok (.ifCond .ne 5, 3) := by decide +kernel
theorem dX12_chairs_52 : decode cX12_chairs 52 = .ok (.iconst (-1), 1) := by decide +kernel
theorem dX12_chairs_53 : decode cX12_chairs 53 = .ok (.ireturn, 1) := by decide +kernel
theorem dX12_chairs_54 : decode cX12_chairs 54 = .ok (.aload_n 0, 1) := by decide +kernel
theorem dX12_chairs_55 : decode cX12_chairs 55 = .ok (.iload_n 1, 1) := by decide +kernel
theorem dX12_chairs_56 : decode cX12_chairs 56 = .ok (.invokevirtual 224, 3) := by decide +kernel
theorem dX12_chairs_59 : decode cX12_chairs 59 = .ok (.ifCond .ge 9, 3) := by decide +kernel
theorem dX12_chairs_62 : decode cX12_chairs 62 = .ok (.aload_n 0, 1) := by decide +kernel
theorem dX12_chairs_63 : decode cX12_chairs 63 = .ok (.iload_n 1, 1) := by decide +kernel
theorem dX12_chairs_64 : decode cX12_chairs 64 = .ok (.invokevirtual 224, 3) := by decide +kernel
theorem dX12_chairs_67 : decode cX12_chairs 67 = .ok (.ireturn, 1) := by decide +kernel
set_option maxRecDepth 20000 in
theorem ggX12_who_X12_bytesIs : GoodIn wsX12_who wsX12_bytesIs := goodIn_r _ [10, 11, 12, 13, 9, 14, 15, 16, 17, 18, 50, 51, 52, 53, 54, 55, 56, 57, 58, 59, 60, 61, 62, 63, 64, 65, 66, 67, 68, 69, 70, 71, 72, 73, 74, 75, 76, 77, 78, 79, 80, 81, 82, 83, 84, 85, 86, 87, 88, 89, 90, 91, 92, 93, 94, 95, 96, 97, 98, 99, 100, 101, 102, 103, 104] (by decide +kernel) (by decide +kernel)
set_option maxRecDepth 20000 in
theorem gX12_who_X12_bytesIs : GoodIn wsX12_who (wsV RX12 224 RX12 yX12_bytesIs wsX12_bytesIs) := goodIn_app (goodIn_of _ (by decide +kernel)) ggX12_who_X12_bytesIs
set_option maxRecDepth 20000 in
theorem ggX12_who_X12_isPart : GoodIn wsX12_who wsX12_isPart := goodIn_r _ [21, 22, 16, 17, 9, 18] (by decide +kernel) (by decide +kernel)
set_option maxRecDepth 20000 in
theorem gX12_who_X12_isPart : GoodIn wsX12_who (va_wsS RX12 140 yX12_isPart wsX12_isPart) := goodIn_app (goodIn_of _ (by decide +kernel)) ggX12_who_X12_isPart
set_option maxRecDepth 20000 in
theorem ggX12_who_X12_within : GoodIn wsX12_who wsX12_within := goodIn_r _ [18] (by decide +kernel) (by decide +kernel)
set_option maxRecDepth 20000 in
theorem gX12_who_X12_within : GoodIn wsX12_who (va_wsS RX12 109 yX12_within wsX12_within) := goodIn_app (goodIn_of _ (by decide +kernel)) ggX12_who_X12_within
theorem dX12_who_0 : decode cX12_who 0 = .ok (.aload_n 0, 1) := by decide +kernel
theorem dX12_who_1 : decode cX12_who 1 = .ok (.iload_n 1, 1) := by decide +kernel
theorem dX12_who_2 : decode cX12_who 2 = .ok (.invokevirtual 224, 3) := by decide +kernel
theorem dX12_who_5 : decode cX12_who 5 = .ok (.iconst (-1), 1) := by decide +kernel
theorem dX12_who_6 : decode cX12_who 6 = .ok (.if_icmp .eq 22, 3) := by decide +kernel
theorem dX12_who_9 : decode cX12_who 9 = .ok (.iload_n 2, 1) := by decide +kernel
theorem dX12_who_10 : decode cX12_who 10 = .ok (.invokestatic 140, 3) := by decide +kernel
theorem dX12_who_13 : decode cX12_who 13 = .ok (.ifCond .eq 15, 3) := by decide +kernel
theorem dX12_who_16 : decode cX12_who 16 = .ok (.iload_n 3, 1) := by decide +kernel
theorem dX12_who_17 : decode cX12_who 17 = .ok (.i2l, 1) := by decide +kernel
theorem dX12_who_18 : decode cX12_who 18 = .ok (.lconst 0, 1) := by decide +kernel
theorem dX12_who_19 : decode cX12_who 19 = .ok (.ldc2_w 323, 3) := by decide +kernel
theorem dX12_who_22 : decode cX12_who 22 = .ok (.invokestatic 109, 3) := by decide +kernel
theorem dX12_who_25 : decode cX12_who 25 = .ok (.ifCond .ne 5, 3) := by decide +kernel
theorem dX12_who_28 : decode cX12_who 28 = .ok (.iconst (-1), 1) := by decide +kernel
theorem dX12_who_29 : decode cX12_who 29 = .ok (.ireturn, 1) := by decide +kernel
theorem dX12_who_30 : decode cX12_who 30 = .ok (.aload_n 0, 1) := by decide +kernel
theorem dX12_who_31 : decode cX12_who 31 = .ok (.iload_n 1, 1) := by decide +kernel
theorem dX12_who_32 : decode cX12_who 32 = .ok (.invokevirtual 224, 3) := by decide +kernel
theorem dX12_who_35 : decode cX12_who 35 = .ok (.ifCond .ge 9, 3) := by decide +kernel
theorem dX12_who_38 : decode cX12_who 38 = .ok (.aload_n 0, 1) := by decide +kernel
theorem dX12_who_39 : decode cX12_who 39 = .ok (.iload_n 1, 1) := by decide +kernel
theorem dX12_who_40 : decode cX12_who 40 = .ok (.invokevirtual 224, 3) := by decide +kernel
theorem dX12_who_43 : decode cX12_who 43 = .ok (.ireturn, 1) := by decide +kernel
set_option maxRecDepth 20000 in
theorem ggX12_judge_X12_isShelf : GoodIn wsX12_judge wsX12_isShelf := goodIn_r _ [7, 8, 9, 10, 6, 11] (by decide +kernel) (by decide +kernel)
set_option maxRecDepth 20000 in
theorem gX12_judge_X12_isShelf : GoodIn wsX12_judge (va_wsS RX12 127 yX12_isShelf wsX12_isShelf) := goodIn_app (goodIn_of _ (by decide +kernel)) ggX12_judge_X12_isShelf
set_option maxRecDepth 20000 in
theorem ggX12_judge_X12_isPart : GoodIn wsX12_judge wsX12_isPart := goodIn_r _ [14, 15, 9, 10, 6, 11] (by decide +kernel) (by decide +kernel)
set_option maxRecDepth 20000 in
theorem gX12_judge_X12_isPart : GoodIn wsX12_judge (va_wsS RX12 140 yX12_isPart wsX12_isPart) := goodIn_app (goodIn_of _ (by decide +kernel)) ggX12_judge_X12_isPart
theorem dX12_judge_0 : decode cX12_judge 0 = .ok (.iload_n 1, 1) := by decide +kernel
theorem dX12_judge_1 : decode cX12_judge 1 = .ok (.ifCond .lt 30, 3) := by decide +kernel
theorem dX12_judge_4 : decode cX12_judge 4 = .ok (.iload_n 1, 1) := by decide +kernel
theorem dX12_judge_5 : decode cX12_judge 5 = .ok (.bipush 10, 2) := by decide +kernel
theorem dX12_judge_7 : decode cX12_judge 7 = .ok (.idiv, 1) := by decide +kernel
theorem dX12_judge_8 : decode cX12_judge 8 = .ok (.invokestatic 127, 3) := by decide +kernel
theorem dX12_judge_11 : decode cX12_judge 11 = .ok (.ifCond .eq 20, 3) := by decide +kernel
theorem dX12_judge_14 : decode cX12_judge 14 = .ok (.iload_n 1, 1) := by decide +kernel
theorem dX12_judge_15 : decode cX12_judge 15 = .ok (.bipush 10, 2) := by decide +kernel
theorem dX12_judge_17 : decode cX12_judge 17 = .ok (.irem, 1) := by decide +kernel
theorem dX12_judge_18 : decode cX12_judge 18 = .ok (.invokestatic 127, 3) := by decide +kernel
theorem dX12_judge_21 : decode cX12_judge 21 = .ok (.ifCond .eq 10, 3) := by decide +kernel
theorem dX12_judge_24 : decode cX12_judge 24 = .ok (.iload_n 2, 1) := by decide +kernel
theorem dX12_judge_25 : decode cX12_judge 25 = .ok (.invokestatic 140, 3) := by decide +kernel
theorem dX12_judge_28 : decode cX12_judge 28 = .ok (.ifCond .ne 5, 3) := by decide +kernel
theorem dX12_judge_31 : decode cX12_judge 31 = .ok (.iconst (-1), 1) := by decide +kernel
theorem dX12_judge_32 : decode cX12_judge 32 = .ok (.ireturn, 1) := by decide +kernel
theorem dX12_judge_33 : decode cX12_judge 33 = .ok (.aload_n 0, 1) := by decide +kernel
theorem dX12_judge_34 : decode cX12_judge 34 = .ok (.getfield 74, 3) := by decide +kernel
theorem dX12_judge_37 : decode cX12_judge 37 = .ok (.iload_n 1, 1) := by decide +kernel
theorem dX12_judge_38 : decode cX12_judge 38 = .ok (.bipush 10, 2) := by decide +kernel
theorem dX12_judge_40 : decode cX12_judge 40 = .ok (.idiv, 1) := by decide +kernel
theorem dX12_judge_41 : decode cX12_judge 41 = .ok (.iaload, 1) := by decide +kernel
theorem dX12_judge_42 : decode cX12_judge 42 = .ok (.ifCond .lt 15, 3) := by decide +kernel
theorem dX12_judge_57 : decode cX12_judge 57 = .ok (.bipush (-11), 2) := by decide +kernel
theorem dX12_judge_59 : decode cX12_judge 59 = .ok (.ireturn, 1) := by decide +kernel
set_option maxRecDepth 20000 in
theorem ggX12_drawn_X12_bytesIs : GoodIn wsX12_drawn wsX12_bytesIs := goodIn_r _ [8, 9, 10, 11, 7, 12, 13, 14, 15, 16, 139, 140, 141, 142, 143, 144, 145, 146, 147, 148, 149, 150, 151, 152, 153, 154, 155, 156, 157, 158, 159, 160, 161, 162, 163, 164, 165, 166, 167, 168, 169, 170, 171, 172, 173, 174, 175, 176, 177, 178, 179, 180, 181, 182, 183, 184, 185, 186, 187, 188, 189, 190, 191, 192, 193] (by decide +kernel) (by decide +kernel)
set_option maxRecDepth 20000 in
theorem gX12_drawn_X12_bytesIs : GoodIn wsX12_drawn (wsV RX12 224 RX12 yX12_bytesIs wsX12_bytesIs) := goodIn_app (goodIn_of _ (by decide +kernel)) ggX12_drawn_X12_bytesIs
set_option maxRecDepth 20000 in
theorem ggX12_drawn_X12_within : GoodIn wsX12_drawn wsX12_within := goodIn_r _ [16] (by decide +kernel) (by decide +kernel)
set_option maxRecDepth 20000 in
theorem gX12_drawn_X12_within : GoodIn wsX12_drawn (va_wsS RX12 109 yX12_within wsX12_within) := goodIn_app (goodIn_of _ (by decide +kernel)) ggX12_drawn_X12_within
theorem dX12_drawn_0 : decode cX12_drawn 0 = .ok (.aload_n 0, 1) := by decide +kernel
theorem dX12_drawn_1 : decode cX12_drawn 1 = .ok (.iload_n 1, 1) := by decide +kernel
theorem dX12_drawn_2 : decode cX12_drawn 2 = .ok (.invokevirtual 224, 3) := by decide +kernel
theorem dX12_drawn_5 : decode cX12_drawn 5 = .ok (.iconst (-1), 1) := by decide +kernel
theorem dX12_drawn_6 : decode cX12_drawn 6 = .ok (.if_icmp .eq 26, 3) := by decide +kernel
theorem dX12_drawn_9 : decode cX12_drawn 9 = .ok (.iload_n 3, 1) := by decide +kernel
theorem dX12_drawn_10 : decode cX12_drawn 10 = .ok (.i2l, 1) := by decide +kernel
theorem dX12_drawn_11 : decode cX12_drawn 11 = .ok (.lconst 1, 1) := by decide +kernel
theorem dX12_drawn_12 : decode cX12_drawn 12 = .ok (.ldc2_w 334, 3) := by decide +kernel
theorem dX12_drawn_15 : decode cX12_drawn 15 = .ok (.invokestatic 109, 3) := by decide +kernel
theorem dX12_drawn_18 : decode cX12_drawn 18 = .ok (.ifCond .eq 14, 3) := by decide +kernel
theorem dX12_drawn_21 : decode cX12_drawn 21 = .ok (.iload 4, 2) := by decide +kernel
theorem dX12_drawn_23 : decode cX12_drawn 23 = .ok (.i2l, 1) := by decide +kernel
theorem dX12_drawn_24 : decode cX12_drawn 24 = .ok (.lconst 0, 1) := by decide +kernel
theorem dX12_drawn_25 : decode cX12_drawn 25 = .ok (.lconst 1, 1) := by decide +kernel
theorem dX12_drawn_26 : decode cX12_drawn 26 = .ok (.invokestatic 109, 3) := by decide +kernel
theorem dX12_drawn_29 : decode cX12_drawn 29 = .ok (.ifCond .ne 5, 3) := by decide +kernel
theorem dX12_drawn_32 : decode cX12_drawn 32 = .ok (.iconst (-1), 1) := by decide +kernel
theorem dX12_drawn_33 : decode cX12_drawn 33 = .ok (.ireturn, 1) := by decide +kernel
theorem dX12_drawn_34 : decode cX12_drawn 34 = .ok (.aload_n 0, 1) := by decide +kernel
theorem dX12_drawn_35 : decode cX12_drawn 35 = .ok (.iload_n 1, 1) := by decide +kernel
theorem dX12_drawn_36 : decode cX12_drawn 36 = .ok (.invokevirtual 224, 3) := by decide +kernel
theorem dX12_drawn_39 : decode cX12_drawn 39 = .ok (.ifCond .ge 9, 3) := by decide +kernel
theorem dX12_drawn_42 : decode cX12_drawn 42 = .ok (.aload_n 0, 1) := by decide +kernel
theorem dX12_drawn_43 : decode cX12_drawn 43 = .ok (.iload_n 1, 1) := by decide +kernel
theorem dX12_drawn_44 : decode cX12_drawn 44 = .ok (.invokevirtual 224, 3) := by decide +kernel
theorem dX12_drawn_47 : decode cX12_drawn 47 = .ok (.ireturn, 1) := by decide +kernel
set_option maxRecDepth 20000 in
theorem ggX12_sit_X12_isSitter : GoodIn wsX12_sit wsX12_isSitter := goodIn_r _ [15, 16, 17, 18, 14, 19, 113, 114, 115, 116, 117, 118, 119, 120, 121, 122, 123, 124, 125, 126, 127, 128, 129, 130, 131, 132, 133, 134, 135, 136, 137, 138, 139, 140, 141, 142, 143, 144, 145, 146, 147, 148, 149, 150, 151, 152, 153, 154, 155, 156, 157, 158, 159, 160, 161, 162, 163, 164, 165, 166, 167] (by decide +kernel) (by decide +kernel)
set_option maxRecDepth 20000 in
theorem gX12_sit_X12_isSitter : GoodIn wsX12_sit (wsV RX12 135 RX12 yX12_isSitter wsX12_isSitter) := goodIn_app (goodIn_of _ (by decide +kernel)) ggX12_sit_X12_isSitter
theorem dX12_sit_0 : decode cX12_sit 0 = .ok (.aload_n 0, 1) := by decide +kernel
theorem dX12_sit_1 : decode cX12_sit 1 = .ok (.iload_n 1, 1) := by decide +kernel
theorem dX12_sit_2 : decode cX12_sit 2 = .ok (.i2l, 1) := by decide +kernel
theorem dX12_sit_3 : decode cX12_sit 3 = .ok (.invokevirtual 135, 3) := by decide +kernel
theorem dX12_sit_6 : decode cX12_sit 6 = .ok (.ifCond .ne 5, 3) := by decide +kernel
theorem dX12_sit_9 : decode cX12_sit 9 = .ok (.iconst (-1), 1) := by decide +kernel
theorem dX12_sit_10 : decode cX12_sit 10 = .ok (.ireturn, 1) := by decide +kernel
set_option maxRecDepth 20000 in
theorem ggX12_set_X12_isPart : GoodIn wsX12_set wsX12_isPart := goodIn_r _ [6, 7, 8, 9, 5, 10] (by decide +kernel) (by decide +kernel)
set_option maxRecDepth 20000 in
theorem gX12_set_X12_isPart : GoodIn wsX12_set (va_wsS RX12 140 yX12_isPart wsX12_isPart) := goodIn_app (goodIn_of _ (by decide +kernel)) ggX12_set_X12_isPart
set_option maxRecDepth 20000 in
theorem ggX12_set_X12_isSetting : GoodIn wsX12_set wsX12_isSetting := goodIn_r _ [13, 14, 8, 9, 5, 10] (by decide +kernel) (by decide +kernel)
set_option maxRecDepth 20000 in
theorem gX12_set_X12_isSetting : GoodIn wsX12_set (va_wsS RX12 117 yX12_isSetting wsX12_isSetting) := goodIn_app (goodIn_of _ (by decide +kernel)) ggX12_set_X12_isSetting
set_option maxRecDepth 20000 in
theorem ggX12_set_X12_sizeOf : GoodIn wsX12_set wsX12_sizeOf := goodIn_r _ [17] (by decide +kernel) (by decide +kernel)
set_option maxRecDepth 20000 in
theorem gX12_set_X12_sizeOf : GoodIn wsX12_set (va_wsS RX12 211 yX12_sizeOf wsX12_sizeOf) := goodIn_app (goodIn_of _ (by decide +kernel)) ggX12_set_X12_sizeOf
theorem dX12_set_0 : decode cX12_set 0 = .ok (.iload_n 1, 1) := by decide +kernel
theorem dX12_set_1 : decode cX12_set 1 = .ok (.invokestatic 140, 3) := by decide +kernel
theorem dX12_set_4 : decode cX12_set 4 = .ok (.ifCond .eq 11, 3) := by decide +kernel
theorem dX12_set_7 : decode cX12_set 7 = .ok (.iload_n 2, 1) := by decide +kernel
theorem dX12_set_8 : decode cX12_set 8 = .ok (.i2l, 1) := by decide +kernel
theorem dX12_set_9 : decode cX12_set 9 = .ok (.invokestatic 117, 3) := by decide +kernel
theorem dX12_set_12 : decode cX12_set 12 = .ok (.ifCond .ne 5, 3) := by decide +kernel
theorem dX12_set_15 : decode cX12_set 15 = .ok (.iconst (-1), 1) := by decide +kernel
theorem dX12_set_16 : decode cX12_set 16 = .ok (.ireturn, 1) := by decide +kernel
theorem dX12_set_17 : decode cX12_set 17 = .ok (.iload_n 2, 1) := by decide +kernel
theorem dX12_set_18 : decode cX12_set 18 = .ok (.aload_n 0, 1) := by decide +kernel
theorem dX12_set_19 : decode cX12_set 19 = .ok (.getfield 22, 3) := by decide +kernel
theorem dX12_set_22 : decode cX12_set 22 = .ok (.iload_n 1, 1) := by decide +kernel
theorem dX12_set_23 : decode cX12_set 23 = .ok (.iaload, 1) := by decide +kernel
theorem dX12_set_24 : decode cX12_set 24 = .ok (.isub, 1) := by decide +kernel
theorem dX12_set_25 : decode cX12_set 25 = .ok (.invokestatic 211, 3) := by decide +kernel
theorem dX12_set_28 : decode cX12_set 28 = .ok (.istore_n 3, 1) := by decide +kernel
theorem dX12_set_29 : decode cX12_set 29 = .ok (.aload_n 0, 1) := by decide +kernel
theorem dX12_set_30 : decode cX12_set 30 = .ok (.getfield 22, 3) := by decide +kernel
theorem dX12_set_33 : decode cX12_set 33 = .ok (.iload_n 1, 1) := by decide +kernel
theorem dX12_set_34 : decode cX12_set 34 = .ok (.iload_n 2, 1) := by decide +kernel
theorem dX12_set_35 : decode cX12_set 35 = .ok (.iastore, 1) := by decide +kernel
theorem dX12_set_36 : decode cX12_set 36 = .ok (.aload_n 0, 1) := by decide +kernel
theorem dX12_set_37 : decode cX12_set 37 = .ok (.dup, 1) := by decide +kernel
theorem dX12_set_38 : decode cX12_set 38 = .ok (.getfield 340, 3) := by decide +kernel
theorem dX12_set_41 : decode cX12_set 41 = .ok (.iload_n 3, 1) := by decide +kernel
theorem dX12_set_42 : decode cX12_set 42 = .ok (.iadd, 1) := by decide +kernel
theorem dX12_set_43 : decode cX12_set 43 = .ok (.putfield 340, 3) := by decide +kernel
theorem dX12_set_46 : decode cX12_set 46 = .ok (.iload_n 3, 1) := by decide +kernel
theorem dX12_set_47 : decode cX12_set 47 = .ok (.ireturn, 1) := by decide +kernel
set_option maxRecDepth 20000 in
theorem ggX12_night_X12_slipped : GoodIn wsX12_night wsX12_slipped := goodIn_r _ [6, 7, 8, 9, 10, 11, 12, 13, 14, 15, 16, 17, 18, 19, 20, 21, 22, 23, 24, 25, 26, 27, 28, 29, 30, 31, 32, 33, 34, 35, 36, 37, 38, 39, 40, 41, 42, 43, 44, 45, 46, 47, 48, 49, 50, 51, 52, 53, 54, 55, 56, 57, 58, 59, 60, 61, 62] (by decide +kernel) (by decide +kernel)
set_option maxRecDepth 20000 in
theorem gX12_night_X12_slipped : GoodIn wsX12_night (wsV RX12 248 RX12 yX12_slipped wsX12_slipped) := goodIn_app (goodIn_of _ (by decide +kernel)) ggX12_night_X12_slipped
theorem dX12_night_0 : decode cX12_night 0 = .ok (.iconst 0, 1) := by decide +kernel
theorem dX12_night_1 : decode cX12_night 1 = .ok (.istore_n 1, 1) := by decide +kernel
theorem dX12_night_2 : decode cX12_night 2 = .ok (.iconst 0, 1) := by decide +kernel
theorem dX12_night_3 : decode cX12_night 3 = .ok (.istore_n 2, 1) := by decide +kernel
theorem dX12_night_4 : decode cX12_night 4 = .ok (.iload_n 2, 1) := by decide +kernel
theorem dX12_night_5 : decode cX12_night 5 = .ok (.iconst 3, 1) := by decide +kernel
theorem dX12_night_6 : decode cX12_night 6 = .ok (.if_icmp .ge 46, 3) := by decide +kernel
theorem dX12_night_9 : decode cX12_night 9 = .ok (.aload_n 0, 1) := by decide +kernel
theorem dX12_night_10 : decode cX12_night 10 = .ok (.iload_n 2, 1) := by decide +kernel
theorem dX12_night_11 : decode cX12_night 11 = .ok (.aload_n 0, 1) := by decide +kernel
theorem dX12_night_12 : decode cX12_night 12 = .ok (.getfield 22, 3) := by decide +kernel
theorem dX12_night_15 : decode cX12_night 15 = .ok (.iload_n 2, 1) := by decide +kernel
theorem dX12_night_16 : decode cX12_night 16 = .ok (.iaload, 1) := by decide +kernel
theorem dX12_night_17 : decode cX12_night 17 = .ok (.invokevirtual 248, 3) := by decide +kernel
theorem dX12_night_20 : decode cX12_night 20 = .ok (.istore_n 3, 1) := by decide +kernel
theorem dX12_night_21 : decode cX12_night 21 = .ok (.iload_n 1, 1) := by decide +kernel
theorem dX12_night_22 : decode cX12_night 22 = .ok (.iload_n 3, 1) := by decide +kernel
theorem dX12_night_23 : decode cX12_night 23 = .ok (.aload_n 0, 1) := by decide +kernel
theorem dX12_night_24 : decode cX12_night 24 = .ok (.getfield 22, 3) := by decide +kernel
theorem dX12_night_27 : decode cX12_night 27 = .ok (.iload_n 2, 1) := by decide +kernel
theorem dX12_night_28 : decode cX12_night 28 = .ok (.iaload, 1) := by decide +kernel
theorem dX12_night_29 : decode cX12_night 29 = .ok (.if_icmp .ge 7, 3) := by decide +kernel
theorem dX12_night_36 : decode cX12_night 36 = .ok (.iconst 0, 1) := by decide +kernel
theorem dX12_night_37 : decode cX12_night 37 = .ok (.iadd, 1) := by decide +kernel
theorem dX12_night_38 : decode cX12_night 38 = .ok (.istore_n 1, 1) := by decide +kernel
theorem dX12_night_39 : decode cX12_night 39 = .ok (.aload_n 0, 1) := by decide +kernel
theorem dX12_night_40 : decode cX12_night 40 = .ok (.getfield 22, 3) := by decide +kernel
theorem dX12_night_43 : decode cX12_night 43 = .ok (.iload_n 2, 1) := by decide +kernel
theorem dX12_night_44 : decode cX12_night 44 = .ok (.iload_n 3, 1) := by decide +kernel
theorem dX12_night_45 : decode cX12_night 45 = .ok (.iastore, 1) := by decide +kernel
theorem dX12_night_46 : decode cX12_night 46 = .ok (.iinc 2 1, 3) := by decide +kernel
theorem dX12_night_49 : decode cX12_night 49 = .ok (.goto (-45), 3) := by decide +kernel
theorem dX12_night_52 : decode cX12_night 52 = .ok (.iload_n 1, 1) := by decide +kernel
theorem dX12_night_53 : decode cX12_night 53 = .ok (.ireturn, 1) := by decide +kernel
theorem dX12_led_0 : decode cX12_led 0 = .ok (.iload_n 1, 1) := by decide +kernel
theorem dX12_led_1 : decode cX12_led 1 = .ok (.tableswitch 60 0 4 #[35, 40, 45, 50, 55], 35) := by decide +kernel
theorem dX12_led_36 : decode cX12_led 36 = .ok (.aload_n 0, 1) := by decide +kernel
theorem dX12_led_37 : decode cX12_led 37 = .ok (.getfield 337, 3) := by decide +kernel
theorem dX12_led_40 : decode cX12_led 40 = .ok (.ireturn, 1) := by decide +kernel
theorem dX12_led_41 : decode cX12_led 41 = .ok (.aload_n 0, 1) := by decide +kernel
theorem dX12_led_42 : decode cX12_led 42 = .ok (.getfield 340, 3) := by decide +kernel
theorem dX12_led_45 : decode cX12_led 45 = .ok (.ireturn, 1) := by decide +kernel
theorem dX12_led_46 : decode cX12_led 46 = .ok (.aload_n 0, 1) := by decide +kernel
theorem dX12_led_47 : decode cX12_led 47 = .ok (.getfield 343, 3) := by decide +kernel
theorem dX12_led_50 : decode cX12_led 50 = .ok (.ireturn, 1) := by decide +kernel
theorem dX12_led_51 : decode cX12_led 51 = .ok (.aload_n 0, 1) := by decide +kernel
theorem dX12_led_52 : decode cX12_led 52 = .ok (.getfield 346, 3) := by decide +kernel
theorem dX12_led_55 : decode cX12_led 55 = .ok (.ireturn, 1) := by decide +kernel
theorem dX12_led_56 : decode cX12_led 56 = .ok (.aload_n 0, 1) := by decide +kernel
theorem dX12_led_57 : decode cX12_led 57 = .ok (.getfield 91, 3) := by decide +kernel
theorem dX12_led_60 : decode cX12_led 60 = .ok (.ireturn, 1) := by decide +kernel
theorem dX12_led_61 : decode cX12_led 61 = .ok (.iconst (-1), 1) := by decide +kernel
theorem dX12_led_62 : decode cX12_led 62 = .ok (.ireturn, 1) := by decide +kernel
set_option maxRecDepth 20000 in
theorem ggX12_image_X12_led : GoodIn wsX12_image wsX12_led := goodIn_r _ [9, 4, 10, 11, 12, 13, 14, 15, 16, 17, 18, 19, 20, 21, 22, 23, 24, 25, 26, 27, 28, 29, 30, 31, 32, 33, 34, 35, 36, 37, 38, 39, 40, 41, 42, 43, 44, 45, 46, 47, 48, 49, 50, 51, 52, 53, 54, 55, 56, 57, 58, 59, 60, 61, 62, 63, 64, 65, 66, 67, 68] (by decide +kernel) (by decide +kernel)
set_option maxRecDepth 20000 in
theorem gX12_image_X12_led : GoodIn wsX12_image (wsV RX12 352 RX12 yX12_led wsX12_led) := goodIn_app (goodIn_of _ (by decide +kernel)) ggX12_image_X12_led
theorem dX12_image_0 : decode cX12_image 0 = .ok (.aload_n 0, 1) := by decide +kernel
theorem dX12_image_1 : decode cX12_image 1 = .ok (.iconst 1, 1) := by decide +kernel
theorem dX12_image_2 : decode cX12_image 2 = .ok (.putfield 349, 3) := by decide +kernel
theorem dX12_image_5 : decode cX12_image 5 = .ok (.iconst 0, 1) := by decide +kernel
theorem dX12_image_6 : decode cX12_image 6 = .ok (.istore_n 1, 1) := by decide +kernel
theorem dX12_image_7 : decode cX12_image 7 = .ok (.iload_n 1, 1) := by decide +kernel
theorem dX12_image_8 : decode cX12_image 8 = .ok (.bipush 8, 2) := by decide +kernel
theorem dX12_image_10 : decode cX12_image 10 = .ok (.if_icmp .ge 36, 3) := by decide +kernel
theorem dX12_image_13 : decode cX12_image 13 = .ok (.aload_n 0, 1) := by decide +kernel
theorem dX12_image_14 : decode cX12_image 14 = .ok (.getfield 65, 3) := by decide +kernel
theorem dX12_image_17 : decode cX12_image 17 = .ok (.iload_n 1, 1) := by decide +kernel
theorem dX12_image_18 : decode cX12_image 18 = .ok (.iload_n 1, 1) := by decide +kernel
theorem dX12_image_19 : decode cX12_image 19 = .ok (.iconst 3, 1) := by decide +kernel
theorem dX12_image_20 : decode cX12_image 20 = .ok (.if_icmp .ge 12, 3) := by decide +kernel
theorem dX12_image_23 : decode cX12_image 23 = .ok (.aload_n 0, 1) := by decide +kernel
theorem dX12_image_24 : decode cX12_image 24 = .ok (.getfield 22, 3) := by decide +kernel
theorem dX12_image_27 : decode cX12_image 27 = .ok (.iload_n 1, 1) := by decide +kernel
theorem dX12_image_28 : decode cX12_image 28 = .ok (.iaload, 1) := by decide +kernel
theorem dX12_image_29 : decode cX12_image 29 = .ok (.goto 10, 3) := by decide +kernel
theorem dX12_image_32 : decode cX12_image 32 = .ok (.aload_n 0, 1) := by decide +kernel
theorem dX12_image_33 : decode cX12_image 33 = .ok (.iload_n 1, 1) := by decide +kernel
theorem dX12_image_34 : decode cX12_image 34 = .ok (.iconst 3, 1) := by decide +kernel
theorem dX12_image_35 : decode cX12_image 35 = .ok (.isub, 1) := by decide +kernel
theorem dX12_image_36 : decode cX12_image 36 = .ok (.invokevirtual 352, 3) := by decide +kernel
theorem dX12_image_39 : decode cX12_image 39 = .ok (.iastore, 1) := by decide +kernel
theorem dX12_image_40 : decode cX12_image 40 = .ok (.iinc 1 1, 3) := by decide +kernel
theorem dX12_image_43 : decode cX12_image 43 = .ok (.goto (-36), 3) := by decide +kernel
theorem dX12_image_46 : decode cX12_image 46 = .ok (.aload_n 0, 1) := by decide +kernel
theorem dX12_image_47 : decode cX12_image 47 = .ok (.getfield 337, 3) := by decide +kernel
theorem dX12_image_50 : decode cX12_image 50 = .ok (.ireturn, 1) := by decide +kernel
theorem dX12_back_0 : decode cX12_back 0 = .ok (.aload_n 0, 1) := by decide +kernel
theorem dX12_back_1 : decode cX12_back 1 = .ok (.getfield 349, 3) := by decide +kernel
theorem dX12_back_4 : decode cX12_back 4 = .ok (.ifCond .ne 6, 3) := by decide +kernel
theorem dX12_back_7 : decode cX12_back 7 = .ok (.bipush (-5), 2) := by decide +kernel
theorem dX12_back_9 : decode cX12_back 9 = .ok (.ireturn, 1) := by decide +kernel
set_option maxRecDepth 20000 in
theorem ggX12_isBody_X12_within : GoodIn wsX12_isBody wsX12_within := goodIn_r _ [5] (by decide +kernel) (by decide +kernel)
set_option maxRecDepth 20000 in
theorem gX12_isBody_X12_within : GoodIn wsX12_isBody (va_wsS RX12 109 yX12_within wsX12_within) := goodIn_app (goodIn_of _ (by decide +kernel)) ggX12_isBody_X12_within
theorem dX12_isBody_0 : decode cX12_isBody 0 = .ok (.iload_n 1, 1) := by decide +kernel
theorem dX12_isBody_1 : decode cX12_isBody 1 = .ok (.i2l, 1) := by decide +kernel
theorem dX12_isBody_2 : decode cX12_isBody 2 = .ok (.lconst 0, 1) := by decide +kernel
theorem dX12_isBody_3 : decode cX12_isBody 3 = .ok (.aload_n 0, 1) := by decide +kernel
theorem dX12_isBody_4 : decode cX12_isBody 4 = .ok (.getfield 355, 3) := by decide +kernel
theorem dX12_isBody_7 : decode cX12_isBody 7 = .ok (.iconst 1, 1) := by decide +kernel
theorem dX12_isBody_8 : decode cX12_isBody 8 = .ok (.isub, 1) := by decide +kernel
theorem dX12_isBody_9 : decode cX12_isBody 9 = .ok (.i2l, 1) := by decide +kernel
theorem dX12_isBody_10 : decode cX12_isBody 10 = .ok (.invokestatic 109, 3) := by decide +kernel
theorem dX12_isBody_13 : decode cX12_isBody 13 = .ok (.ireturn, 1) := by decide +kernel
set_option maxRecDepth 20000 in
theorem ggX12_body_X12_within : GoodIn wsX12_body wsX12_within := goodIn_r _ [7] (by decide +kernel) (by decide +kernel)
set_option maxRecDepth 20000 in
theorem gX12_body_X12_within : GoodIn wsX12_body (va_wsS RX12 109 yX12_within wsX12_within) := goodIn_app (goodIn_of _ (by decide +kernel)) ggX12_body_X12_within
theorem dX12_body_0 : decode cX12_body 0 = .ok (.iload_n 1, 1) := by decide +kernel
theorem dX12_body_1 : decode cX12_body 1 = .ok (.i2l, 1) := by decide +kernel
theorem dX12_body_2 : decode cX12_body 2 = .ok (.lconst 0, 1) := by decide +kernel
theorem dX12_body_3 : decode cX12_body 3 = .ok (.ldc2_w 133, 3) := by decide +kernel
theorem dX12_body_6 : decode cX12_body 6 = .ok (.invokestatic 109, 3) := by decide +kernel
theorem dX12_body_9 : decode cX12_body 9 = .ok (.ifCond .ne 5, 3) := by decide +kernel
theorem dX12_body_12 : decode cX12_body 12 = .ok (.iconst (-1), 1) := by decide +kernel
theorem dX12_body_13 : decode cX12_body 13 = .ok (.ireturn, 1) := by decide +kernel
theorem dX12_body_14 : decode cX12_body 14 = .ok (.aload_n 0, 1) := by decide +kernel
theorem dX12_body_15 : decode cX12_body 15 = .ok (.getfield 355, 3) := by decide +kernel
theorem dX12_body_18 : decode cX12_body 18 = .ok (.bipush 50, 2) := by decide +kernel
theorem dX12_body_20 : decode cX12_body 20 = .ok (.if_icmp .ne 6, 3) := by decide +kernel
theorem dX12_body_26 : decode cX12_body 26 = .ok (.aload_n 0, 1) := by decide +kernel
theorem dX12_body_27 : decode cX12_body 27 = .ok (.getfield 68, 3) := by decide +kernel
theorem dX12_body_30 : decode cX12_body 30 = .ok (.aload_n 0, 1) := by decide +kernel
theorem dX12_body_31 : decode cX12_body 31 = .ok (.getfield 355, 3) := by decide +kernel
theorem dX12_body_34 : decode cX12_body 34 = .ok (.iload_n 1, 1) := by decide +kernel
theorem dX12_body_35 : decode cX12_body 35 = .ok (.iastore, 1) := by decide +kernel
theorem dX12_body_36 : decode cX12_body 36 = .ok (.aload_n 0, 1) := by decide +kernel
theorem dX12_body_37 : decode cX12_body 37 = .ok (.dup, 1) := by decide +kernel
theorem dX12_body_38 : decode cX12_body 38 = .ok (.getfield 355, 3) := by decide +kernel
theorem dX12_body_41 : decode cX12_body 41 = .ok (.iconst 1, 1) := by decide +kernel
theorem dX12_body_42 : decode cX12_body 42 = .ok (.iadd, 1) := by decide +kernel
theorem dX12_body_43 : decode cX12_body 43 = .ok (.putfield 355, 3) := by decide +kernel
theorem dX12_body_46 : decode cX12_body 46 = .ok (.aload_n 0, 1) := by decide +kernel
theorem dX12_body_47 : decode cX12_body 47 = .ok (.getfield 355, 3) := by decide +kernel
theorem dX12_body_50 : decode cX12_body 50 = .ok (.iconst 1, 1) := by decide +kernel
theorem dX12_body_51 : decode cX12_body 51 = .ok (.isub, 1) := by decide +kernel
theorem dX12_body_52 : decode cX12_body 52 = .ok (.ireturn, 1) := by decide +kernel
set_option maxRecDepth 20000 in
theorem ggX12_act_X12_isBody : GoodIn wsX12_act wsX12_isBody := goodIn_r _ [9, 10, 11, 12, 8, 13, 35, 36, 37, 38, 39, 40, 41, 42, 43, 44, 45, 46, 47, 48, 49, 50, 51, 52, 53, 54, 55, 56, 57, 58, 59, 60, 61, 62, 63, 64, 65, 66, 67, 68, 69, 70, 71, 72, 73, 74, 75, 76, 77, 78, 79, 80, 81, 82, 83, 84, 85, 86, 87, 88, 89] (by decide +kernel) (by decide +kernel)
set_option maxRecDepth 20000 in
theorem gX12_act_X12_isBody : GoodIn wsX12_act (wsV RX12 382 RX12 yX12_isBody wsX12_isBody) := goodIn_app (goodIn_of _ (by decide +kernel)) ggX12_act_X12_isBody
theorem dX12_act_0 : decode cX12_act 0 = .ok (.aload_n 0, 1) := by decide +kernel
theorem dX12_act_1 : decode cX12_act 1 = .ok (.iconst 0, 1) := by decide +kernel
theorem dX12_act_2 : decode cX12_act 2 = .ok (.putfield 358, 3) := by decide +kernel
theorem dX12_act_5 : decode cX12_act 5 = .ok (.aload_n 0, 1) := by decide +kernel
theorem dX12_act_6 : decode cX12_act 6 = .ok (.iload_n 1, 1) := by decide +kernel
theorem dX12_act_7 : decode cX12_act 7 = .ok (.invokevirtual 382, 3) := by decide +kernel
theorem dX12_act_10 : decode cX12_act 10 = .ok (.ifCond .ne 5, 3) := by decide +kernel
theorem dX12_act_13 : decode cX12_act 13 = .ok (.iconst 0, 1) := by decide +kernel
theorem dX12_act_14 : decode cX12_act 14 = .ok (.ireturn, 1) := by decide +kernel
theorem dX12_trace_0 : decode cX12_trace 0 = .ok (.iload_n 1, 1) := by decide +kernel
theorem dX12_trace_1 : decode cX12_trace 1 = .ok (.ifCond .lt 26, 3) := by decide +kernel
theorem dX12_trace_4 : decode cX12_trace 4 = .ok (.iload_n 1, 1) := by decide +kernel
theorem dX12_trace_5 : decode cX12_trace 5 = .ok (.aload_n 0, 1) := by decide +kernel
theorem dX12_trace_6 : decode cX12_trace 6 = .ok (.getfield 358, 3) := by decide +kernel
theorem dX12_trace_9 : decode cX12_trace 9 = .ok (.if_icmp .ge 18, 3) := by decide +kernel
theorem dX12_trace_27 : decode cX12_trace 27 = .ok (.iconst (-1), 1) := by decide +kernel
theorem dX12_trace_28 : decode cX12_trace 28 = .ok (.ireturn, 1) := by decide +kernel
set_option maxRecDepth 20000 in
theorem ggX12_isShelf_X12_within : GoodIn wsX12_isShelf wsX12_within := goodIn_r _ [5] (by decide +kernel) (by decide +kernel)
set_option maxRecDepth 20000 in
theorem gX12_isShelf_X12_within : GoodIn wsX12_isShelf (va_wsS RX12 109 yX12_within wsX12_within) := goodIn_app (goodIn_of _ (by decide +kernel)) ggX12_isShelf_X12_within
theorem dX12_isShelf_0 : decode cX12_isShelf 0 = .ok (.iload_n 0, 1) := by decide +kernel
theorem dX12_isShelf_1 : decode cX12_isShelf 1 = .ok (.i2l, 1) := by decide +kernel
theorem dX12_isShelf_2 : decode cX12_isShelf 2 = .ok (.lconst 0, 1) := by decide +kernel
theorem dX12_isShelf_3 : decode cX12_isShelf 3 = .ok (.ldc2_w 385, 3) := by decide +kernel
theorem dX12_isShelf_6 : decode cX12_isShelf 6 = .ok (.invokestatic 109, 3) := by decide +kernel
theorem dX12_isShelf_9 : decode cX12_isShelf 9 = .ok (.ireturn, 1) := by decide +kernel
set_option maxRecDepth 20000 in
theorem ggX12_keep_X12_isShelf : GoodIn wsX12_keep wsX12_isShelf := goodIn_r _ [6, 7, 8, 9, 5, 10] (by decide +kernel) (by decide +kernel)
set_option maxRecDepth 20000 in
theorem gX12_keep_X12_isShelf : GoodIn wsX12_keep (va_wsS RX12 127 yX12_isShelf wsX12_isShelf) := goodIn_app (goodIn_of _ (by decide +kernel)) ggX12_keep_X12_isShelf
set_option maxRecDepth 20000 in
theorem ggX12_keep_X12_isBody : GoodIn wsX12_keep wsX12_isBody := goodIn_r _ [14, 15, 8, 9, 5, 10, 16, 17, 18, 19, 20, 21, 22, 23, 24, 25, 26, 27, 28, 29, 30, 31, 32, 33, 34, 35, 36, 37, 38, 39, 40, 41, 42, 43, 44, 45, 46, 47, 48, 49, 50, 51, 52, 53, 54, 55, 56, 57, 58, 59, 60, 61, 62, 63, 64, 65, 66, 67, 68, 69, 70] (by decide +kernel) (by decide +kernel)
set_option maxRecDepth 20000 in
theorem gX12_keep_X12_isBody : GoodIn wsX12_keep (wsV RX12 382 RX12 yX12_isBody wsX12_isBody) := goodIn_app (goodIn_of _ (by decide +kernel)) ggX12_keep_X12_isBody
theorem dX12_keep_0 : decode cX12_keep 0 = .ok (.iload_n 1, 1) := by decide +kernel
theorem dX12_keep_1 : decode cX12_keep 1 = .ok (.invokestatic 127, 3) := by decide +kernel
theorem dX12_keep_4 : decode cX12_keep 4 = .ok (.ifCond .eq 16, 3) := by decide +kernel
theorem dX12_keep_7 : decode cX12_keep 7 = .ok (.iload_n 2, 1) := by decide +kernel
theorem dX12_keep_8 : decode cX12_keep 8 = .ok (.iconst (-1), 1) := by decide +kernel
theorem dX12_keep_9 : decode cX12_keep 9 = .ok (.if_icmp .eq 13, 3) := by decide +kernel
theorem dX12_keep_12 : decode cX12_keep 12 = .ok (.aload_n 0, 1) := by decide +kernel
theorem dX12_keep_13 : decode cX12_keep 13 = .ok (.iload_n 2, 1) := by decide +kernel
theorem dX12_keep_14 : decode cX12_keep 14 = .ok (.invokevirtual 382, 3) := by decide +kernel
theorem dX12_keep_17 : decode cX12_keep 17 = .ok (.ifCond .ne 5, 3) := by decide +kernel
theorem dX12_keep_20 : decode cX12_keep 20 = .ok (.iconst (-1), 1) := by decide +kernel
theorem dX12_keep_21 : decode cX12_keep 21 = .ok (.ireturn, 1) := by decide +kernel
theorem dX12_keep_22 : decode cX12_keep 22 = .ok (.aload_n 0, 1) := by decide +kernel
theorem dX12_keep_23 : decode cX12_keep 23 = .ok (.getfield 74, 3) := by decide +kernel
theorem dX12_keep_26 : decode cX12_keep 26 = .ok (.iload_n 1, 1) := by decide +kernel
theorem dX12_keep_27 : decode cX12_keep 27 = .ok (.iload_n 2, 1) := by decide +kernel
theorem dX12_keep_28 : decode cX12_keep 28 = .ok (.iastore, 1) := by decide +kernel
theorem dX12_keep_29 : decode cX12_keep 29 = .ok (.aload_n 0, 1) := by decide +kernel
theorem dX12_keep_30 : decode cX12_keep 30 = .ok (.getfield 77, 3) := by decide +kernel
theorem dX12_keep_33 : decode cX12_keep 33 = .ok (.iload_n 1, 1) := by decide +kernel
theorem dX12_keep_34 : decode cX12_keep 34 = .ok (.iconst 0, 1) := by decide +kernel
theorem dX12_keep_35 : decode cX12_keep 35 = .ok (.iastore, 1) := by decide +kernel
theorem dX12_keep_36 : decode cX12_keep 36 = .ok (.iconst 1, 1) := by decide +kernel
theorem dX12_keep_37 : decode cX12_keep 37 = .ok (.ireturn, 1) := by decide +kernel
set_option maxRecDepth 20000 in
theorem ggX12_row_X12_isShelf : GoodIn wsX12_row wsX12_isShelf := goodIn_r _ [8, 9, 10, 11, 7, 12] (by decide +kernel) (by decide +kernel)
set_option maxRecDepth 20000 in
theorem gX12_row_X12_isShelf : GoodIn wsX12_row (va_wsS RX12 127 yX12_isShelf wsX12_isShelf) := goodIn_app (goodIn_of _ (by decide +kernel)) ggX12_row_X12_isShelf
set_option maxRecDepth 20000 in
theorem ggX12_row_X12_within : GoodIn wsX12_row wsX12_within := goodIn_r _ [12] (by decide +kernel) (by decide +kernel)
set_option maxRecDepth 20000 in
theorem gX12_row_X12_within : GoodIn wsX12_row (va_wsS RX12 109 yX12_within wsX12_within) := goodIn_app (goodIn_of _ (by decide +kernel)) ggX12_row_X12_within
theorem dX12_row_0 : decode cX12_row 0 = .ok (.iload_n 1, 1) := by decide +kernel
theorem dX12_row_1 : decode cX12_row 1 = .ok (.invokestatic 127, 3) := by decide +kernel
theorem dX12_row_4 : decode cX12_row 4 = .ok (.ifCond .eq 21, 3) := by decide +kernel
theorem dX12_row_7 : decode cX12_row 7 = .ok (.iload_n 2, 1) := by decide +kernel
theorem dX12_row_8 : decode cX12_row 8 = .ok (.i2l, 1) := by decide +kernel
theorem dX12_row_9 : decode cX12_row 9 = .ok (.lconst 0, 1) := by decide +kernel
theorem dX12_row_10 : decode cX12_row 10 = .ok (.ldc2_w 387, 3) := by decide +kernel
theorem dX12_row_13 : decode cX12_row 13 = .ok (.invokestatic 109, 3) := by decide +kernel
theorem dX12_row_16 : decode cX12_row 16 = .ok (.ifCond .eq 9, 3) := by decide +kernel
theorem dX12_row_19 : decode cX12_row 19 = .ok (.iload_n 3, 1) := by decide +kernel
theorem dX12_row_20 : decode cX12_row 20 = .ok (.bipush 60, 2) := by decide +kernel
theorem dX12_row_22 : decode cX12_row 22 = .ok (.if_icmp .le 5, 3) := by decide +kernel
theorem dX12_row_25 : decode cX12_row 25 = .ok (.iconst (-1), 1) := by decide +kernel
theorem dX12_row_26 : decode cX12_row 26 = .ok (.ireturn, 1) := by decide +kernel
theorem dX12_row_27 : decode cX12_row 27 = .ok (.iload_n 3, 1) := by decide +kernel
theorem dX12_row_28 : decode cX12_row 28 = .ok (.ifCond .ge 6, 3) := by decide +kernel
theorem dX12_row_31 : decode cX12_row 31 = .ok (.bipush (-14), 2) := by decide +kernel
theorem dX12_row_33 : decode cX12_row 33 = .ok (.ireturn, 1) := by decide +kernel
theorem dX12_row_34 : decode cX12_row 34 = .ok (.aload_n 0, 1) := by decide +kernel
theorem dX12_row_35 : decode cX12_row 35 = .ok (.getfield 74, 3) := by decide +kernel
theorem dX12_row_38 : decode cX12_row 38 = .ok (.iload_n 1, 1) := by decide +kernel
theorem dX12_row_39 : decode cX12_row 39 = .ok (.bipush 50, 2) := by decide +kernel
theorem dX12_row_41 : decode cX12_row 41 = .ok (.iload_n 2, 1) := by decide +kernel
theorem dX12_row_42 : decode cX12_row 42 = .ok (.iadd, 1) := by decide +kernel
theorem dX12_row_43 : decode cX12_row 43 = .ok (.iastore, 1) := by decide +kernel
theorem dX12_row_44 : decode cX12_row 44 = .ok (.aload_n 0, 1) := by decide +kernel
theorem dX12_row_45 : decode cX12_row 45 = .ok (.getfield 77, 3) := by decide +kernel
theorem dX12_row_48 : decode cX12_row 48 = .ok (.iload_n 1, 1) := by decide +kernel
theorem dX12_row_49 : decode cX12_row 49 = .ok (.iload_n 3, 1) := by decide +kernel
theorem dX12_row_50 : decode cX12_row 50 = .ok (.iastore, 1) := by decide +kernel
theorem dX12_row_51 : decode cX12_row 51 = .ok (.bipush 60, 2) := by decide +kernel
theorem dX12_row_53 : decode cX12_row 53 = .ok (.iload_n 1, 1) := by decide +kernel
theorem dX12_row_54 : decode cX12_row 54 = .ok (.imul, 1) := by decide +kernel
theorem dX12_row_55 : decode cX12_row 55 = .ok (.istore 4, 2) := by decide +kernel
theorem dX12_row_57 : decode cX12_row 57 = .ok (.iload 4, 2) := by decide +kernel
theorem dX12_row_59 : decode cX12_row 59 = .ok (.bipush 60, 2) := by decide +kernel
theorem dX12_row_61 : decode cX12_row 61 = .ok (.iload_n 1, 1) := by decide +kernel
theorem dX12_row_62 : decode cX12_row 62 = .ok (.imul, 1) := by decide +kernel
theorem dX12_row_63 : decode cX12_row 63 = .ok (.bipush 60, 2) := by decide +kernel
theorem dX12_row_65 : decode cX12_row 65 = .ok (.iadd, 1) := by decide +kernel
theorem dX12_row_66 : decode cX12_row 66 = .ok (.if_icmp .ge 17, 3) := by decide +kernel
theorem dX12_row_69 : decode cX12_row 69 = .ok (.aload_n 0, 1) := by decide +kernel
theorem dX12_row_70 : decode cX12_row 70 = .ok (.getfield 80, 3) := by decide +kernel
theorem dX12_row_73 : decode cX12_row 73 = .ok (.iload 4, 2) := by decide +kernel
theorem dX12_row_75 : decode cX12_row 75 = .ok (.lconst 0, 1) := by decide +kernel
theorem dX12_row_76 : decode cX12_row 76 = .ok (.lastore, 1) := by decide +kernel
theorem dX12_row_77 : decode cX12_row 77 = .ok (.iinc 4 1, 3) := by decide +kernel
theorem dX12_row_80 : decode cX12_row 80 = .ok (.goto (-23), 3) := by decide +kernel
theorem dX12_row_83 : decode cX12_row 83 = .ok (.iconst 1, 1) := by decide +kernel
theorem dX12_row_84 : decode cX12_row 84 = .ok (.ireturn, 1) := by decide +kernel
set_option maxRecDepth 20000 in
theorem ggX12_refusal_X12_isShelf : GoodIn wsX12_refusal wsX12_isShelf := goodIn_r _ [6, 7, 8, 9, 5, 10] (by decide +kernel) (by decide +kernel)
set_option maxRecDepth 20000 in
theorem gX12_refusal_X12_isShelf : GoodIn wsX12_refusal (va_wsS RX12 127 yX12_isShelf wsX12_isShelf) := goodIn_app (goodIn_of _ (by decide +kernel)) ggX12_refusal_X12_isShelf
theorem dX12_refusal_0 : decode cX12_refusal 0 = .ok (.iload_n 1, 1) := by decide +kernel
theorem dX12_refusal_1 : decode cX12_refusal 1 = .ok (.invokestatic 127, 3) := by decide +kernel
theorem dX12_refusal_4 : decode cX12_refusal 4 = .ok (.ifCond .ne 5, 3) := by decide +kernel
theorem dX12_refusal_7 : decode cX12_refusal 7 = .ok (.iconst (-1), 1) := by decide +kernel
theorem dX12_refusal_8 : decode cX12_refusal 8 = .ok (.ireturn, 1) := by decide +kernel
theorem dX12_refusal_9 : decode cX12_refusal 9 = .ok (.aload_n 0, 1) := by decide +kernel
theorem dX12_refusal_10 : decode cX12_refusal 10 = .ok (.getfield 74, 3) := by decide +kernel
theorem dX12_refusal_13 : decode cX12_refusal 13 = .ok (.iload_n 1, 1) := by decide +kernel
theorem dX12_refusal_14 : decode cX12_refusal 14 = .ok (.iaload, 1) := by decide +kernel
theorem dX12_refusal_15 : decode cX12_refusal 15 = .ok (.ifCond .ge 6, 3) := by decide +kernel
theorem dX12_refusal_18 : decode cX12_refusal 18 = .ok (.bipush (-11), 2) := by decide +kernel
theorem dX12_refusal_20 : decode cX12_refusal 20 = .ok (.ireturn, 1) := by decide +kernel
set_option maxRecDepth 20000 in
theorem ggX12_put_X12_refusal : GoodIn wsX12_put wsX12_refusal := goodIn_r _ [7, 2, 8, 9, 10, 6, 11, 12, 13, 14, 15, 19, 20, 21, 22, 23, 24, 25, 26, 27, 28, 29, 30, 31, 32, 33, 34, 35, 36, 37, 38, 39, 40, 41, 42, 43, 44, 45, 46, 47, 48, 49, 50, 51, 52, 53, 54, 55, 56, 57, 58, 59, 60, 61, 62, 63, 64, 65, 66, 67, 68, 69, 70, 71, 72, 73] (by decide +kernel) (by decide +kernel)
set_option maxRecDepth 20000 in
theorem gX12_put_X12_refusal : GoodIn wsX12_put (wsV RX12 389 RX12 yX12_refusal wsX12_refusal) := goodIn_app (goodIn_of _ (by decide +kernel)) ggX12_put_X12_refusal
theorem dX12_put_0 : decode cX12_put 0 = .ok (.aload_n 0, 1) := by decide +kernel
theorem dX12_put_1 : decode cX12_put 1 = .ok (.iload_n 1, 1) := by decide +kernel
theorem dX12_put_2 : decode cX12_put 2 = .ok (.iload_n 2, 1) := by decide +kernel
theorem dX12_put_3 : decode cX12_put 3 = .ok (.invokevirtual 389, 3) := by decide +kernel
theorem dX12_put_6 : decode cX12_put 6 = .ok (.istore 5, 2) := by decide +kernel
theorem dX12_put_8 : decode cX12_put 8 = .ok (.iload 5, 2) := by decide +kernel
theorem dX12_put_10 : decode cX12_put 10 = .ok (.ifCond .ne 27, 3) := by decide +kernel
theorem dX12_put_37 : decode cX12_put 37 = .ok (.iload 5, 2) := by decide +kernel
theorem dX12_put_39 : decode cX12_put 39 = .ok (.ifCond .ne 7, 3) := by decide +kernel
theorem dX12_put_46 : decode cX12_put 46 = .ok (.iload 5, 2) := by decide +kernel
theorem dX12_put_48 : decode cX12_put 48 = .ok (.ireturn, 1) := by decide +kernel
set_option maxRecDepth 20000 in
theorem ggX12_element_X12_refusal : GoodIn wsX12_element wsX12_refusal := goodIn_r _ [7, 8, 9, 10, 11, 6, 12, 13, 14, 15, 16, 17, 18, 19, 20, 21, 22, 23, 24, 25, 26, 27, 28, 29, 30, 31, 32, 33, 34, 35, 36, 37, 38, 39, 40, 41, 42, 43, 44, 45, 46, 47, 48, 49, 50, 51, 52, 53, 54, 55, 56, 57, 58, 59, 60, 61, 62, 63, 64, 65, 66, 67, 68, 69, 70, 71] (by decide +kernel) (by decide +kernel)
set_option maxRecDepth 20000 in
theorem gX12_element_X12_refusal : GoodIn wsX12_element (wsV RX12 389 RX12 yX12_refusal wsX12_refusal) := goodIn_app (goodIn_of _ (by decide +kernel)) ggX12_element_X12_refusal
theorem dX12_element_0 : decode cX12_element 0 = .ok (.aload_n 0, 1) := by decide +kernel
theorem dX12_element_1 : decode cX12_element 1 = .ok (.iload_n 1, 1) := by decide +kernel
theorem dX12_element_2 : decode cX12_element 2 = .ok (.iload_n 2, 1) := by decide +kernel
theorem dX12_element_3 : decode cX12_element 3 = .ok (.invokevirtual 389, 3) := by decide +kernel
theorem dX12_element_6 : decode cX12_element 6 = .ok (.ifCond .eq 9, 3) := by decide +kernel
theorem dX12_element_9 : decode cX12_element 9 = .ok (.ldc2_w 398, 3) := by decide +kernel
theorem dX12_element_12 : decode cX12_element 12 = .ok (.goto 14, 3) := by decide +kernel
theorem dX12_element_26 : decode cX12_element 26 = .ok (.lreturn, 1) := by decide +kernel
set_option maxRecDepth 20000 in
theorem ggX12_shift_X12_isShelf : GoodIn wsX12_shift wsX12_isShelf := goodIn_r _ [8, 9, 10, 11, 7, 12] (by decide +kernel) (by decide +kernel)
set_option maxRecDepth 20000 in
theorem gX12_shift_X12_isShelf : GoodIn wsX12_shift (va_wsS RX12 127 yX12_isShelf wsX12_isShelf) := goodIn_app (goodIn_of _ (by decide +kernel)) ggX12_shift_X12_isShelf
theorem dX12_shift_0 : decode cX12_shift 0 = .ok (.iload_n 1, 1) := by decide +kernel
theorem dX12_shift_1 : decode cX12_shift 1 = .ok (.invokestatic 127, 3) := by decide +kernel
theorem dX12_shift_4 : decode cX12_shift 4 = .ok (.ifCond .eq 10, 3) := by decide +kernel
theorem dX12_shift_7 : decode cX12_shift 7 = .ok (.iload_n 3, 1) := by decide +kernel
theorem dX12_shift_8 : decode cX12_shift 8 = .ok (.invokestatic 127, 3) := by decide +kernel
theorem dX12_shift_11 : decode cX12_shift 11 = .ok (.ifCond .ne 5, 3) := by decide +kernel
theorem dX12_shift_14 : decode cX12_shift 14 = .ok (.iconst (-1), 1) := by decide +kernel
theorem dX12_shift_15 : decode cX12_shift 15 = .ok (.ireturn, 1) := by decide +kernel
theorem dX12_shift_16 : decode cX12_shift 16 = .ok (.aload_n 0, 1) := by decide +kernel
theorem dX12_shift_17 : decode cX12_shift 17 = .ok (.getfield 74, 3) := by decide +kernel
theorem dX12_shift_20 : decode cX12_shift 20 = .ok (.iload_n 1, 1) := by decide +kernel
theorem dX12_shift_21 : decode cX12_shift 21 = .ok (.iaload, 1) := by decide +kernel
theorem dX12_shift_22 : decode cX12_shift 22 = .ok (.ifCond .lt 12, 3) := by decide +kernel
theorem dX12_shift_34 : decode cX12_shift 34 = .ok (.bipush (-11), 2) := by decide +kernel
theorem dX12_shift_36 : decode cX12_shift 36 = .ok (.ireturn, 1) := by decide +kernel
set_option maxRecDepth 20000 in
theorem ggX12_taken_X12_isShelf : GoodIn wsX12_taken wsX12_isShelf := goodIn_r _ [6, 7, 8, 9, 5, 10] (by decide +kernel) (by decide +kernel)
set_option maxRecDepth 20000 in
theorem gX12_taken_X12_isShelf : GoodIn wsX12_taken (va_wsS RX12 127 yX12_isShelf wsX12_isShelf) := goodIn_app (goodIn_of _ (by decide +kernel)) ggX12_taken_X12_isShelf
set_option maxRecDepth 20000 in
theorem ggX12_taken_X12_within : GoodIn wsX12_taken wsX12_within := goodIn_r _ [10] (by decide +kernel) (by decide +kernel)
set_option maxRecDepth 20000 in
theorem gX12_taken_X12_within : GoodIn wsX12_taken (va_wsS RX12 109 yX12_within wsX12_within) := goodIn_app (goodIn_of _ (by decide +kernel)) ggX12_taken_X12_within
theorem dX12_taken_0 : decode cX12_taken 0 = .ok (.iload_n 1, 1) := by decide +kernel
theorem dX12_taken_1 : decode cX12_taken 1 = .ok (.invokestatic 127, 3) := by decide +kernel
theorem dX12_taken_4 : decode cX12_taken 4 = .ok (.ifCond .eq 15, 3) := by decide +kernel
theorem dX12_taken_7 : decode cX12_taken 7 = .ok (.iload_n 2, 1) := by decide +kernel
theorem dX12_taken_8 : decode cX12_taken 8 = .ok (.i2l, 1) := by decide +kernel
theorem dX12_taken_9 : decode cX12_taken 9 = .ok (.lconst 0, 1) := by decide +kernel
theorem dX12_taken_10 : decode cX12_taken 10 = .ok (.ldc2_w 133, 3) := by decide +kernel
theorem dX12_taken_13 : decode cX12_taken 13 = .ok (.invokestatic 109, 3) := by decide +kernel
theorem dX12_taken_16 : decode cX12_taken 16 = .ok (.ifCond .ne 5, 3) := by decide +kernel
theorem dX12_taken_19 : decode cX12_taken 19 = .ok (.iconst (-1), 1) := by decide +kernel
theorem dX12_taken_20 : decode cX12_taken 20 = .ok (.ireturn, 1) := by decide +kernel
theorem dX12_taken_21 : decode cX12_taken 21 = .ok (.aload_n 0, 1) := by decide +kernel
theorem dX12_taken_22 : decode cX12_taken 22 = .ok (.getfield 74, 3) := by decide +kernel
theorem dX12_taken_25 : decode cX12_taken 25 = .ok (.iload_n 1, 1) := by decide +kernel
theorem dX12_taken_26 : decode cX12_taken 26 = .ok (.iaload, 1) := by decide +kernel
theorem dX12_taken_27 : decode cX12_taken 27 = .ok (.ifCond .ge 6, 3) := by decide +kernel
theorem dX12_taken_30 : decode cX12_taken 30 = .ok (.bipush (-11), 2) := by decide +kernel
theorem dX12_taken_32 : decode cX12_taken 32 = .ok (.ireturn, 1) := by decide +kernel
theorem dX12_count_0 : decode cX12_count 0 = .ok (.iload_n 1, 1) := by decide +kernel
theorem dX12_count_1 : decode cX12_count 1 = .ok (.tableswitch 60 0 4 #[35, 40, 45, 50, 55], 35) := by decide +kernel
theorem dX12_count_36 : decode cX12_count 36 = .ok (.aload_n 0, 1) := by decide +kernel
theorem dX12_count_37 : decode cX12_count 37 = .ok (.getfield 106, 3) := by decide +kernel
theorem dX12_count_40 : decode cX12_count 40 = .ok (.ireturn, 1) := by decide +kernel
theorem dX12_count_41 : decode cX12_count 41 = .ok (.aload_n 0, 1) := by decide +kernel
theorem dX12_count_42 : decode cX12_count 42 = .ok (.getfield 156, 3) := by decide +kernel
theorem dX12_count_45 : decode cX12_count 45 = .ok (.ireturn, 1) := by decide +kernel
theorem dX12_count_46 : decode cX12_count 46 = .ok (.aload_n 0, 1) := by decide +kernel
theorem dX12_count_47 : decode cX12_count 47 = .ok (.getfield 100, 3) := by decide +kernel
theorem dX12_count_50 : decode cX12_count 50 = .ok (.ireturn, 1) := by decide +kernel
theorem dX12_count_51 : decode cX12_count 51 = .ok (.aload_n 0, 1) := by decide +kernel
theorem dX12_count_52 : decode cX12_count 52 = .ok (.getfield 355, 3) := by decide +kernel
theorem dX12_count_55 : decode cX12_count 55 = .ok (.ireturn, 1) := by decide +kernel
theorem dX12_count_56 : decode cX12_count 56 = .ok (.aload_n 0, 1) := by decide +kernel
theorem dX12_count_57 : decode cX12_count 57 = .ok (.getfield 358, 3) := by decide +kernel
theorem dX12_count_60 : decode cX12_count 60 = .ok (.ireturn, 1) := by decide +kernel
theorem dX12_count_61 : decode cX12_count 61 = .ok (.iconst (-1), 1) := by decide +kernel
theorem dX12_count_62 : decode cX12_count 62 = .ok (.ireturn, 1) := by decide +kernel
abbrev vwCl : List vw_C := [(RX0, TX0, 5), (RX1, TX1, 5), (RX2, TX2, 6), (RX3, TX3, 6), (RX4, TX4, 11), (RX5, TX5, 10), (RX6, TX6, 3), (RX7, TX7, 4), (RX8, TX8, 13), (RX9, TX9, 3), (RX10, TX10, 4), (RX11, TX11, 10), (RX12, TX12, 55)]
