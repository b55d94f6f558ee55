/-! names of the class's methods that are walked, out of the printed names -/
theorem goodIn_r {big : List Cond} (ws : List Cond) (ps : List Nat) (hp : ws = ps.filterMap (fun i => big[i]?)) (h : ws.all goodWord = true) : GoodIn big ws := by
  intro w hw
  have h1 := List.all_eq_true.mp h w hw
  rw [hp] at hw
  obtain ⟨i, -, hi⟩ := List.mem_filterMap.mp hw
  have hm : w ∈ big := by first | exact List.mem_of_getElem? hi | exact List.getElem?_mem hi
  exact ⟨hm, good_of_word h1⟩
theorem goodIn_app {big a b : List Cond} (ha : GoodIn big a) (hb : GoodIn big b) : GoodIn big (a ++ b) := fun w h => (List.mem_append.mp h).elim (ha w) (hb w)
def RX0 : String := "SetAgain$Chair"
def TX0 : u_T := fun k => match k with
  | 0 => ("SetAgain$Chair", "told", "[I", true)
  | 1 => ("SetAgain$Chair", "stands", "[I", true)
  | 2 => ("SetAgain$Chair", "law", "LSetAgain$Law;", true)
  | 3 => ("SetAgain$Chair", "sitters", "I", false)
  | _ => ("SetAgain$Chair", "lost", "[I", true)
abbrev wsX00 : List Cond := u_ws RX0 TX0 5
abbrev cX0_has : ByteArray := prog_2_method_2_code
def yX0_has : MethodName := ⟨RX0, "has", "(I)Z"⟩
abbrev cX0_numberOf : ByteArray := prog_2_method_6_code
def yX0_numberOf : MethodName := ⟨RX0, "numberOf", "(II)I"⟩
abbrev cX0_lossAt : ByteArray := prog_2_method_11_code
def yX0_lossAt : MethodName := ⟨RX0, "lossAt", "(III)I"⟩
def RX1 : String := "SetAgain$Changes"
def TX1 : u_T := fun k => match k with
  | 0 => ("SetAgain$Changes", "places", "[I", true)
  | 1 => ("SetAgain$Changes", "before", "[I", true)
  | 2 => ("SetAgain$Changes", "after", "[I", true)
  | 3 => ("SetAgain$Changes", "done", "I", false)
  | _ => ("SetAgain$Changes", "kept", "I", false)
def RX2 : String := "SetAgain$Deed"
def TX2 : u_T := fun k => match k with
  | 0 => ("SetAgain$Deed", "chair", "LSetAgain$Chair;", true)
  | 1 => ("SetAgain$Deed", "habits", "LSetAgain$Habits;", true)
  | 2 => ("SetAgain$Deed", "told", "[I", true)
  | 3 => ("SetAgain$Deed", "keptTold", "[I", true)
  | 4 => ("SetAgain$Deed", "keptStands", "[I", true)
  | _ => ("SetAgain$Deed", "kept", "Z", false)
def RX3 : String := "SetAgain$Desks"
def TX3 : u_T := fun k => match k with
  | 0 => ("SetAgain$Desks", "kinds", "[I", true)
  | 1 => ("SetAgain$Desks", "trace", "[I", true)
  | 2 => ("SetAgain$Desks", "kept", "I", false)
  | 3 => ("SetAgain$Desks", "ran", "I", false)
  | 4 => ("SetAgain$Desks", "kind", "I", false)
  | _ => ("SetAgain$Desks", "number", "I", false)
def RX4 : String := "SetAgain$Habits"
def TX4 : u_T := fun k => match k with
  | 0 => ("SetAgain$Habits", "chair", "LSetAgain$Chair;", true)
  | 1 => ("SetAgain$Habits", "week", "LSetAgain$Week;", true)
  | 2 => ("SetAgain$Habits", "stand", "[I", true)
  | 3 => ("SetAgain$Habits", "turns", "[I", true)
  | 4 => ("SetAgain$Habits", "spared", "[I", true)
  | 5 => ("SetAgain$Habits", "losses", "I", false)
  | 6 => ("SetAgain$Habits", "costs", "I", false)
  | 7 => ("SetAgain$Habits", "tried", "I", false)
  | 8 => ("SetAgain$Habits", "triedNear", "I", false)
  | 9 => ("SetAgain$Habits", "leaver", "I", false)
  | _ => ("SetAgain$Habits", "left", "I", false)
def RX5 : String := "SetAgain$Law"
def TX5 : u_T := fun k => match k with
  | 0 => ("SetAgain$Law", "tape", "[I", true)
  | 1 => ("SetAgain$Law", "length", "I", false)
  | 2 => ("SetAgain$Law", "holds", "Z", false)
  | 3 => ("SetAgain$Law", "draft", "[I", true)
  | 4 => ("SetAgain$Law", "code", "[I", true)
  | 5 => ("SetAgain$Law", "stack", "[I", true)
  | 6 => ("SetAgain$Law", "at", "I", false)
  | 7 => ("SetAgain$Law", "fault", "I", false)
  | 8 => ("SetAgain$Law", "drafted", "I", false)
  | _ => ("SetAgain$Law", "coded", "I", false)
abbrev wsX50 : List Cond := u_ws RX5 TX5 10
abbrev cX5_valueOf : ByteArray := prog_7_method_19_code
def yX5_valueOf : MethodName := ⟨RX5, "valueOf", "(IIII)I"⟩
abbrev cX5_operands : ByteArray := prog_7_method_20_code
def yX5_operands : MethodName := ⟨RX5, "operands", "(I)I"⟩
abbrev cX5_named : ByteArray := prog_7_method_21_code
def yX5_named : MethodName := ⟨RX5, "named", "(IIIII)I"⟩
abbrev cX5_worked : ByteArray := prog_7_method_22_code
def yX5_worked : MethodName := ⟨RX5, "worked", "(III)I"⟩
def RX6 : String := "SetAgain$Seen"
def TX6 : u_T := fun k => match k with
  | 0 => ("SetAgain$Seen", "chair", "LSetAgain$Chair;", true)
  | 1 => ("SetAgain$Seen", "row", "LSetAgain$Shelf;", false)
  | _ => ("SetAgain$Seen", "part", "I", false)
def RX7 : String := "SetAgain$Shelf"
def TX7 : u_T := fun k => match k with
  | 0 => ("SetAgain$Shelf", "elements", "[J", true)
  | 1 => ("SetAgain$Shelf", "sort", "I", false)
  | 2 => ("SetAgain$Shelf", "length", "I", false)
  | _ => ("SetAgain$Shelf", "desk", "I", false)
abbrev wsX70 : List Cond := u_ws RX7 TX7 4
def RX8 : String := "SetAgain$Still"
def TX8 : u_T := fun k => match k with
  | 0 => ("SetAgain$Still", "chair", "LSetAgain$Chair;", true)
  | 1 => ("SetAgain$Still", "week", "LSetAgain$Week;", true)
  | 2 => ("SetAgain$Still", "weight", "[I", true)
  | 3 => ("SetAgain$Still", "wanted", "[Z", true)
  | 4 => ("SetAgain$Still", "ones", "[I", true)
  | 5 => ("SetAgain$Still", "sums", "[I", true)
  | 6 => ("SetAgain$Still", "leasts", "[I", true)
  | 7 => ("SetAgain$Still", "group", "[I", true)
  | 8 => ("SetAgain$Still", "bestGroup", "[I", true)
  | 9 => ("SetAgain$Still", "sitting", "I", false)
  | 10 => ("SetAgain$Still", "free", "I", false)
  | 11 => ("SetAgain$Still", "least", "I", false)
  | _ => ("SetAgain$Still", "found", "Z", false)
abbrev wsX80 : List Cond := u_ws RX8 TX8 13
abbrev cX8_allLosses : ByteArray := prog_10_method_2_code
def yX8_allLosses : MethodName := ⟨RX8, "allLosses", "(II)I"⟩
def RX9 : String := "SetAgain$Turning"
def TX9 : u_T := fun k => match k with
  | 0 => ("SetAgain$Turning", "chair", "LSetAgain$Chair;", true)
  | 1 => ("SetAgain$Turning", "week", "LSetAgain$Week;", true)
  | _ => ("SetAgain$Turning", "ahead", "[I", true)
def RX10 : String := "SetAgain$Week"
def TX10 : u_T := fun k => match k with
  | 0 => ("SetAgain$Week", "sitters", "[I", true)
  | 1 => ("SetAgain$Week", "times", "[I", true)
  | 2 => ("SetAgain$Week", "length", "I", false)
  | _ => ("SetAgain$Week", "sat", "I", false)
abbrev wsX100 : List Cond := u_ws RX10 TX10 4
abbrev cX10_reads : ByteArray := prog_12_method_2_code
def yX10_reads : MethodName := ⟨RX10, "reads", "(LSetAgain$Shelf;I)V"⟩
def RX11 : String := "SetAgain"
def TX11 : u_T := fun k => match k with
  | 0 => ("SetAgain", "chair", "LSetAgain$Chair;", true)
  | 1 => ("SetAgain", "week", "LSetAgain$Week;", true)
  | 2 => ("SetAgain", "habits", "LSetAgain$Habits;", true)
  | 3 => ("SetAgain", "still", "LSetAgain$Still;", true)
  | 4 => ("SetAgain", "turning", "LSetAgain$Turning;", true)
  | 5 => ("SetAgain", "seen", "LSetAgain$Seen;", true)
  | 6 => ("SetAgain", "deed", "LSetAgain$Deed;", true)
  | 7 => ("SetAgain", "changes", "LSetAgain$Changes;", true)
  | 8 => ("SetAgain", "desks", "LSetAgain$Desks;", true)
  | _ => ("SetAgain", "shelves", "[LSetAgain$Shelf;", true)
abbrev wsX110 : List Cond := u_ws RX11 TX11 10
abbrev cX11_never : ByteArray := prog_1_method_9_code
def yX11_never : MethodName := ⟨RX11, "never", "(III)I"⟩
abbrev cX11_isPart : ByteArray := prog_1_method_42_code
def yX11_isPart : MethodName := ⟨RX11, "isPart", "(I)Z"⟩
abbrev cX11_isSetting : ByteArray := prog_1_method_43_code
def yX11_isSetting : MethodName := ⟨RX11, "isSetting", "(I)Z"⟩
abbrev cX11_isShelf : ByteArray := prog_1_method_44_code
def yX11_isShelf : MethodName := ⟨RX11, "isShelf", "(I)Z"⟩
abbrev cX11_isKind : ByteArray := prog_1_method_45_code
def yX11_isKind : MethodName := ⟨RX11, "isKind", "(I)Z"⟩
abbrev cX11_refusalOf : ByteArray := prog_1_method_47_code
def yX11_refusalOf : MethodName := ⟨RX11, "refusalOf", "(I)I"⟩
abbrev cX11_readWeek : ByteArray := prog_1_method_48_code
def yX11_readWeek : MethodName := ⟨RX11, "readWeek", "(I)I"⟩
def RX12 : String := "SetAgainModel"
def TX12 : u_T := fun k => match k with
  | 0 => ("SetAgainModel", "may", "[I", true)
  | 1 => ("SetAgainModel", "changeAt", "[I", true)
  | 2 => ("SetAgainModel", "changeWas", "[I", true)
  | 3 => ("SetAgainModel", "changeIs", "[I", true)
  | 4 => ("SetAgainModel", "keptMany", "I", false)
  | 5 => ("SetAgainModel", "done", "I", false)
  | 6 => ("SetAgainModel", "sitters", "I", false)
  | 7 => ("SetAgainModel", "stands", "[I", true)
  | 8 => ("SetAgainModel", "tape", "[I", true)
  | 9 => ("SetAgainModel", "tapeMany", "I", false)
  | 10 => ("SetAgainModel", "text", "[I", true)
  | 11 => ("SetAgainModel", "textMany", "I", false)
  | 12 => ("SetAgainModel", "base", "I", false)
  | 13 => ("SetAgainModel", "at", "I", false)
  | 14 => ("SetAgainModel", "ends", "I", false)
  | 15 => ("SetAgainModel", "fault", "I", false)
  | 16 => ("SetAgainModel", "opened", "I", false)
  | 17 => ("SetAgainModel", "names", "[I", true)
  | 18 => ("SetAgainModel", "lossIn", "[I", true)
  | 19 => ("SetAgainModel", "leastFrom", "[I", true)
  | 20 => ("SetAgainModel", "nearOf", "I", false)
  | 21 => ("SetAgainModel", "nearIs", "I", false)
  | 22 => ("SetAgainModel", "memorySet", "I", false)
  | 23 => ("SetAgainModel", "isMarked", "Z", false)
  | 24 => ("SetAgainModel", "wilfulOf", "I", false)
  | 25 => ("SetAgainModel", "wilfulTo", "I", false)
  | 26 => ("SetAgainModel", "isIll", "[Z", true)
  | 27 => ("SetAgainModel", "stand1", "[I", true)
  | 28 => ("SetAgainModel", "standBehind", "[I", true)
  | 29 => ("SetAgainModel", "turnsAll", "I", false)
  | 30 => ("SetAgainModel", "lossesAll", "I", false)
  | 31 => ("SetAgainModel", "turnCosts", "I", false)
  | 32 => ("SetAgainModel", "lossAt", "[I", true)
  | 33 => ("SetAgainModel", "chairOf", "[I", true)
  | 34 => ("SetAgainModel", "bestChair", "[I", true)
  | 35 => ("SetAgainModel", "leastChairs", "I", false)
  | 36 => ("SetAgainModel", "canStand", "[Z", true)
  | 37 => ("SetAgainModel", "canGoOn", "[Z", true)
  | 38 => ("SetAgainModel", "ledShifts", "I", false)
  | 39 => ("SetAgainModel", "ledTurns", "I", false)
  | 40 => ("SetAgainModel", "ledLosses", "I", false)
  | 41 => ("SetAgainModel", "ledDearest", "I", false)
  | 42 => ("SetAgainModel", "ledWho", "I", false)
  | 43 => ("SetAgainModel", "isKept", "Z", false)
  | 44 => ("SetAgainModel", "image", "[I", true)
  | 45 => ("SetAgainModel", "bodies", "I", false)
  | 46 => ("SetAgainModel", "bodyKind", "[I", true)
  | 47 => ("SetAgainModel", "trace", "[I", true)
  | 48 => ("SetAgainModel", "ran", "I", false)
  | 49 => ("SetAgainModel", "ownKind", "I", false)
  | 50 => ("SetAgainModel", "ownNumber", "I", false)
  | 51 => ("SetAgainModel", "shelf", "[I", true)
  | 52 => ("SetAgainModel", "many", "[I", true)
  | 53 => ("SetAgainModel", "items", "[J", true)
  | _ => ("SetAgainModel", "carried", "[J", true)
def wsX0_has : List Cond := .code yX0_has cX0_has 2 (some .boolean) :: ([.fieldLink RX0 28 "SetAgain$Chair" "sitters" "I"] ++ wsX00)
def wsX11_isSetting : List Cond := .code yX11_isSetting cX11_isSetting 1 (some .boolean) :: ([])
def wsX11_isShelf : List Cond := .code yX11_isShelf cX11_isShelf 1 (some .boolean) :: ([])
def wsX11_isPart : List Cond := .code yX11_isPart cX11_isPart 1 (some .boolean) :: ([])
def wsX11_refusalOf : List Cond := .code yX11_refusalOf cX11_refusalOf 2 (some .int) :: ([.fieldLink RX11 80 "SetAgain" "shelves" "[LSetAgain$Shelf;", .fieldLink RX11 100 "SetAgain$Shelf" "sort" "I"] ++ wsX110 ++ wsX70)
def wsX11_readWeek_r1 : List Cond := [Cond.fieldLink RX11 19 "SetAgain" "week" "LSetAgain$Week;", Cond.fieldLink RX11 80 "SetAgain" "shelves" "[LSetAgain$Shelf;", Cond.fieldLink RX11 12 "SetAgain" "chair" "LSetAgain$Chair;", Cond.fieldLink RX11 310 "SetAgain$Chair" "sitters" "I", Cond.methodLink RX11 209 yX11_refusalOf, Cond.instanceMethod yX11_refusalOf, Cond.selects RX11 yX11_refusalOf yX11_refusalOf, Cond.initialized RX11, Cond.code yX11_refusalOf cX11_refusalOf 2 (some .int), Cond.fieldLink RX11 100 "SetAgain$Shelf" "sort" "I", Cond.methodLink RX11 320 yX10_reads, Cond.instanceMethod yX10_reads, Cond.selects RX10 yX10_reads yX10_reads, Cond.initialized RX10, Cond.code yX10_reads cX10_reads 5 none, Cond.fieldLink RX10 18 "SetAgain$Shelf" "length" "I", Cond.methodLink RX10 24 Lib.Math.min.name, Cond.static Lib.Math.min.name, Cond.initialized "java/lang/Math", Cond.code Lib.Math.min.name Lib.Math.min.code 2 (some .int), Cond.fieldLink RX10 30 "SetAgain$Week" "length" "I", Cond.fieldLink RX10 31 "SetAgain$Week" "sat" "I", Cond.fieldLink RX10 15 "SetAgain$Week" "times" "[I", Cond.fieldLink RX10 34 "SetAgain$Shelf" "elements" "[J"]
def wsX11_readWeek_r2 : List Cond := [Cond.fieldLink RX10 9 "SetAgain$Week" "sitters" "[I"]
def wsX11_readWeek : List Cond := .code yX11_readWeek cX11_readWeek 3 (some .int) :: ((wsX11_readWeek_r1 ++ wsX11_readWeek_r2) ++ wsX110 ++ wsX00 ++ wsX70 ++ wsX100)
def wsX11_never_r1 : List Cond := [Cond.fieldLink RX11 35 "SetAgain" "still" "LSetAgain$Still;", Cond.methodLink RX11 97 yX11_isShelf, Cond.static yX11_isShelf, Cond.initialized RX11, Cond.code yX11_isShelf cX11_isShelf 1 (some .boolean), Cond.methodLink RX11 123 yX11_isPart, Cond.static yX11_isPart, Cond.code yX11_isPart cX11_isPart 1 (some .boolean), Cond.methodLink RX11 85 yX11_isSetting, Cond.static yX11_isSetting, Cond.code yX11_isSetting cX11_isSetting 1 (some .boolean), Cond.methodLink RX11 153 yX11_readWeek, Cond.instanceMethod yX11_readWeek, Cond.selects RX11 yX11_readWeek yX11_readWeek, Cond.code yX11_readWeek cX11_readWeek 3 (some .int), Cond.fieldLink RX11 19 "SetAgain" "week" "LSetAgain$Week;", Cond.fieldLink RX11 80 "SetAgain" "shelves" "[LSetAgain$Shelf;", Cond.fieldLink RX11 12 "SetAgain" "chair" "LSetAgain$Chair;", Cond.fieldLink RX11 310 "SetAgain$Chair" "sitters" "I", Cond.methodLink RX11 209 yX11_refusalOf, Cond.instanceMethod yX11_refusalOf, Cond.selects RX11 yX11_refusalOf yX11_refusalOf, Cond.code yX11_refusalOf cX11_refusalOf 2 (some .int), Cond.fieldLink RX11 100 "SetAgain$Shelf" "sort" "I"]
def wsX11_never_r2 : List Cond := [Cond.methodLink RX11 320 yX10_reads, Cond.instanceMethod yX10_reads, Cond.selects RX10 yX10_reads yX10_reads, Cond.initialized RX10, Cond.code yX10_reads cX10_reads 5 none, Cond.fieldLink RX10 18 "SetAgain$Shelf" "length" "I", Cond.methodLink RX10 24 Lib.Math.min.name, Cond.static Lib.Math.min.name, Cond.initialized "java/lang/Math", Cond.code Lib.Math.min.name Lib.Math.min.code 2 (some .int), Cond.fieldLink RX10 30 "SetAgain$Week" "length" "I", Cond.fieldLink RX10 31 "SetAgain$Week" "sat" "I", Cond.fieldLink RX10 15 "SetAgain$Week" "times" "[I", Cond.fieldLink RX10 34 "SetAgain$Shelf" "elements" "[J", Cond.fieldLink RX10 9 "SetAgain$Week" "sitters" "[I", Cond.methodLink RX11 156 yX8_allLosses, Cond.instanceMethod yX8_allLosses, Cond.selects RX8 yX8_allLosses yX8_allLosses, Cond.initialized RX8, Cond.code yX8_allLosses cX8_allLosses 5 (some .int), Cond.fieldLink RX8 38 "SetAgain$Still" "week" "LSetAgain$Week;", Cond.fieldLink RX8 42 "SetAgain$Week" "times" "[I", Cond.fieldLink RX8 34 "SetAgain$Still" "chair" "LSetAgain$Chair;", Cond.methodLink RX8 47 yX0_lossAt]
def wsX11_never_r3 : List Cond := [Cond.instanceMethod yX0_lossAt, Cond.selects RX0 yX0_lossAt yX0_lossAt, Cond.initialized RX0, Cond.code yX0_lossAt cX0_lossAt 9 (some .int), Cond.fieldLink RX0 25 "SetAgain$Chair" "lost" "[I", Cond.fieldLink RX0 21 "SetAgain$Chair" "law" "LSetAgain$Law;", Cond.fieldLink RX0 49 "SetAgain$Law" "holds" "Z", Cond.methodLink RX0 45 Lib.Math.abs.name, Cond.static Lib.Math.abs.name, Cond.code Lib.Math.abs.name Lib.Math.abs.code 1 (some .int), Cond.methodLink RX0 57 Lib.Math.min.name, Cond.methodLink RX0 36 Lib.Math.max.name, Cond.static Lib.Math.max.name, Cond.code Lib.Math.max.name Lib.Math.max.code 2 (some .int), Cond.methodLink RX0 42 yX0_numberOf, Cond.instanceMethod yX0_numberOf, Cond.selects RX0 yX0_numberOf yX0_numberOf, Cond.code yX0_numberOf cX0_numberOf 3 (some .int), Cond.fieldLink RX0 11 "SetAgain$Chair" "told" "[I", Cond.methodLink RX0 53 yX5_valueOf, Cond.instanceMethod yX5_valueOf, Cond.selects RX5 yX5_valueOf yX5_valueOf, Cond.initialized RX5, Cond.code yX5_valueOf cX5_valueOf 10 (some .int)]
def wsX11_never_r4 : List Cond := [Cond.fieldLink RX5 46 "SetAgain$Law" "coded" "I", Cond.fieldLink RX5 18 "SetAgain$Law" "code" "[I", Cond.fieldLink RX5 21 "SetAgain$Law" "stack" "[I", Cond.methodLink RX5 99 yX5_operands, Cond.static yX5_operands, Cond.code yX5_operands cX5_operands 1 (some .int), Cond.methodLink RX5 103 yX5_named, Cond.static yX5_named, Cond.code yX5_named cX5_named 5 (some .int), Cond.methodLink RX5 111 Lib.Math.abs.name, Cond.methodLink RX5 107 yX5_worked, Cond.static yX5_worked, Cond.code yX5_worked cX5_worked 3 (some .int)]
def wsX11_never : List Cond := .code yX11_never cX11_never 5 (some .int) :: ((wsX11_never_r1 ++ (wsX11_never_r2 ++ (wsX11_never_r3 ++ wsX11_never_r4))) ++ wsX110 ++ wsX00 ++ wsX70 ++ wsX100 ++ wsX80 ++ wsX50)
def wsX11_isKind : List Cond := .code yX11_isKind cX11_isKind 1 (some .boolean) :: ([])
theorem dX0_has_0 : decode cX0_has 0 = .ok (.iload_n 1, 1) := by decide +kernel
theorem dX0_has_1 : decode cX0_has 1 = .ok (.ifCond .lt 15, 3) := by decide +kernel
theorem dX0_has_4 : decode cX0_has 4 = .ok (.iload_n 1, 1) := by decide +kernel
theorem dX0_has_5 : decode cX0_has 5 = .ok (.aload_n 0, 1) := by decide +kernel
theorem dX0_has_6 : decode cX0_has 6 = .ok (.getfield 28, 3) := by decide +kernel
theorem dX0_has_9 : decode cX0_has 9 = .ok (.if_icmp .ge 7, 3) := by decide +kernel
theorem dX0_has_16 : decode cX0_has 16 = .ok (.iconst 0, 1) := by decide +kernel
theorem dX0_has_17 : decode cX0_has 17 = .ok (.ireturn, 1) := by decide +kernel
set_option maxRecDepth 20000 in
theorem ggX11_never_X11_isShelf : GoodIn wsX11_never wsX11_isShelf := goodIn_r _ [5] (by decide +kernel) (by decide +kernel)
set_option maxRecDepth 20000 in
theorem gX11_never_X11_isShelf : GoodIn wsX11_never (va_wsS RX11 97 yX11_isShelf wsX11_isShelf) := goodIn_app (goodIn_of _ (by decide +kernel)) ggX11_never_X11_isShelf
set_option maxRecDepth 20000 in
theorem ggX11_never_X11_isPart : GoodIn wsX11_never wsX11_isPart := goodIn_r _ [8] (by decide +kernel) (by decide +kernel)
set_option maxRecDepth 20000 in
theorem gX11_never_X11_isPart : GoodIn wsX11_never (va_wsS RX11 123 yX11_isPart wsX11_isPart) := goodIn_app (goodIn_of _ (by decide +kernel)) ggX11_never_X11_isPart
set_option maxRecDepth 20000 in
theorem ggX11_never_X11_isSetting : GoodIn wsX11_never wsX11_isSetting := goodIn_r _ [11] (by decide +kernel) (by decide +kernel)
set_option maxRecDepth 20000 in
theorem gX11_never_X11_isSetting : GoodIn wsX11_never (va_wsS RX11 85 yX11_isSetting wsX11_isSetting) := goodIn_app (goodIn_of _ (by decide +kernel)) ggX11_never_X11_isSetting
set_option maxRecDepth 20000 in
theorem ggX11_never_X11_readWeek : GoodIn wsX11_never wsX11_readWeek := goodIn_r _ [15, 16, 17, 18, 19, 20, 21, 22, 4, 23, 24, 25, 26, 27, 28, 29, 30, 31, 32, 33, 34, 35, 36, 37, 38, 39, 86, 87, 88, 89, 90, 91, 92, 93, 94, 95, 96, 97, 98, 99, 100, 101, 102, 103, 104, 105, 106, 107, 108] (by decide +kernel) (by decide +kernel)
set_option maxRecDepth 20000 in
theorem gX11_never_X11_readWeek : GoodIn wsX11_never (wsV RX11 153 RX11 yX11_readWeek wsX11_readWeek) := goodIn_app (goodIn_of _ (by decide +kernel)) ggX11_never_X11_readWeek
theorem dX11_never_0 : decode cX11_never 0 = .ok (.iload_n 1, 1) := by decide +kernel
theorem dX11_never_1 : decode cX11_never 1 = .ok (.invokestatic 97, 3) := by decide +kernel
theorem dX11_never_4 : decode cX11_never 4 = .ok (.ifCond .eq 17, 3) := by decide +kernel
theorem dX11_never_7 : decode cX11_never 7 = .ok (.iload_n 2, 1) := by decide +kernel
theorem dX11_never_8 : decode cX11_never 8 = .ok (.invokestatic 123, 3) := by decide +kernel
theorem dX11_never_11 : decode cX11_never 11 = .ok (.ifCond .eq 10, 3) := by decide +kernel
theorem dX11_never_14 : decode cX11_never 14 = .ok (.iload_n 3, 1) := by decide +kernel
theorem dX11_never_15 : decode cX11_never 15 = .ok (.invokestatic 85, 3) := by decide +kernel
theorem dX11_never_18 : decode cX11_never 18 = .ok (.ifCond .ne 5, 3) := by decide +kernel
theorem dX11_never_21 : decode cX11_never 21 = .ok (.iconst (-1), 1) := by decide +kernel
theorem dX11_never_22 : decode cX11_never 22 = .ok (.ireturn, 1) := by decide +kernel
theorem dX11_never_23 : decode cX11_never 23 = .ok (.aload_n 0, 1) := by decide +kernel
theorem dX11_never_24 : decode cX11_never 24 = .ok (.iload_n 1, 1) := by decide +kernel
theorem dX11_never_25 : decode cX11_never 25 = .ok (.invokevirtual 153, 3) := by decide +kernel
theorem dX11_never_28 : decode cX11_never 28 = .ok (.istore 4, 2) := by decide +kernel
theorem dX11_never_30 : decode cX11_never 30 = .ok (.iload 4, 2) := by decide +kernel
theorem dX11_never_32 : decode cX11_never 32 = .ok (.ifCond .eq 8, 3) := by decide +kernel
theorem dX11_never_35 : decode cX11_never 35 = .ok (.iload 4, 2) := by decide +kernel
theorem dX11_never_37 : decode cX11_never 37 = .ok (.goto 12, 3) := by decide +kernel
theorem dX11_never_49 : decode cX11_never 49 = .ok (.ireturn, 1) := by decide +kernel
theorem dX11_isPart_0 : decode cX11_isPart 0 = .ok (.iload_n 0, 1) := by decide +kernel
theorem dX11_isPart_1 : decode cX11_isPart 1 = .ok (.ifCond .lt 12, 3) := by decide +kernel
theorem dX11_isPart_4 : decode cX11_isPart 4 = .ok (.iload_n 0, 1) := by decide +kernel
theorem dX11_isPart_5 : decode cX11_isPart 5 = .ok (.iconst 3, 1) := by decide +kernel
theorem dX11_isPart_6 : decode cX11_isPart 6 = .ok (.if_icmp .ge 7, 3) := by decide +kernel
theorem dX11_isPart_9 : decode cX11_isPart 9 = .ok (.iconst 1, 1) := by decide +kernel
theorem dX11_isPart_10 : decode cX11_isPart 10 = .ok (.goto 4, 3) := by decide +kernel
theorem dX11_isPart_13 : decode cX11_isPart 13 = .ok (.iconst 0, 1) := by decide +kernel
theorem dX11_isPart_14 : decode cX11_isPart 14 = .ok (.ireturn, 1) := by decide +kernel
theorem dX11_isSetting_0 : decode cX11_isSetting 0 = .ok (.iload_n 0, 1) := by decide +kernel
theorem dX11_isSetting_1 : decode cX11_isSetting 1 = .ok (.ifCond .lt 13, 3) := by decide +kernel
theorem dX11_isSetting_4 : decode cX11_isSetting 4 = .ok (.iload_n 0, 1) := by decide +kernel
theorem dX11_isSetting_5 : decode cX11_isSetting 5 = .ok (.bipush 60, 2) := by decide +kernel
theorem dX11_isSetting_7 : decode cX11_isSetting 7 = .ok (.if_icmp .gt 7, 3) := by decide +kernel
theorem dX11_isSetting_10 : decode cX11_isSetting 10 = .ok (.iconst 1, 1) := by decide +kernel
theorem dX11_isSetting_11 : decode cX11_isSetting 11 = .ok (.goto 4, 3) := by decide +kernel
theorem dX11_isSetting_14 : decode cX11_isSetting 14 = .ok (.iconst 0, 1) := by decide +kernel
theorem dX11_isSetting_15 : decode cX11_isSetting 15 = .ok (.ireturn, 1) := by decide +kernel
theorem dX11_isShelf_0 : decode cX11_isShelf 0 = .ok (.iload_n 0, 1) := by decide +kernel
theorem dX11_isShelf_1 : decode cX11_isShelf 1 = .ok (.ifCond .lt 13, 3) := by decide +kernel
theorem dX11_isShelf_4 : decode cX11_isShelf 4 = .ok (.iload_n 0, 1) := by decide +kernel
theorem dX11_isShelf_5 : decode cX11_isShelf 5 = .ok (.bipush 6, 2) := by decide +kernel
theorem dX11_isShelf_7 : decode cX11_isShelf 7 = .ok (.if_icmp .ge 7, 3) := by decide +kernel
theorem dX11_isShelf_10 : decode cX11_isShelf 10 = .ok (.iconst 1, 1) := by decide +kernel
theorem dX11_isShelf_11 : decode cX11_isShelf 11 = .ok (.goto 4, 3) := by decide +kernel
theorem dX11_isShelf_14 : decode cX11_isShelf 14 = .ok (.iconst 0, 1) := by decide +kernel
theorem dX11_isShelf_15 : decode cX11_isShelf 15 = .ok (.ireturn, 1) := by decide +kernel
theorem dX11_isKind_0 : decode cX11_isKind 0 = .ok (.iload_n 0, 1) := by decide +kernel
theorem dX11_isKind_1 : decode cX11_isKind 1 = .ok (.ifCond .lt 13, 3) := by decide +kernel
theorem dX11_isKind_4 : decode cX11_isKind 4 = .ok (.iload_n 0, 1) := by decide +kernel
theorem dX11_isKind_5 : decode cX11_isKind 5 = .ok (.bipush 8, 2) := by decide +kernel
theorem dX11_isKind_7 : decode cX11_isKind 7 = .ok (.if_icmp .ge 7, 3) := by decide +kernel
theorem dX11_isKind_10 : decode cX11_isKind 10 = .ok (.iconst 1, 1) := by decide +kernel
theorem dX11_isKind_11 : decode cX11_isKind 11 = .ok (.goto 4, 3) := by decide +kernel
theorem dX11_isKind_14 : decode cX11_isKind 14 = .ok (.iconst 0, 1) := by decide +kernel
theorem dX11_isKind_15 : decode cX11_isKind 15 = .ok (.ireturn, 1) := by decide +kernel
theorem dX11_refusalOf_0 : decode cX11_refusalOf 0 = .ok (.aload_n 0, 1) := by decide +kernel
theorem dX11_refusalOf_1 : decode cX11_refusalOf 1 = .ok (.getfield 80, 3) := by decide +kernel
theorem dX11_refusalOf_4 : decode cX11_refusalOf 4 = .ok (.iload_n 1, 1) := by decide +kernel
theorem dX11_refusalOf_5 : decode cX11_refusalOf 5 = .ok (.aaload, 1) := by decide +kernel
theorem dX11_refusalOf_6 : decode cX11_refusalOf 6 = .ok (.getfield 100, 3) := by decide +kernel
theorem dX11_refusalOf_9 : decode cX11_refusalOf 9 = .ok (.iconst (-1), 1) := by decide +kernel
theorem dX11_refusalOf_10 : decode cX11_refusalOf 10 = .ok (.if_icmp .ne 6, 3) := by decide +kernel
theorem dX11_refusalOf_13 : decode cX11_refusalOf 13 = .ok (.bipush (-11), 2) := by decide +kernel
theorem dX11_refusalOf_15 : decode cX11_refusalOf 15 = .ok (.ireturn, 1) := by decide +kernel
set_option maxRecDepth 20000 in
theorem ggX11_readWeek_X11_refusalOf : GoodIn wsX11_readWeek wsX11_refusalOf := goodIn_r _ [9, 2, 10, 26, 27, 28, 29, 30, 31, 32, 33, 34, 35, 41, 42, 43, 44] (by decide +kernel) (by decide +kernel)
set_option maxRecDepth 20000 in
theorem gX11_readWeek_X11_refusalOf : GoodIn wsX11_readWeek (wsV RX11 209 RX11 yX11_refusalOf wsX11_refusalOf) := goodIn_app (goodIn_of _ (by decide +kernel)) ggX11_readWeek_X11_refusalOf
theorem dX11_readWeek_0 : decode cX11_readWeek 0 = .ok (.aload_n 0, 1) := by decide +kernel
theorem dX11_readWeek_1 : decode cX11_readWeek 1 = .ok (.iload_n 1, 1) := by decide +kernel
theorem dX11_readWeek_2 : decode cX11_readWeek 2 = .ok (.invokevirtual 209, 3) := by decide +kernel
theorem dX11_readWeek_5 : decode cX11_readWeek 5 = .ok (.istore_n 2, 1) := by decide +kernel
theorem dX11_readWeek_6 : decode cX11_readWeek 6 = .ok (.iload_n 2, 1) := by decide +kernel
theorem dX11_readWeek_7 : decode cX11_readWeek 7 = .ok (.ifCond .ne 23, 3) := by decide +kernel
theorem dX11_readWeek_30 : decode cX11_readWeek 30 = .ok (.iload_n 2, 1) := by decide +kernel
theorem dX11_readWeek_31 : decode cX11_readWeek 31 = .ok (.ireturn, 1) := by decide +kernel
abbrev vwCl : List vw_C := [(RX0, TX0, 5), (RX1, TX1, 5), (RX2, TX2, 6), (RX3, TX3, 6), (RX4, TX4, 11), (RX5, TX5, 10), (RX6, TX6, 3), (RX7, TX7, 4), (RX8, TX8, 13), (RX9, TX9, 3), (RX10, TX10, 4), (RX11, TX11, 10), (RX12, TX12, 55)]
