/-! names of the classes' methods that are walked, out of the printed names -/
def RL : String := "SetAgainLaw"
abbrev cL_law : ByteArray := code
def wsL_law_r1 : List Cond := [Cond.classLink RL 7 RX11, Cond.instantiable RX11 10, Cond.initialized RX11, Cond.classLink RL 10 RX12, Cond.instantiable RX12 55, Cond.initialized RX12, Cond.constantLong RL 158 (4294967295), Cond.methodLink RL 9 yX11_init, Cond.instanceMethod yX11_init, Cond.code yX11_init cX11_init 2 none, Cond.methodLink RX11 3 objectInit, Cond.instanceMethod objectInit, Cond.code objectInit ⟨#[0xb1]⟩ 1 none, Cond.classLink RX11 9 RX0, Cond.instantiable RX0 5, Cond.initialized RX0, Cond.fieldLink RX11 12 "SetAgain" "chair" "LSetAgain$Chair;", Cond.classLink RX11 16 RX10, Cond.instantiable RX10 4, Cond.initialized RX10, Cond.fieldLink RX11 19 "SetAgain" "week" "LSetAgain$Week;", Cond.classLink RX11 23 RX4, Cond.instantiable RX4 11, Cond.initialized RX4]
def wsL_law_r2 : List Cond := [Cond.fieldLink RX11 28 "SetAgain" "habits" "LSetAgain$Habits;", Cond.classLink RX11 32 RX8, Cond.instantiable RX8 13, Cond.initialized RX8, Cond.fieldLink RX11 35 "SetAgain" "still" "LSetAgain$Still;", Cond.classLink RX11 39 RX9, Cond.instantiable RX9 3, Cond.initialized RX9, Cond.fieldLink RX11 42 "SetAgain" "turning" "LSetAgain$Turning;", Cond.classLink RX11 46 RX6, Cond.instantiable RX6 3, Cond.initialized RX6, Cond.fieldLink RX11 51 "SetAgain" "seen" "LSetAgain$Seen;", Cond.classLink RX11 55 RX2, Cond.instantiable RX2 6, Cond.initialized RX2, Cond.fieldLink RX11 60 "SetAgain" "deed" "LSetAgain$Deed;", Cond.classLink RX11 64 RX1, Cond.instantiable RX1 5, Cond.initialized RX1, Cond.fieldLink RX11 67 "SetAgain" "changes" "LSetAgain$Changes;", Cond.classLink RX11 71 RX3, Cond.instantiable RX3 6, Cond.initialized RX3]
def wsL_law_r3 : List Cond := [Cond.fieldLink RX11 74 "SetAgain" "desks" "LSetAgain$Desks;", Cond.classLink RX11 78 RX7, Cond.fieldLink RX11 80 "SetAgain" "shelves" "[LSetAgain$Shelf;", Cond.instantiable RX7 4, Cond.initialized RX7, Cond.methodLink RX11 11 yX0_init, Cond.instanceMethod yX0_init, Cond.code yX0_init cX0_init 2 none, Cond.methodLink RX0 5 objectInit, Cond.arrayClass .int, Cond.fieldLink RX0 11 "SetAgain$Chair" "told" "[I", Cond.fieldLink RX0 15 "SetAgain$Chair" "stands" "[I", Cond.classLink RX0 18 RX5, Cond.instantiable RX5 10, Cond.initialized RX5, Cond.fieldLink RX0 21 "SetAgain$Chair" "law" "LSetAgain$Law;", Cond.fieldLink RX0 25 "SetAgain$Chair" "lost" "[I", Cond.instanceMethod yX5_init, Cond.code yX5_init cX5_init 1 none, Cond.methodLink RX5 3 objectInit, Cond.fieldLink RX5 11 "SetAgain$Law" "tape" "[I", Cond.fieldLink RX5 15 "SetAgain$Law" "draft" "[I", Cond.fieldLink RX5 18 "SetAgain$Law" "code" "[I", Cond.fieldLink RX5 21 "SetAgain$Law" "stack" "[I"]
def wsL_law_r4 : List Cond := [Cond.instanceMethod yX10_init, Cond.code yX10_init cX10_init 1 none, Cond.methodLink RX10 3 objectInit, Cond.fieldLink RX10 9 "SetAgain$Week" "sitters" "[I", Cond.fieldLink RX10 15 "SetAgain$Week" "times" "[I", Cond.methodLink RX11 25 yX4_init, Cond.instanceMethod yX4_init, Cond.code yX4_init cX4_init 3 none, Cond.methodLink RX4 3 objectInit, Cond.fieldLink RX4 9 "SetAgain$Habits" "stand" "[I", Cond.fieldLink RX4 15 "SetAgain$Habits" "turns" "[I", Cond.fieldLink RX4 18 "SetAgain$Habits" "spared" "[I", Cond.fieldLink RX4 21 "SetAgain$Habits" "tried" "I", Cond.fieldLink RX4 25 "SetAgain$Habits" "leaver" "I", Cond.fieldLink RX4 28 "SetAgain$Habits" "chair" "LSetAgain$Chair;", Cond.fieldLink RX4 32 "SetAgain$Habits" "week" "LSetAgain$Week;", Cond.methodLink RX11 34 yX8_init, Cond.instanceMethod yX8_init, Cond.code yX8_init cX8_init 3 none, Cond.methodLink RX8 3 objectInit, Cond.fieldLink RX8 9 "SetAgain$Still" "weight" "[I", Cond.arrayClass .boolean, Cond.fieldLink RX8 15 "SetAgain$Still" "wanted" "[Z", Cond.fieldLink RX8 19 "SetAgain$Still" "ones" "[I"]
def wsL_law_r5 : List Cond := [Cond.fieldLink RX8 22 "SetAgain$Still" "sums" "[I", Cond.fieldLink RX8 25 "SetAgain$Still" "leasts" "[I", Cond.fieldLink RX8 28 "SetAgain$Still" "group" "[I", Cond.fieldLink RX8 31 "SetAgain$Still" "bestGroup" "[I", Cond.fieldLink RX8 34 "SetAgain$Still" "chair" "LSetAgain$Chair;", Cond.fieldLink RX8 38 "SetAgain$Still" "week" "LSetAgain$Week;", Cond.methodLink RX11 41 yX9_init, Cond.instanceMethod yX9_init, Cond.code yX9_init cX9_init 3 none, Cond.methodLink RX9 3 objectInit, Cond.fieldLink RX9 9 "SetAgain$Turning" "ahead" "[I", Cond.fieldLink RX9 15 "SetAgain$Turning" "chair" "LSetAgain$Chair;", Cond.fieldLink RX9 19 "SetAgain$Turning" "week" "LSetAgain$Week;", Cond.methodLink RX11 48 yX6_init, Cond.instanceMethod yX6_init, Cond.code yX6_init cX6_init 2 none, Cond.methodLink RX6 3 objectInit, Cond.fieldLink RX6 9 "SetAgain$Seen" "chair" "LSetAgain$Chair;", Cond.methodLink RX11 57 yX2_init, Cond.instanceMethod yX2_init, Cond.code yX2_init cX2_init 3 none, Cond.methodLink RX2 3 objectInit, Cond.fieldLink RX2 11 "SetAgain$Deed" "told" "[I", Cond.fieldLink RX2 15 "SetAgain$Deed" "keptTold" "[I"]
def wsL_law_r6 : List Cond := [Cond.fieldLink RX2 18 "SetAgain$Deed" "keptStands" "[I", Cond.fieldLink RX2 21 "SetAgain$Deed" "chair" "LSetAgain$Chair;", Cond.fieldLink RX2 25 "SetAgain$Deed" "habits" "LSetAgain$Habits;", Cond.instanceMethod yX1_init, Cond.code yX1_init cX1_init 1 none, Cond.methodLink RX1 1 objectInit, Cond.fieldLink RX1 9 "SetAgain$Changes" "places" "[I", Cond.fieldLink RX1 13 "SetAgain$Changes" "before" "[I", Cond.fieldLink RX1 16 "SetAgain$Changes" "after" "[I", Cond.instanceMethod yX3_init, Cond.code yX3_init cX3_init 1 none, Cond.methodLink RX3 3 objectInit, Cond.fieldLink RX3 9 "SetAgain$Desks" "kinds" "[I", Cond.fieldLink RX3 15 "SetAgain$Desks" "trace" "[I", Cond.instanceMethod yX7_init, Cond.code yX7_init cX7_init 1 none, Cond.methodLink RX7 3 objectInit, Cond.arrayClass .long, Cond.fieldLink RX7 9 "SetAgain$Shelf" "elements" "[J", Cond.fieldLink RX7 15 "SetAgain$Shelf" "sort" "I", Cond.methodLink RL 12 yX12_init, Cond.instanceMethod yX12_init, Cond.code yX12_init cX12_init 2 none, Cond.methodLink RX12 3 objectInit]
def wsL_law_r7 : List Cond := [Cond.fieldLink RX12 9 "SetAgainModel" "may" "[I", Cond.fieldLink RX12 13 "SetAgainModel" "changeAt" "[I", Cond.fieldLink RX12 16 "SetAgainModel" "changeWas" "[I", Cond.fieldLink RX12 19 "SetAgainModel" "changeIs" "[I", Cond.fieldLink RX12 22 "SetAgainModel" "stands" "[I", Cond.fieldLink RX12 25 "SetAgainModel" "tape" "[I", Cond.fieldLink RX12 28 "SetAgainModel" "text" "[I", Cond.fieldLink RX12 31 "SetAgainModel" "names" "[I", Cond.fieldLink RX12 34 "SetAgainModel" "lossIn" "[I", Cond.fieldLink RX12 37 "SetAgainModel" "leastFrom" "[I", Cond.fieldLink RX12 40 "SetAgainModel" "isIll" "[Z", Cond.fieldLink RX12 44 "SetAgainModel" "stand1" "[I", Cond.fieldLink RX12 47 "SetAgainModel" "standBehind" "[I", Cond.fieldLink RX12 50 "SetAgainModel" "lossAt" "[I", Cond.fieldLink RX12 53 "SetAgainModel" "chairOf" "[I", Cond.fieldLink RX12 56 "SetAgainModel" "bestChair" "[I", Cond.fieldLink RX12 59 "SetAgainModel" "canStand" "[Z", Cond.fieldLink RX12 62 "SetAgainModel" "canGoOn" "[Z", Cond.fieldLink RX12 65 "SetAgainModel" "image" "[I", Cond.fieldLink RX12 68 "SetAgainModel" "bodyKind" "[I", Cond.fieldLink RX12 71 "SetAgainModel" "trace" "[I", Cond.fieldLink RX12 74 "SetAgainModel" "shelf" "[I", Cond.fieldLink RX12 77 "SetAgainModel" "many" "[I", Cond.fieldLink RX12 80 "SetAgainModel" "items" "[J"]
def wsL_law_r8 : List Cond := [Cond.fieldLink RX12 84 "SetAgainModel" "carried" "[J", Cond.fieldLink RX12 87 "SetAgainModel" "textMany" "I", Cond.fieldLink RX12 91 "SetAgainModel" "ledWho" "I", Cond.fieldLink RX12 94 "SetAgainModel" "nearOf" "I", Cond.fieldLink RX12 97 "SetAgainModel" "wilfulOf" "I", Cond.methodLink RL 13 yX11_sitter, Cond.instanceMethod yX11_sitter, Cond.selects RX11 yX11_sitter yX11_sitter, Cond.code yX11_sitter cX11_sitter 3 (some .int), Cond.methodLink RX11 85 yX11_isSetting, Cond.static yX11_isSetting, Cond.code yX11_isSetting cX11_isSetting 1 (some .boolean), Cond.methodLink RX11 89 yX11_fits, Cond.static yX11_fits, Cond.code yX11_fits cX11_fits 2 (some .boolean), Cond.fieldLink RX11 314 "SetAgain" "MOST" "[I", Cond.fieldLink RX11 317 "SetAgain" "LEAST" "[I", Cond.methodLink RX11 93 yX0_comes, Cond.instanceMethod yX0_comes, Cond.selects RX0 yX0_comes yX0_comes, Cond.code yX0_comes cX0_comes 6 (some .int), Cond.fieldLink RX0 28 "SetAgain$Chair" "sitters" "I", Cond.methodLink RX0 32 yX0_forget, Cond.instanceMethod yX0_forget]
def wsL_law_r9 : List Cond := [Cond.selects RX0 yX0_forget yX0_forget, Cond.code yX0_forget cX0_forget 4 none, Cond.methodLink RL 17 yX12_sitter, Cond.instanceMethod yX12_sitter, Cond.selects RX12 yX12_sitter yX12_sitter, Cond.code yX12_sitter cX12_sitter 3 (some .int), Cond.constantLong RX12 121 (12), Cond.fieldLink RX12 106 "SetAgainModel" "sitters" "I", Cond.methodLink RX12 117 yX12_isSetting, Cond.static yX12_isSetting, Cond.code yX12_isSetting cX12_isSetting 2 (some .boolean), Cond.constantLong RX12 115 (60), Cond.methodLink RX12 109 yX12_within, Cond.static yX12_within, Cond.code yX12_within cX12_within 6 (some .boolean), Cond.methodLink RX12 123 yX12_adds, Cond.instanceMethod yX12_adds, Cond.selects RX12 yX12_adds yX12_adds, Cond.code yX12_adds cX12_adds 6 none, Cond.methodLink RL 18 yX11_sitters, Cond.instanceMethod yX11_sitters, Cond.selects RX11 yX11_sitters yX11_sitters, Cond.code yX11_sitters cX11_sitters 5 (some .int), Cond.fieldLink RX11 100 "SetAgain$Shelf" "sort" "I"]
def wsL_law_r10 : List Cond := [Cond.methodLink RX11 97 yX11_isShelf, Cond.static yX11_isShelf, Cond.code yX11_isShelf cX11_isShelf 1 (some .boolean), Cond.methodLink RX11 104 yX11_fromRow, Cond.instanceMethod yX11_fromRow, Cond.selects RX11 yX11_fromRow yX11_fromRow, Cond.code yX11_fromRow cX11_fromRow 6 (some .int), Cond.methodLink RX11 295 yX7_hasPlaces, Cond.instanceMethod yX7_hasPlaces, Cond.selects RX7 yX7_hasPlaces yX7_hasPlaces, Cond.code yX7_hasPlaces cX7_hasPlaces 3 (some .boolean), Cond.fieldLink RX7 22 "SetAgain$Shelf" "length" "I", Cond.methodLink RX11 324 yX11_comesFrom, Cond.instanceMethod yX11_comesFrom, Cond.selects RX11 yX11_comesFrom yX11_comesFrom, Cond.code yX11_comesFrom cX11_comesFrom 6 (some .boolean), Cond.fieldLink RX11 281 "SetAgain$Shelf" "elements" "[J", Cond.methodLink RL 22 yX12_sitters, Cond.instanceMethod yX12_sitters, Cond.selects RX12 yX12_sitters yX12_sitters, Cond.code yX12_sitters cX12_sitters 7 (some .int), Cond.constantLong RX12 131 (8), Cond.methodLink RX12 127 yX12_isShelf, Cond.static yX12_isShelf]
def wsL_law_r11 : List Cond := [Cond.code yX12_isShelf cX12_isShelf 1 (some .boolean), Cond.constantLong RX12 385 (5), Cond.methodLink RL 23 yX11_mend, Cond.instanceMethod yX11_mend, Cond.selects RX11 yX11_mend yX11_mend, Cond.code yX11_mend cX11_mend 6 (some .int), Cond.fieldLink RX11 112 "SetAgain$Chair" "told" "[I", Cond.methodLink RX11 108 yX0_placeOf, Cond.instanceMethod yX0_placeOf, Cond.selects RX0 yX0_placeOf yX0_placeOf, Cond.code yX0_placeOf cX0_placeOf 3 (some .int), Cond.methodLink RX11 116 yX1_comes, Cond.instanceMethod yX1_comes, Cond.selects RX1 yX1_comes yX1_comes, Cond.code yX1_comes cX1_comes 4 none, Cond.fieldLink RX1 19 "SetAgain$Changes" "done" "I", Cond.fieldLink RX1 26 "SetAgain$Changes" "kept" "I", Cond.methodLink RX1 23 yX1_dropOldest, Cond.instanceMethod yX1_dropOldest, Cond.selects RX1 yX1_dropOldest yX1_dropOldest, Cond.code yX1_dropOldest cX1_dropOldest 1 none, Cond.methodLink RX1 29 arraycopyName, Cond.native arraycopyName, Cond.static arraycopyName]
def wsL_law_r12 : List Cond := [Cond.initialized "java/lang/System", Cond.methodLink RX11 119 yX0_becomes, Cond.instanceMethod yX0_becomes, Cond.selects RX0 yX0_becomes yX0_becomes, Cond.code yX0_becomes cX0_becomes 3 none, Cond.methodLink RL 26 yX12_mend, Cond.instanceMethod yX12_mend, Cond.selects RX12 yX12_mend yX12_mend, Cond.code yX12_mend cX12_mend 5 (some .int), Cond.methodLink RX12 143 yX12_placeOf, Cond.instanceMethod yX12_placeOf, Cond.selects RX12 yX12_placeOf yX12_placeOf, Cond.code yX12_placeOf cX12_placeOf 3 (some .int), Cond.constantLong RX12 133 (7), Cond.constantLong RX12 138 (9), Cond.methodLink RX12 135 yX12_isSitter, Cond.instanceMethod yX12_isSitter, Cond.selects RX12 yX12_isSitter yX12_isSitter, Cond.code yX12_isSitter cX12_isSitter 3 (some .boolean), Cond.methodLink RX12 140 yX12_isPart, Cond.static yX12_isPart, Cond.code yX12_isPart cX12_isPart 1 (some .boolean), Cond.constantLong RX12 113 (2), Cond.methodLink RX12 147 yX12_mostOf]
def wsL_law_r13 : List Cond := [Cond.static yX12_mostOf, Cond.code yX12_mostOf cX12_mostOf 1 (some .int), Cond.methodLink RX12 151 yX12_becomes, Cond.instanceMethod yX12_becomes, Cond.selects RX12 yX12_becomes yX12_becomes, Cond.code yX12_becomes cX12_becomes 5 (some .int), Cond.fieldLink RX12 100 "SetAgainModel" "done" "I", Cond.fieldLink RX12 103 "SetAgainModel" "keptMany" "I", Cond.methodLink RL 27 yX11_of, Cond.instanceMethod yX11_of, Cond.selects RX11 yX11_of yX11_of, Cond.code yX11_of cX11_of 4 (some .int), Cond.fieldLink RX11 126 "SetAgain$Chair" "stands" "[I", Cond.methodLink RX11 123 yX11_isPart, Cond.static yX11_isPart, Cond.code yX11_isPart cX11_isPart 1 (some .boolean), Cond.methodLink RL 30 yX12_of, Cond.instanceMethod yX12_of, Cond.selects RX12 yX12_of yX12_of, Cond.code yX12_of cX12_of 4 (some .int), Cond.methodLink RL 31 yX11_feed, Cond.instanceMethod yX11_feed, Cond.selects RX11 yX11_feed yX11_feed, Cond.code yX11_feed cX11_feed 2 (some .int)]
def wsL_law_r14 : List Cond := [Cond.fieldLink RX11 129 "SetAgain$Chair" "law" "LSetAgain$Law;", Cond.methodLink RX11 133 yX5_takes, Cond.instanceMethod yX5_takes, Cond.selects RX5 yX5_takes yX5_takes, Cond.code yX5_takes cX5_takes 2 (some .int), Cond.fieldLink RX5 24 "SetAgain$Law" "length" "I", Cond.methodLink RL 35 yX12_feed, Cond.instanceMethod yX12_feed, Cond.selects RX12 yX12_feed yX12_feed, Cond.code yX12_feed cX12_feed 2 (some .int), Cond.constantLong RX12 154 (255), Cond.fieldLink RX12 156 "SetAgainModel" "tapeMany" "I", Cond.methodLink RL 36 yX11_law, Cond.instanceMethod yX11_law, Cond.selects RX11 yX11_law yX11_law, Cond.code yX11_law cX11_law 2 (some .int), Cond.methodLink RX11 139 yX5_isRead, Cond.instanceMethod yX5_isRead, Cond.selects RX5 yX5_isRead yX5_isRead, Cond.code yX5_isRead cX5_isRead 1 (some .int), Cond.fieldLink RX5 28 "SetAgain$Law" "at" "I", Cond.fieldLink RX5 31 "SetAgain$Law" "fault" "I", Cond.fieldLink RX5 34 "SetAgain$Law" "drafted" "I", Cond.methodLink RX5 40 arraycopyName]
def wsL_law_r15 : List Cond := [Cond.fieldLink RX5 46 "SetAgain$Law" "coded" "I", Cond.fieldLink RX5 49 "SetAgain$Law" "holds" "Z", Cond.methodLink RX5 37 yX5_lines, Cond.instanceMethod yX5_lines, Cond.selects RX5 yX5_lines yX5_lines, Cond.code yX5_lines cX5_lines 2 none, Cond.methodLink RX5 53 yX5_line, Cond.instanceMethod yX5_line, Cond.selects RX5 yX5_line yX5_line, Cond.code yX5_line cX5_line 1 none, Cond.methodLink RX5 63 yX5_either, Cond.instanceMethod yX5_either, Cond.selects RX5 yX5_either yX5_either, Cond.code yX5_either cX5_either 3 none, Cond.methodLink RX5 70 yX5_both, Cond.instanceMethod yX5_both, Cond.selects RX5 yX5_both yX5_both, Cond.methodLink RX5 56 yX5_next, Cond.instanceMethod yX5_next, Cond.selects RX5 yX5_next yX5_next, Cond.code yX5_next cX5_next 1 (some .int), Cond.methodLink RX5 67 yX5_write, Cond.instanceMethod yX5_write, Cond.selects RX5 yX5_write yX5_write]
def wsL_law_r16 : List Cond := [Cond.code yX5_write cX5_write 2 none, Cond.code yX5_both cX5_both 3 none, Cond.methodLink RX5 73 yX5_compared, Cond.instanceMethod yX5_compared, Cond.selects RX5 yX5_compared yX5_compared, Cond.code yX5_compared cX5_compared 3 none, Cond.methodLink RX5 76 yX5_sum, Cond.instanceMethod yX5_sum, Cond.selects RX5 yX5_sum yX5_sum, Cond.code yX5_opened cX5_opened 3 none, Cond.methodLink RX5 82 yX5_operand, Cond.instanceMethod yX5_operand, Cond.selects RX5 yX5_operand yX5_operand, Cond.methodLink RX5 60 yX5_fail, Cond.instanceMethod yX5_fail, Cond.selects RX5 yX5_fail yX5_fail, Cond.code yX5_fail cX5_fail 1 none, Cond.code yX5_operand cX5_operand 3 none, Cond.methodLink RX5 85 yX5_isDigit, Cond.static yX5_isDigit, Cond.code yX5_isDigit cX5_isDigit 1 (some .boolean), Cond.methodLink RX5 89 yX5_number, Cond.instanceMethod yX5_number, Cond.selects RX5 yX5_number yX5_number]
def wsL_law_r17 : List Cond := [Cond.code yX5_number cX5_number 3 none, Cond.methodLink RX5 92 yX5_isName, Cond.static yX5_isName, Cond.code yX5_isName cX5_isName 1 (some .boolean), Cond.methodLink RX5 95 yX5_opened, Cond.instanceMethod yX5_opened, Cond.selects RX5 yX5_opened yX5_opened, Cond.code yX5_product cX5_product 4 none, Cond.code yX5_sum cX5_sum 4 none, Cond.methodLink RX5 79 yX5_product, Cond.instanceMethod yX5_product, Cond.selects RX5 yX5_product yX5_product, Cond.methodLink RX11 143 yX0_forgetAll, Cond.instanceMethod yX0_forgetAll, Cond.selects RX0 yX0_forgetAll yX0_forgetAll, Cond.code yX0_forgetAll cX0_forgetAll 2 none, Cond.methodLink RL 40 yX12_law, Cond.instanceMethod yX12_law, Cond.selects RX12 yX12_law yX12_law, Cond.code yX12_law cX12_law 4 (some .int), Cond.fieldLink RX12 168 "SetAgainModel" "fault" "I", Cond.methodLink RX12 205 yX12_workOut, Cond.instanceMethod yX12_workOut, Cond.selects RX12 yX12_workOut yX12_workOut]
def wsL_law_r18 : List Cond := [Cond.code yX12_workOut cX12_workOut 8 (some .int), Cond.fieldLink RX12 165 "SetAgainModel" "base" "I", Cond.fieldLink RX12 159 "SetAgainModel" "at" "I", Cond.fieldLink RX12 162 "SetAgainModel" "ends" "I", Cond.fieldLink RX12 193 "SetAgainModel" "opened" "I", Cond.methodLink RX12 199 yX12_either, Cond.instanceMethod yX12_either, Cond.selects RX12 yX12_either yX12_either, Cond.code yX12_either cX12_either 3 (some .int), Cond.methodLink RX12 175 yX12_both, Cond.instanceMethod yX12_both, Cond.selects RX12 yX12_both yX12_both, Cond.methodLink RX12 178 yX12_takes, Cond.instanceMethod yX12_takes, Cond.selects RX12 yX12_takes yX12_takes, Cond.code yX12_takes cX12_takes 2 (some .boolean), Cond.methodLink RX12 171 yX12_byteAt, Cond.instanceMethod yX12_byteAt, Cond.selects RX12 yX12_byteAt yX12_byteAt, Cond.code yX12_byteAt cX12_byteAt 1 (some .int), Cond.code yX12_both cX12_both 3 (some .int), Cond.methodLink RX12 181 yX12_compared, Cond.instanceMethod yX12_compared, Cond.selects RX12 yX12_compared yX12_compared]
def wsL_law_r19 : List Cond := [Cond.code yX12_compared cX12_compared 4 (some .int), Cond.methodLink RX12 184 yX12_sums, Cond.instanceMethod yX12_sums, Cond.selects RX12 yX12_sums yX12_sums, Cond.code yX12_one cX12_one 5 (some .int), Cond.methodLink RX12 196 yX12_wrong, Cond.instanceMethod yX12_wrong, Cond.selects RX12 yX12_wrong yX12_wrong, Cond.code yX12_wrong cX12_wrong 1 (some .int), Cond.methodLink RX12 190 yX12_one, Cond.instanceMethod yX12_one, Cond.selects RX12 yX12_one yX12_one, Cond.methodLink RX12 202 yX12_nameOf, Cond.static yX12_nameOf, Cond.code yX12_nameOf cX12_nameOf 1 (some .int), Cond.code yX12_product cX12_product 4 (some .int), Cond.code yX12_sums cX12_sums 4 (some .int), Cond.methodLink RX12 187 yX12_product, Cond.instanceMethod yX12_product, Cond.selects RX12 yX12_product yX12_product, Cond.methodLink RL 41 yX11_loss, Cond.instanceMethod yX11_loss, Cond.selects RX11 yX11_loss yX11_loss, Cond.code yX11_loss cX11_loss 4 (some .int)]
def wsL_law_r20 : List Cond := [Cond.methodLink RX11 146 yX0_has, Cond.instanceMethod yX0_has, Cond.selects RX0 yX0_has yX0_has, Cond.code yX0_has cX0_has 2 (some .boolean), Cond.methodLink RX11 149 yX0_lossAt, Cond.instanceMethod yX0_lossAt, Cond.selects RX0 yX0_lossAt yX0_lossAt, Cond.code yX0_lossAt cX0_lossAt 9 (some .int), Cond.fieldLink RX0 49 "SetAgain$Law" "holds" "Z", Cond.methodLink RX0 45 Lib.Math.abs.name, Cond.static Lib.Math.abs.name, Cond.initialized "java/lang/Math", Cond.code Lib.Math.abs.name Lib.Math.abs.code 1 (some .int), Cond.methodLink RX0 57 Lib.Math.min.name, Cond.static Lib.Math.min.name, Cond.code Lib.Math.min.name Lib.Math.min.code 2 (some .int), Cond.methodLink RX0 36 Lib.Math.max.name, Cond.static Lib.Math.max.name, Cond.code Lib.Math.max.name Lib.Math.max.code 2 (some .int), Cond.methodLink RX0 42 yX0_numberOf, Cond.instanceMethod yX0_numberOf, Cond.selects RX0 yX0_numberOf yX0_numberOf, Cond.code yX0_numberOf cX0_numberOf 3 (some .int), Cond.methodLink RX0 53 yX5_valueOf]
def wsL_law_r21 : List Cond := [Cond.instanceMethod yX5_valueOf, Cond.selects RX5 yX5_valueOf yX5_valueOf, Cond.code yX5_valueOf cX5_valueOf 10 (some .int), Cond.methodLink RX5 99 yX5_operands, Cond.static yX5_operands, Cond.code yX5_operands cX5_operands 1 (some .int), Cond.methodLink RX5 103 yX5_named, Cond.static yX5_named, Cond.code yX5_named cX5_named 5 (some .int), Cond.methodLink RX5 111 Lib.Math.abs.name, Cond.methodLink RX5 107 yX5_worked, Cond.static yX5_worked, Cond.code yX5_worked cX5_worked 3 (some .int), Cond.methodLink RL 44 yX12_loss, Cond.instanceMethod yX12_loss, Cond.selects RX12 yX12_loss yX12_loss, Cond.code yX12_loss cX12_loss 4 (some .int), Cond.methodLink RX12 214 yX12_lossOf, Cond.instanceMethod yX12_lossOf, Cond.selects RX12 yX12_lossOf yX12_lossOf, Cond.code yX12_lossOf cX12_lossOf 7 (some .int), Cond.methodLink RX12 208 yX12_numberOf, Cond.instanceMethod yX12_numberOf, Cond.selects RX12 yX12_numberOf yX12_numberOf]
def wsL_law_r22 : List Cond := [Cond.code yX12_numberOf cX12_numberOf 3 (some .int), Cond.methodLink RX12 211 yX12_sizeOf, Cond.static yX12_sizeOf, Cond.code yX12_sizeOf cX12_sizeOf 1 (some .int), Cond.methodLink RL 45 yX11_never, Cond.instanceMethod yX11_never, Cond.selects RX11 yX11_never yX11_never, Cond.code yX11_never cX11_never 5 (some .int), Cond.methodLink RX11 153 yX11_readWeek, Cond.instanceMethod yX11_readWeek, Cond.selects RX11 yX11_readWeek yX11_readWeek, Cond.code yX11_readWeek cX11_readWeek 3 (some .int), Cond.fieldLink RX11 310 "SetAgain$Chair" "sitters" "I", Cond.methodLink RX11 209 yX11_refusalOf, Cond.instanceMethod yX11_refusalOf, Cond.selects RX11 yX11_refusalOf yX11_refusalOf, Cond.code yX11_refusalOf cX11_refusalOf 2 (some .int), Cond.methodLink RX11 320 yX10_reads, Cond.instanceMethod yX10_reads, Cond.selects RX10 yX10_reads yX10_reads, Cond.code yX10_reads cX10_reads 5 none, Cond.fieldLink RX10 18 "SetAgain$Shelf" "length" "I", Cond.methodLink RX10 24 Lib.Math.min.name, Cond.fieldLink RX10 30 "SetAgain$Week" "length" "I"]
def wsL_law_r23 : List Cond := [Cond.fieldLink RX10 31 "SetAgain$Week" "sat" "I", Cond.fieldLink RX10 34 "SetAgain$Shelf" "elements" "[J", Cond.methodLink RX11 156 yX8_allLosses, Cond.instanceMethod yX8_allLosses, Cond.selects RX8 yX8_allLosses yX8_allLosses, Cond.code yX8_allLosses cX8_allLosses 5 (some .int), Cond.fieldLink RX8 42 "SetAgain$Week" "times" "[I", Cond.methodLink RX8 47 yX0_lossAt, Cond.methodLink RL 48 yX12_never, Cond.instanceMethod yX12_never, Cond.selects RX12 yX12_never yX12_never, Cond.code yX12_never cX12_never 4 (some .int), Cond.methodLink RX12 224 yX12_bytesIs, Cond.instanceMethod yX12_bytesIs, Cond.selects RX12 yX12_bytesIs yX12_bytesIs, Cond.code yX12_bytesIs cX12_bytesIs 2 (some .int), Cond.methodLink RX12 227 yX12_neverOf, Cond.instanceMethod yX12_neverOf, Cond.selects RX12 yX12_neverOf yX12_neverOf, Cond.code yX12_neverOf cX12_neverOf 6 (some .int), Cond.methodLink RX12 218 yX12_shiftsOf, Cond.instanceMethod yX12_shiftsOf, Cond.selects RX12 yX12_shiftsOf yX12_shiftsOf, Cond.code yX12_shiftsOf cX12_shiftsOf 2 (some .int)]
def wsL_law_r24 : List Cond := [Cond.methodLink RX12 221 yX12_whoSits, Cond.instanceMethod yX12_whoSits, Cond.selects RX12 yX12_whoSits yX12_whoSits, Cond.code yX12_whoSits cX12_whoSits 5 (some .int), Cond.methodLink RL 49 yX11_best, Cond.instanceMethod yX11_best, Cond.selects RX11 yX11_best yX11_best, Cond.code yX11_best cX11_best 5 (some .int), Cond.fieldLink RX11 159 "SetAgain$Week" "sat" "I", Cond.methodLink RX11 162 yX8_bestOf, Cond.instanceMethod yX8_bestOf, Cond.selects RX8 yX8_bestOf yX8_bestOf, Cond.code yX8_bestOf cX8_bestOf 7 (some .int), Cond.methodLink RX8 59 yX8_allLosses, Cond.methodLink RX8 62 yX8_worstLoss, Cond.instanceMethod yX8_worstLoss, Cond.selects RX8 yX8_worstLoss yX8_worstLoss, Cond.code yX8_worstLoss cX8_worstLoss 5 (some .int), Cond.methodLink RX8 53 Lib.Math.max.name, Cond.methodLink RL 52 yX12_best, Cond.instanceMethod yX12_best, Cond.selects RX12 yX12_best yX12_best, Cond.code yX12_best cX12_best 8 (some .int), Cond.constantLong RX12 230 (3)]
def wsL_law_r25 : List Cond := [Cond.methodLink RX12 232 yX12_anySits, Cond.instanceMethod yX12_anySits, Cond.selects RX12 yX12_anySits yX12_anySits, Cond.code yX12_anySits cX12_anySits 3 (some .boolean), Cond.methodLink RX12 235 yX12_worstOf, Cond.instanceMethod yX12_worstOf, Cond.selects RX12 yX12_worstOf yX12_worstOf, Cond.code yX12_worstOf cX12_worstOf 7 (some .int), Cond.methodLink RL 53 yX11_middle, Cond.instanceMethod yX11_middle, Cond.selects RX11 yX11_middle yX11_middle, Cond.code yX11_middle cX11_middle 4 (some .int), Cond.methodLink RX11 165 yX8_middleWant, Cond.instanceMethod yX8_middleWant, Cond.selects RX8 yX8_middleWant yX8_middleWant, Cond.code yX8_middleWant cX8_middleWant 5 (some .int), Cond.methodLink RX8 65 yX8_weighWants, Cond.instanceMethod yX8_weighWants, Cond.selects RX8 yX8_weighWants yX8_weighWants, Cond.code yX8_weighWants cX8_weighWants 7 (some .int), Cond.methodLink RX8 69 yX0_numberOf, Cond.methodLink RL 56 yX12_middle, Cond.instanceMethod yX12_middle, Cond.selects RX12 yX12_middle yX12_middle]
def wsL_law_r26 : List Cond := [Cond.code yX12_middle cX12_middle 5 (some .int), Cond.methodLink RX12 241 yX12_weightTo, Cond.instanceMethod yX12_weightTo, Cond.selects RX12 yX12_weightTo yX12_weightTo, Cond.code yX12_weightTo cX12_weightTo 7 (some .int), Cond.methodLink RX12 238 yX12_weightOf, Cond.instanceMethod yX12_weightOf, Cond.selects RX12 yX12_weightOf yX12_weightOf, Cond.code yX12_weightOf cX12_weightOf 2 (some .int), Cond.methodLink RX12 244 yX12_isWanted, Cond.instanceMethod yX12_isWanted, Cond.selects RX12 yX12_isWanted yX12_isWanted, Cond.code yX12_isWanted cX12_isWanted 5 (some .boolean), Cond.methodLink RL 57 yX11_shifts, Cond.instanceMethod yX11_shifts, Cond.selects RX11 yX11_shifts yX11_shifts, Cond.code yX11_shifts cX11_shifts 5 (some .int), Cond.fieldLink RX11 168 "SetAgain$Week" "length" "I", Cond.methodLink RX11 171 yX9_shiftByShift, Cond.instanceMethod yX9_shiftByShift, Cond.selects RX9 yX9_shiftByShift yX9_shiftByShift, Cond.code yX9_shiftByShift cX9_shiftByShift 6 (some .int), Cond.fieldLink RX9 27 "SetAgain$Chair" "stands" "[I", Cond.methodLink RX9 23 yX9_pay]
def wsL_law_r27 : List Cond := [Cond.instanceMethod yX9_pay, Cond.selects RX9 yX9_pay yX9_pay, Cond.code yX9_pay cX9_pay 6 none, Cond.fieldLink RX9 40 "SetAgain$Week" "length" "I", Cond.methodLink RX9 46 yX9_unturned, Cond.instanceMethod yX9_unturned, Cond.selects RX9 yX9_unturned yX9_unturned, Cond.code yX9_unturned cX9_unturned 5 (some .int), Cond.fieldLink RX9 57 "SetAgain$Week" "sitters" "[I", Cond.methodLink RX9 60 yX0_lossAt, Cond.methodLink RX9 36 yX0_slipped, Cond.instanceMethod yX0_slipped, Cond.selects RX0 yX0_slipped yX0_slipped, Cond.code yX0_slipped cX0_slipped 3 (some .int), Cond.methodLink RX9 49 yX0_priceOf, Cond.instanceMethod yX0_priceOf, Cond.selects RX0 yX0_priceOf yX0_priceOf, Cond.code yX0_priceOf cX0_priceOf 2 (some .int), Cond.methodLink RX9 53 yX9_spread, Cond.instanceMethod yX9_spread, Cond.selects RX9 yX9_spread yX9_spread, Cond.code yX9_spread cX9_spread 4 none, Cond.methodLink RX9 63 Lib.Math.min.name, Cond.methodLink RX9 32 yX9_leastSetting]
def wsL_law_r28 : List Cond := [Cond.instanceMethod yX9_leastSetting, Cond.selects RX9 yX9_leastSetting yX9_leastSetting, Cond.code yX9_leastSetting cX9_leastSetting 7 (some .int), Cond.methodLink RX9 68 Lib.Math.abs.name, Cond.methodLink RL 60 yX12_shifts, Cond.instanceMethod yX12_shifts, Cond.selects RX12 yX12_shifts yX12_shifts, Cond.code yX12_shifts cX12_shifts 10 (some .int), Cond.methodLink RX12 251 yX12_asksLosses, Cond.instanceMethod yX12_asksLosses, Cond.selects RX12 yX12_asksLosses yX12_asksLosses, Cond.code yX12_asksLosses cX12_asksLosses 5 none, Cond.methodLink RX12 255 yX12_costBy, Cond.instanceMethod yX12_costBy, Cond.selects RX12 yX12_costBy yX12_costBy, Cond.code yX12_costBy cX12_costBy 5 (some .int), Cond.methodLink RX12 248 yX12_slipped, Cond.instanceMethod yX12_slipped, Cond.selects RX12 yX12_slipped yX12_slipped, Cond.code yX12_slipped cX12_slipped 4 (some .int), Cond.methodLink RL 61 yX11_once, Cond.instanceMethod yX11_once, Cond.selects RX11 yX11_once yX11_once, Cond.code yX11_once cX11_once 5 (some .int)]
def wsL_law_r29 : List Cond := [Cond.methodLink RX11 174 yX9_oneTurning, Cond.instanceMethod yX9_oneTurning, Cond.selects RX9 yX9_oneTurning yX9_oneTurning, Cond.code yX9_oneTurning cX9_oneTurning 12 (some .int), Cond.methodLink RL 64 yX12_once, Cond.instanceMethod yX12_once, Cond.selects RX12 yX12_once yX12_once, Cond.code yX12_once cX12_once 13 (some .int), Cond.methodLink RL 65 yX11_week, Cond.instanceMethod yX11_week, Cond.selects RX11 yX11_week yX11_week, Cond.code yX11_week cX11_week 4 (some .int), Cond.fieldLink RX11 184 "SetAgain$Habits" "losses" "I", Cond.fieldLink RX11 187 "SetAgain$Habits" "costs" "I", Cond.methodLink RX11 177 yX4_live, Cond.instanceMethod yX4_live, Cond.selects RX4 yX4_live yX4_live, Cond.code yX4_live cX4_live 3 none, Cond.fieldLink RX4 53 "SetAgain$Week" "sitters" "[I", Cond.methodLink RX4 50 yX4_begin, Cond.instanceMethod yX4_begin, Cond.selects RX4 yX4_begin yX4_begin, Cond.code yX4_begin cX4_begin 2 none, Cond.fieldLink RX4 36 "SetAgain$Habits" "losses" "I"]
def wsL_law_r30 : List Cond := [Cond.fieldLink RX4 39 "SetAgain$Habits" "costs" "I", Cond.methodLink RX4 42 yX4_standAsNow, Cond.instanceMethod yX4_standAsNow, Cond.selects RX4 yX4_standAsNow yX4_standAsNow, Cond.code yX4_standAsNow cX4_standAsNow 2 none, Cond.fieldLink RX4 45 "SetAgain$Chair" "stands" "[I", Cond.methodLink RX4 58 yX4_pass, Cond.instanceMethod yX4_pass, Cond.selects RX4 yX4_pass yX4_pass, Cond.code yX4_pass cX4_pass 2 none, Cond.methodLink RX4 62 yX4_comes, Cond.instanceMethod yX4_comes, Cond.selects RX4 yX4_comes yX4_comes, Cond.code yX4_comes cX4_comes 6 none, Cond.fieldLink RX4 71 "SetAgain$Habits" "triedNear" "I", Cond.methodLink RX4 89 Lib.Math.max.name, Cond.methodLink RX4 74 yX0_numberOf, Cond.methodLink RX4 78 yX0_turned, Cond.instanceMethod yX0_turned, Cond.selects RX0 yX0_turned yX0_turned, Cond.code yX0_turned cX0_turned 6 (some .int), Cond.methodLink RX4 82 yX4_turnTo, Cond.instanceMethod yX4_turnTo, Cond.selects RX4 yX4_turnTo yX4_turnTo]
def wsL_law_r31 : List Cond := [Cond.code yX4_turnTo cX4_turnTo 5 (some .int), Cond.methodLink RX4 101 Lib.Math.abs.name, Cond.methodLink RX4 105 yX0_priceOf, Cond.methodLink RX4 85 yX0_fetch, Cond.instanceMethod yX0_fetch, Cond.selects RX0 yX0_fetch yX0_fetch, Cond.code yX0_fetch cX0_fetch 1 (some .int), Cond.methodLink RX4 94 yX0_lossAt, Cond.methodLink RX4 65 yX4_leaves, Cond.instanceMethod yX4_leaves, Cond.selects RX4 yX4_leaves yX4_leaves, Cond.code yX4_leaves cX4_leaves 2 none, Cond.fieldLink RX4 98 "SetAgain$Habits" "left" "I", Cond.methodLink RX4 68 yX4_slip, Cond.instanceMethod yX4_slip, Cond.selects RX4 yX4_slip yX4_slip, Cond.code yX4_slip cX4_slip 2 none, Cond.methodLink RX4 108 yX0_slipped, Cond.methodLink RX11 181 yX4_allTurns, Cond.instanceMethod yX4_allTurns, Cond.selects RX4 yX4_allTurns yX4_allTurns, Cond.code yX4_allTurns cX4_allTurns 3 (some .int), Cond.methodLink RL 68 yX12_week, Cond.instanceMethod yX12_week]
def wsL_law_r32 : List Cond := [Cond.selects RX12 yX12_week yX12_week, Cond.code yX12_week cX12_week 4 (some .int), Cond.fieldLink RX12 269 "SetAgainModel" "turnsAll" "I", Cond.fieldLink RX12 289 "SetAgainModel" "lossesAll" "I", Cond.methodLink RX12 302 yX12_weekOf, Cond.instanceMethod yX12_weekOf, Cond.selects RX12 yX12_weekOf yX12_weekOf, Cond.code yX12_weekOf cX12_weekOf 5 (some .int), Cond.fieldLink RX12 272 "SetAgainModel" "turnCosts" "I", Cond.methodLink RX12 295 yX12_beginsWeek, Cond.instanceMethod yX12_beginsWeek, Cond.selects RX12 yX12_beginsWeek yX12_beginsWeek, Cond.code yX12_beginsWeek cX12_beginsWeek 2 none, Cond.methodLink RX12 298 yX12_comes, Cond.instanceMethod yX12_comes, Cond.selects RX12 yX12_comes yX12_comes, Cond.code yX12_comes cX12_comes 4 none, Cond.fieldLink RX12 292 "SetAgainModel" "wilfulTo" "I", Cond.methodLink RX12 282 yX12_nearBy, Cond.instanceMethod yX12_nearBy, Cond.selects RX12 yX12_nearBy yX12_nearBy, Cond.code yX12_nearBy cX12_nearBy 2 (some .int), Cond.fieldLink RX12 259 "SetAgainModel" "nearIs" "I", Cond.methodLink RX12 285 yX12_turnsTo]
def wsL_law_r33 : List Cond := [Cond.instanceMethod yX12_turnsTo, Cond.selects RX12 yX12_turnsTo yX12_turnsTo, Cond.code yX12_turnsTo cX12_turnsTo 6 none, Cond.fieldLink RX12 275 "SetAgainModel" "memorySet" "I", Cond.methodLink RX12 266 yX12_priceOf, Cond.instanceMethod yX12_priceOf, Cond.selects RX12 yX12_priceOf yX12_priceOf, Cond.code yX12_priceOf cX12_priceOf 2 (some .int), Cond.fieldLink RX12 262 "SetAgainModel" "isMarked" "Z", Cond.methodLink RX12 278 yX12_isIn, Cond.static yX12_isIn, Cond.code yX12_isIn cX12_isIn 2 (some .boolean), Cond.methodLink RL 69 yX11_stands, Cond.instanceMethod yX11_stands, Cond.selects RX11 yX11_stands yX11_stands, Cond.code yX11_stands cX11_stands 5 (some .int), Cond.fieldLink RX11 190 "SetAgain$Habits" "stand" "[I", Cond.methodLink RL 72 yX12_stands, Cond.instanceMethod yX12_stands, Cond.selects RX12 yX12_stands yX12_stands, Cond.code yX12_stands cX12_stands 4 (some .int), Cond.methodLink RL 73 yX11_pays, Cond.instanceMethod yX11_pays, Cond.selects RX11 yX11_pays yX11_pays]
def wsL_law_r34 : List Cond := [Cond.code yX11_pays cX11_pays 5 (some .int), Cond.methodLink RX11 193 yX4_bestNear, Cond.instanceMethod yX4_bestNear, Cond.selects RX4 yX4_bestNear yX4_bestNear, Cond.code yX4_bestNear cX4_bestNear 6 (some .int), Cond.fieldLink RX4 111 "SetAgain$Week" "length" "I", Cond.methodLink RX4 114 yX4_live, Cond.methodLink RL 76 yX12_pays, Cond.instanceMethod yX12_pays, Cond.selects RX12 yX12_pays yX12_pays, Cond.code yX12_pays cX12_pays 7 (some .int), Cond.methodLink RL 77 yX11_memories, Cond.instanceMethod yX11_memories, Cond.selects RX11 yX11_memories yX11_memories, Cond.code yX11_memories cX11_memories 5 (some .int), Cond.methodLink RX11 196 yX4_bestMemories, Cond.instanceMethod yX4_bestMemories, Cond.selects RX4 yX4_bestMemories yX4_bestMemories, Cond.code yX4_bestMemories cX4_bestMemories 9 (some .int), Cond.fieldLink RX4 117 "SetAgain$Chair" "sitters" "I", Cond.methodLink RX4 119 yJ6_bitCount_0f7a4, Cond.static yJ6_bitCount_0f7a4, Cond.initialized RJ6, Cond.code yJ6_bitCount_0f7a4 cJ6_bitCount_0f7a4 1 (some .int)]
def wsL_law_r35 : List Cond := [Cond.constant RJ6 265 (1431655765), Cond.constant RJ6 266 (858993459), Cond.constant RJ6 267 (252645135), Cond.methodLink RX4 124 yX4_sparedBy, Cond.instanceMethod yX4_sparedBy, Cond.selects RX4 yX4_sparedBy yX4_sparedBy, Cond.code yX4_sparedBy cX4_sparedBy 4 (some .int), Cond.methodLink RL 80 yX12_memories, Cond.instanceMethod yX12_memories, Cond.selects RX12 yX12_memories yX12_memories, Cond.code yX12_memories cX12_memories 8 (some .int), Cond.methodLink RX12 305 yX12_bitsOf, Cond.static yX12_bitsOf, Cond.code yX12_bitsOf cX12_bitsOf 3 (some .int), Cond.methodLink RL 81 yX11_marked, Cond.instanceMethod yX11_marked, Cond.selects RX11 yX11_marked yX11_marked, Cond.code yX11_marked cX11_marked 3 (some .int), Cond.methodLink RX11 199 yX4_savedByMarks, Cond.instanceMethod yX4_savedByMarks, Cond.selects RX4 yX4_savedByMarks yX4_savedByMarks, Cond.code yX4_savedByMarks cX4_savedByMarks 4 (some .int), Cond.methodLink RL 84 yX12_marked, Cond.instanceMethod yX12_marked]
def wsL_law_r36 : List Cond := [Cond.selects RX12 yX12_marked yX12_marked, Cond.code yX12_marked cX12_marked 4 (some .int), Cond.methodLink RL 85 yX11_chairs, Cond.instanceMethod yX11_chairs, Cond.selects RX11 yX11_chairs yX11_chairs, Cond.code yX11_chairs cX11_chairs 6 (some .int), Cond.methodLink RX11 202 yX8_parted, Cond.instanceMethod yX8_parted, Cond.selects RX8 yX8_parted yX8_parted, Cond.code yX8_parted cX8_parted 4 (some .int), Cond.fieldLink RX8 79 "SetAgain$Still" "found" "Z", Cond.fieldLink RX8 83 "SetAgain$Still" "free" "I", Cond.fieldLink RX8 90 "SetAgain$Still" "least" "I", Cond.methodLink RX8 72 yX8_gather, Cond.instanceMethod yX8_gather, Cond.selects RX8 yX8_gather yX8_gather, Cond.code yX8_gather cX8_gather 2 none, Cond.fieldLink RX8 96 "SetAgain$Still" "sitting" "I", Cond.methodLink RX8 75 yX8_sumGroups, Cond.instanceMethod yX8_sumGroups, Cond.selects RX8 yX8_sumGroups yX8_sumGroups, Cond.code yX8_sumGroups cX8_sumGroups 4 none, Cond.methodLink RX8 99 yX8_sumGroupsUpTo, Cond.instanceMethod yX8_sumGroupsUpTo]
def wsL_law_r37 : List Cond := [Cond.selects RX8 yX8_sumGroupsUpTo yX8_sumGroupsUpTo, Cond.code yX8_sumGroupsUpTo cX8_sumGroupsUpTo 5 none, Cond.methodLink RX8 103 Lib.Math.min.name, Cond.methodLink RX8 87 yX8_part, Cond.instanceMethod yX8_part, Cond.selects RX8 yX8_part yX8_part, Cond.code yX8_part cX8_part 3 none, Cond.methodLink RX8 106 yX8_weigh, Cond.instanceMethod yX8_weigh, Cond.selects RX8 yX8_weigh yX8_weigh, Cond.code yX8_weigh cX8_weigh 3 none, Cond.methodLink RX8 93 yX8_chairOf, Cond.instanceMethod yX8_chairOf, Cond.selects RX8 yX8_chairOf yX8_chairOf, Cond.code yX8_chairOf cX8_chairOf 4 (some .int), Cond.methodLink RL 88 yX12_chairs, Cond.instanceMethod yX12_chairs, Cond.selects RX12 yX12_chairs yX12_chairs, Cond.code yX12_chairs cX12_chairs 7 (some .int), Cond.fieldLink RX12 312 "SetAgainModel" "leastChairs" "I", Cond.methodLink RX12 318 yX12_sitsSet, Cond.instanceMethod yX12_sitsSet, Cond.selects RX12 yX12_sitsSet yX12_sitsSet, Cond.code yX12_sitsSet cX12_sitsSet 4 (some .int)]
def wsL_law_r38 : List Cond := [Cond.methodLink RX12 315 yX12_chairsOn, Cond.instanceMethod yX12_chairsOn, Cond.selects RX12 yX12_chairsOn yX12_chairsOn, Cond.code yX12_chairsOn cX12_chairsOn 7 none, Cond.methodLink RX12 309 yX12_chairLoss, Cond.instanceMethod yX12_chairLoss, Cond.selects RX12 yX12_chairLoss yX12_chairLoss, Cond.code yX12_chairLoss cX12_chairLoss 7 (some .int), Cond.methodLink RL 89 yX11_wilful, Cond.instanceMethod yX11_wilful, Cond.selects RX11 yX11_wilful yX11_wilful, Cond.code yX11_wilful cX11_wilful 4 (some .int), Cond.constant RX11 205 (-2000000000), Cond.methodLink RX11 206 yX4_moreByWilful, Cond.instanceMethod yX4_moreByWilful, Cond.selects RX4 yX4_moreByWilful yX4_moreByWilful, Cond.code yX4_moreByWilful cX4_moreByWilful 4 (some .int), Cond.methodLink RL 92 yX12_wilful, Cond.instanceMethod yX12_wilful, Cond.selects RX12 yX12_wilful yX12_wilful, Cond.code yX12_wilful cX12_wilful 6 (some .int), Cond.constant RX12 308 (-2000000000), Cond.methodLink RL 93 yX11_who, Cond.instanceMethod yX11_who]
def wsL_law_r39 : List Cond := [Cond.selects RX11 yX11_who yX11_who, Cond.code yX11_who cX11_who 5 (some .int), Cond.fieldLink RX11 212 "SetAgain$Shelf" "length" "I", Cond.methodLink RX11 213 yX6_mayHaveSat, Cond.instanceMethod yX6_mayHaveSat, Cond.selects RX6 yX6_mayHaveSat yX6_mayHaveSat, Cond.code yX6_mayHaveSat cX6_mayHaveSat 10 (some .int), Cond.fieldLink RX6 15 "SetAgain$Seen" "row" "LSetAgain$Shelf;", Cond.fieldLink RX6 19 "SetAgain$Seen" "part" "I", Cond.fieldLink RX6 30 "SetAgain$Chair" "sitters" "I", Cond.methodLink RX6 23 yX6_reachedAhead, Cond.instanceMethod yX6_reachedAhead, Cond.selects RX6 yX6_reachedAhead yX6_reachedAhead, Cond.code yX6_reachedAhead cX6_reachedAhead 8 (some .long), Cond.fieldLink RX6 39 "SetAgain$Chair" "stands" "[I", Cond.methodLink RX6 35 yX6_allBehind, Cond.instanceMethod yX6_allBehind, Cond.selects RX6 yX6_allBehind yX6_allBehind, Cond.code yX6_allBehind cX6_allBehind 7 (some .long), Cond.methodLink RX6 71 yX6_behindShift, Cond.instanceMethod yX6_behindShift, Cond.selects RX6 yX6_behindShift yX6_behindShift, Cond.code yX6_behindShift cX6_behindShift 3 (some .int), Cond.methodLink RX6 74 yX0_slipped]
def wsL_law_r40 : List Cond := [Cond.methodLink RX6 77 yX0_numberOf, Cond.methodLink RX6 80 yX0_turned, Cond.methodLink RX6 43 yX6_asSeen, Cond.instanceMethod yX6_asSeen, Cond.selects RX6 yX6_asSeen yX6_asSeen, Cond.code yX6_asSeen cX6_asSeen 4 (some .long), Cond.fieldLink RX6 63 "SetAgain$Shelf" "elements" "[J", Cond.constantLong RX6 67 (-1), Cond.constantLong RX6 46 (2305843009213693951), Cond.constantLong RX6 69 (60), Cond.methodLink RX6 27 yX6_fittingBehind, Cond.instanceMethod yX6_fittingBehind, Cond.selects RX6 yX6_fittingBehind yX6_fittingBehind, Cond.code yX6_fittingBehind cX6_fittingBehind 5 (some .long), Cond.fieldLink RX6 48 "SetAgain$Shelf" "length" "I", Cond.methodLink RX6 53 Lib.Math.min.name, Cond.methodLink RX6 59 yX6_allAhead, Cond.instanceMethod yX6_allAhead, Cond.selects RX6 yX6_allAhead yX6_allAhead, Cond.code yX6_allAhead cX6_allAhead 7 (some .long), Cond.methodLink RL 96 yX12_who, Cond.instanceMethod yX12_who, Cond.selects RX12 yX12_who yX12_who, Cond.code yX12_who cX12_who 10 (some .int)]
def wsL_law_r41 : List Cond := [Cond.constantLong RX12 323 (11), Cond.methodLink RX12 325 yX12_may1, Cond.instanceMethod yX12_may1, Cond.selects RX12 yX12_may1 yX12_may1, Cond.code yX12_may1 cX12_may1 2 (some .boolean), Cond.methodLink RX12 328 yX12_standsBy, Cond.instanceMethod yX12_standsBy, Cond.selects RX12 yX12_standsBy yX12_standsBy, Cond.code yX12_standsBy cX12_standsBy 5 (some .int), Cond.methodLink RX12 331 yX12_isSeen, Cond.instanceMethod yX12_isSeen, Cond.selects RX12 yX12_isSeen yX12_isSeen, Cond.code yX12_isSeen cX12_isSeen 6 (some .boolean), Cond.constantLong RX12 321 (-1), Cond.methodLink RL 97 yX11_judge, Cond.instanceMethod yX11_judge, Cond.selects RX11 yX11_judge yX11_judge, Cond.code yX11_judge cX11_judge 7 (some .int), Cond.methodLink RX11 216 yX11_firstUnlike, Cond.instanceMethod yX11_firstUnlike, Cond.selects RX11 yX11_firstUnlike yX11_firstUnlike, Cond.code yX11_firstUnlike cX11_firstUnlike 5 (some .int), Cond.methodLink RX11 263 Lib.Math.min.name, Cond.fieldLink RX11 331 "SetAgain$Week" "sitters" "[I"]
def wsL_law_r42 : List Cond := [Cond.constantLong RX11 336 (-1), Cond.methodLink RX11 328 yX4_begin, Cond.methodLink RX11 333 yX4_pass, Cond.methodLink RL 100 yX12_judge, Cond.instanceMethod yX12_judge, Cond.selects RX12 yX12_judge yX12_judge, Cond.code yX12_judge cX12_judge 4 (some .int), Cond.methodLink RL 101 yX11_drawn, Cond.instanceMethod yX11_drawn, Cond.selects RX11 yX11_drawn yX11_drawn, Cond.code yX11_drawn cX11_drawn 7 (some .int), Cond.methodLink RX11 220 yX4_drawWeeks, Cond.instanceMethod yX4_drawWeeks, Cond.selects RX4 yX4_drawWeeks yX4_drawWeeks, Cond.code yX4_drawWeeks cX4_drawWeeks 8 (some .int), Cond.constant RX4 127 (1103515245), Cond.methodLink RL 105 yX12_drawn, Cond.instanceMethod yX12_drawn, Cond.selects RX12 yX12_drawn yX12_drawn, Cond.code yX12_drawn cX12_drawn 11 (some .int), Cond.constantLong RX12 334 (20), Cond.constant RX12 336 (1103515245), Cond.methodLink RL 106 yX11_sit, Cond.instanceMethod yX11_sit]
def wsL_law_r43 : List Cond := [Cond.selects RX11 yX11_sit yX11_sit, Cond.code yX11_sit cX11_sit 2 (some .int), Cond.methodLink RX11 223 yX2_comes, Cond.instanceMethod yX2_comes, Cond.selects RX2 yX2_comes yX2_comes, Cond.code yX2_comes cX2_comes 2 (some .int), Cond.fieldLink RX2 38 "SetAgain$Habits" "stand" "[I", Cond.fieldLink RX2 41 "SetAgain$Chair" "stands" "[I", Cond.methodLink RX2 46 arraycopyName, Cond.fieldLink RX2 52 "SetAgain$Habits" "costs" "I", Cond.fieldLink RX2 60 "SetAgain$Habits" "losses" "I", Cond.methodLink RX2 29 yX4_begin, Cond.methodLink RX2 34 yX4_comes, Cond.methodLink RX2 56 yX4_allTurns, Cond.methodLink RL 109 yX12_sit, Cond.instanceMethod yX12_sit, Cond.selects RX12 yX12_sit yX12_sit, Cond.code yX12_sit cX12_sit 3 (some .int), Cond.fieldLink RX12 337 "SetAgainModel" "ledShifts" "I", Cond.fieldLink RX12 340 "SetAgainModel" "ledTurns" "I", Cond.fieldLink RX12 343 "SetAgainModel" "ledLosses" "I", Cond.fieldLink RX12 346 "SetAgainModel" "ledDearest" "I", Cond.methodLink RL 110 yX11_set, Cond.instanceMethod yX11_set]
def wsL_law_r44 : List Cond := [Cond.selects RX11 yX11_set yX11_set, Cond.code yX11_set cX11_set 3 (some .int), Cond.methodLink RX11 225 yX2_turns, Cond.instanceMethod yX2_turns, Cond.selects RX2 yX2_turns yX2_turns, Cond.code yX2_turns cX2_turns 4 (some .int), Cond.methodLink RX2 63 Lib.Math.abs.name, Cond.methodLink RL 113 yX12_set, Cond.instanceMethod yX12_set, Cond.selects RX12 yX12_set yX12_set, Cond.code yX12_set cX12_set 4 (some .int), Cond.methodLink RL 114 yX11_night, Cond.instanceMethod yX11_night, Cond.selects RX11 yX11_night yX11_night, Cond.code yX11_night cX11_night 1 (some .int), Cond.methodLink RX11 228 yX2_allSlip, Cond.instanceMethod yX2_allSlip, Cond.selects RX2 yX2_allSlip yX2_allSlip, Cond.code yX2_allSlip cX2_allSlip 4 (some .int), Cond.methodLink RX2 69 yX0_slipped, Cond.methodLink RL 117 yX12_night, Cond.instanceMethod yX12_night, Cond.selects RX12 yX12_night yX12_night, Cond.code yX12_night cX12_night 4 (some .int)]
def wsL_law_r45 : List Cond := [Cond.methodLink RL 118 yX11_led, Cond.instanceMethod yX11_led, Cond.selects RX11 yX11_led yX11_led, Cond.code yX11_led cX11_led 2 (some .int), Cond.fieldLink RX11 231 "SetAgain$Deed" "told" "[I", Cond.methodLink RL 121 yX12_led, Cond.instanceMethod yX12_led, Cond.selects RX12 yX12_led yX12_led, Cond.code yX12_led cX12_led 2 (some .int), Cond.methodLink RL 122 yX11_image, Cond.instanceMethod yX11_image, Cond.selects RX11 yX11_image yX11_image, Cond.code yX11_image cX11_image 1 (some .int), Cond.methodLink RX11 232 yX2_keepImage, Cond.instanceMethod yX2_keepImage, Cond.selects RX2 yX2_keepImage yX2_keepImage, Cond.code yX2_keepImage cX2_keepImage 1 (some .int), Cond.fieldLink RX2 73 "SetAgain$Deed" "kept" "Z", Cond.methodLink RL 125 yX12_image, Cond.instanceMethod yX12_image, Cond.selects RX12 yX12_image yX12_image, Cond.code yX12_image cX12_image 2 (some .int), Cond.fieldLink RX12 349 "SetAgainModel" "isKept" "Z", Cond.methodLink RX12 352 yX12_led]
def wsL_law_r46 : List Cond := [Cond.methodLink RL 126 yX11_back, Cond.instanceMethod yX11_back, Cond.selects RX11 yX11_back yX11_back, Cond.code yX11_back cX11_back 1 (some .int), Cond.methodLink RX11 235 yX2_layBack, Cond.instanceMethod yX2_layBack, Cond.selects RX2 yX2_layBack yX2_layBack, Cond.code yX2_layBack cX2_layBack 1 (some .int), Cond.methodLink RL 129 yX12_back, Cond.instanceMethod yX12_back, Cond.selects RX12 yX12_back yX12_back, Cond.code yX12_back cX12_back 2 (some .int), Cond.methodLink RL 130 yX11_undo, Cond.instanceMethod yX11_undo, Cond.selects RX11 yX11_undo yX11_undo, Cond.code yX11_undo cX11_undo 1 (some .int), Cond.fieldLink RX11 238 "SetAgain$Changes" "done" "I", Cond.fieldLink RX11 241 "SetAgain$Changes" "places" "[I", Cond.fieldLink RX11 244 "SetAgain$Changes" "before" "[I", Cond.methodLink RL 133 yX12_undo, Cond.instanceMethod yX12_undo, Cond.selects RX12 yX12_undo yX12_undo, Cond.code yX12_undo cX12_undo 1 (some .int), Cond.methodLink RL 134 yX11_redo]
def wsL_law_r47 : List Cond := [Cond.instanceMethod yX11_redo, Cond.selects RX11 yX11_redo yX11_redo, Cond.code yX11_redo cX11_redo 1 (some .int), Cond.fieldLink RX11 247 "SetAgain$Changes" "kept" "I", Cond.fieldLink RX11 250 "SetAgain$Changes" "after" "[I", Cond.methodLink RL 137 yX12_redo, Cond.instanceMethod yX12_redo, Cond.selects RX12 yX12_redo yX12_redo, Cond.code yX12_redo cX12_redo 1 (some .int), Cond.methodLink RL 138 yX11_body, Cond.instanceMethod yX11_body, Cond.selects RX11 yX11_body yX11_body, Cond.code yX11_body cX11_body 2 (some .int), Cond.methodLink RX11 253 yX11_isKind, Cond.static yX11_isKind, Cond.code yX11_isKind cX11_isKind 1 (some .boolean), Cond.methodLink RX11 256 yX3_comes, Cond.instanceMethod yX3_comes, Cond.selects RX3 yX3_comes yX3_comes, Cond.code yX3_comes cX3_comes 2 (some .int), Cond.fieldLink RX3 18 "SetAgain$Desks" "kept" "I", Cond.methodLink RL 141 yX12_body, Cond.instanceMethod yX12_body, Cond.selects RX12 yX12_body yX12_body]
def wsL_law_r48 : List Cond := [Cond.code yX12_body cX12_body 2 (some .int), Cond.fieldLink RX12 355 "SetAgainModel" "bodies" "I", Cond.methodLink RL 142 yX11_act, Cond.instanceMethod yX11_act, Cond.selects RX11 yX11_act yX11_act, Cond.code yX11_act cX11_act 4 (some .int), Cond.methodLink RX11 257 yX3_acts, Cond.instanceMethod yX3_acts, Cond.selects RX3 yX3_acts yX3_acts, Cond.code yX3_acts cX3_acts 4 (some .int), Cond.fieldLink RX3 25 "SetAgain$Desks" "ran" "I", Cond.fieldLink RX3 28 "SetAgain$Desks" "kind" "I", Cond.fieldLink RX3 31 "SetAgain$Desks" "number" "I", Cond.methodLink RX3 34 yX3_does, Cond.instanceMethod yX3_does, Cond.selects RX3 yX3_does yX3_does, Cond.code yX3_does cX3_does 7 (some .int), Cond.fieldLink RX3 42 "SetAgain$Desks" "OWN" "[I", Cond.fieldLink RX3 22 "SetAgain$Desks" "ABOVE" "[I", Cond.methodLink RX3 38 yX3_ownerOf, Cond.static yX3_ownerOf, Cond.code yX3_ownerOf cX3_ownerOf 4 (some .int), Cond.methodLink RX3 45 yX3_runs, Cond.instanceMethod yX3_runs]
def wsL_law_r49 : List Cond := [Cond.selects RX3 yX3_runs yX3_runs, Cond.code yX3_runs cX3_runs 5 (some .int), Cond.methodLink RL 145 yX12_act, Cond.instanceMethod yX12_act, Cond.selects RX12 yX12_act yX12_act, Cond.code yX12_act cX12_act 4 (some .int), Cond.fieldLink RX12 358 "SetAgainModel" "ran" "I", Cond.fieldLink RX12 373 "SetAgainModel" "ownKind" "I", Cond.fieldLink RX12 367 "SetAgainModel" "ownNumber" "I", Cond.methodLink RX12 382 yX12_isBody, Cond.instanceMethod yX12_isBody, Cond.selects RX12 yX12_isBody yX12_isBody, Cond.code yX12_isBody cX12_isBody 2 (some .boolean), Cond.methodLink RX12 364 yX12_setsAs, Cond.instanceMethod yX12_setsAs, Cond.selects RX12 yX12_setsAs yX12_setsAs, Cond.code yX12_setsAs cX12_setsAs 3 (some .int), Cond.methodLink RX12 361 yX12_begins, Cond.instanceMethod yX12_begins, Cond.selects RX12 yX12_begins yX12_begins, Cond.code yX12_begins cX12_begins 2 none, Cond.methodLink RX12 370 yX12_sitsAs, Cond.instanceMethod yX12_sitsAs, Cond.selects RX12 yX12_sitsAs yX12_sitsAs]
def wsL_law_r50 : List Cond := [Cond.code yX12_sitsAs cX12_sitsAs 4 (some .int), Cond.methodLink RX12 376 yX12_slipsAs, Cond.instanceMethod yX12_slipsAs, Cond.selects RX12 yX12_slipsAs yX12_slipsAs, Cond.code yX12_slipsAs cX12_slipsAs 4 (some .int), Cond.methodLink RX12 379 yX12_tellsAs, Cond.instanceMethod yX12_tellsAs, Cond.selects RX12 yX12_tellsAs yX12_tellsAs, Cond.code yX12_tellsAs cX12_tellsAs 4 (some .int), Cond.methodLink RL 146 yX11_trace, Cond.instanceMethod yX11_trace, Cond.selects RX11 yX11_trace yX11_trace, Cond.code yX11_trace cX11_trace 2 (some .int), Cond.fieldLink RX11 260 "SetAgain$Desks" "ran" "I", Cond.fieldLink RX11 268 "SetAgain$Desks" "trace" "[I", Cond.methodLink RL 149 yX12_trace, Cond.instanceMethod yX12_trace, Cond.selects RX12 yX12_trace yX12_trace, Cond.code yX12_trace cX12_trace 2 (some .int), Cond.methodLink RL 150 yX11_keep, Cond.instanceMethod yX11_keep, Cond.selects RX11 yX11_keep yX11_keep, Cond.code yX11_keep cX11_keep 3 (some .int), Cond.fieldLink RX11 271 "SetAgain$Desks" "kept" "I"]
def wsL_law_r51 : List Cond := [Cond.methodLink RX11 272 yX7_takesDesk, Cond.instanceMethod yX7_takesDesk, Cond.selects RX7 yX7_takesDesk yX7_takesDesk, Cond.code yX7_takesDesk cX7_takesDesk 2 none, Cond.fieldLink RX7 19 "SetAgain$Shelf" "desk" "I", Cond.methodLink RL 153 yX12_keep, Cond.instanceMethod yX12_keep, Cond.selects RX12 yX12_keep yX12_keep, Cond.code yX12_keep cX12_keep 3 (some .int), Cond.methodLink RL 154 yX11_row, Cond.instanceMethod yX11_row, Cond.selects RX11 yX11_row yX11_row, Cond.code yX11_row cX11_row 4 (some .int), Cond.methodLink RX11 275 yX7_takesRow, Cond.instanceMethod yX7_takesRow, Cond.selects RX7 yX7_takesRow yX7_takesRow, Cond.code yX7_takesRow cX7_takesRow 4 none, Cond.methodLink RL 157 yX12_row, Cond.instanceMethod yX12_row, Cond.selects RX12 yX12_row yX12_row, Cond.code yX12_row cX12_row 5 (some .int), Cond.constantLong RX12 387 (4), Cond.methodLink RL 160 yX11_put, Cond.instanceMethod yX11_put]
def wsL_law_r52 : List Cond := [Cond.selects RX11 yX11_put yX11_put, Cond.code yX11_put cX11_put 6 (some .int), Cond.methodLink RX11 278 yX11_refusalAt, Cond.instanceMethod yX11_refusalAt, Cond.selects RX11 yX11_refusalAt yX11_refusalAt, Cond.code yX11_refusalAt cX11_refusalAt 4 (some .int), Cond.methodLink RX11 291 yX7_isRow, Cond.instanceMethod yX7_isRow, Cond.selects RX7 yX7_isRow yX7_isRow, Cond.code yX7_isRow cX7_isRow 1 (some .boolean), Cond.methodLink RX11 285 yX7_cut, Cond.instanceMethod yX7_cut, Cond.selects RX7 yX7_cut yX7_cut, Cond.code yX7_cut cX7_cut 3 (some .long), Cond.methodLink RL 164 yX12_put, Cond.instanceMethod yX12_put, Cond.selects RX12 yX12_put yX12_put, Cond.code yX12_put cX12_put 6 (some .int), Cond.methodLink RX12 389 yX12_refusal, Cond.instanceMethod yX12_refusal, Cond.selects RX12 yX12_refusal yX12_refusal, Cond.code yX12_refusal cX12_refusal 3 (some .int), Cond.methodLink RX12 392 yX12_asSort, Cond.static yX12_asSort]
def wsL_law_r53 : List Cond := [Cond.code yX12_asSort cX12_asSort 3 (some .long), Cond.methodLink RL 165 yX11_element, Cond.instanceMethod yX11_element, Cond.selects RX11 yX11_element yX11_element, Cond.code yX11_element cX11_element 3 (some .long), Cond.constantLong RX11 289 (-9223372036854775808), Cond.methodLink RL 169 yX12_element, Cond.instanceMethod yX12_element, Cond.selects RX12 yX12_element yX12_element, Cond.code yX12_element cX12_element 3 (some .long), Cond.constantLong RX12 398 (-9223372036854775808), Cond.methodLink RL 170 yX11_shift, Cond.instanceMethod yX11_shift, Cond.selects RX11 yX11_shift yX11_shift, Cond.code yX11_shift cX11_shift 8 (some .int), Cond.methodLink RX11 298 arraycopyName, Cond.methodLink RL 174 yX12_shift, Cond.instanceMethod yX12_shift, Cond.selects RX12 yX12_shift yX12_shift, Cond.code yX12_shift cX12_shift 7 (some .int), Cond.methodLink RL 175 yX11_taken, Cond.instanceMethod yX11_taken, Cond.selects RX11 yX11_taken yX11_taken, Cond.code yX11_taken cX11_taken 4 (some .int)]
def wsL_law_r54 : List Cond := [Cond.fieldLink RX11 304 "SetAgain$Shelf" "desk" "I", Cond.methodLink RX11 307 yX3_takenFor, Cond.instanceMethod yX3_takenFor, Cond.selects RX3 yX3_takenFor yX3_takenFor, Cond.code yX3_takenFor cX3_takenFor 5 (some .int), Cond.methodLink RL 178 yX12_taken, Cond.instanceMethod yX12_taken, Cond.selects RX12 yX12_taken yX12_taken, Cond.code yX12_taken cX12_taken 4 (some .int), Cond.methodLink RX12 400 yX12_kindOf, Cond.instanceMethod yX12_kindOf, Cond.selects RX12 yX12_kindOf yX12_kindOf, Cond.code yX12_kindOf cX12_kindOf 2 (some .int), Cond.methodLink RX12 403 yX12_above, Cond.static yX12_above, Cond.code yX12_above cX12_above 1 (some .int), Cond.methodLink RL 179 yX11_count, Cond.instanceMethod yX11_count, Cond.selects RX11 yX11_count yX11_count, Cond.code yX11_count cX11_count 2 (some .int), Cond.fieldLink RX11 313 "SetAgain$Law" "length" "I", Cond.methodLink RL 182 yX12_count, Cond.instanceMethod yX12_count, Cond.selects RX12 yX12_count yX12_count]
def wsL_law_r55 : List Cond := [Cond.code yX12_count cX12_count 2 (some .int)]
def wsL_law : List Cond := (wsL_law_r1 ++ (wsL_law_r2 ++ (wsL_law_r3 ++ (wsL_law_r4 ++ (wsL_law_r5 ++ (wsL_law_r6 ++ (wsL_law_r7 ++ (wsL_law_r8 ++ (wsL_law_r9 ++ (wsL_law_r10 ++ (wsL_law_r11 ++ (wsL_law_r12 ++ (wsL_law_r13 ++ (wsL_law_r14 ++ (wsL_law_r15 ++ (wsL_law_r16 ++ (wsL_law_r17 ++ (wsL_law_r18 ++ (wsL_law_r19 ++ (wsL_law_r20 ++ (wsL_law_r21 ++ (wsL_law_r22 ++ (wsL_law_r23 ++ (wsL_law_r24 ++ (wsL_law_r25 ++ (wsL_law_r26 ++ (wsL_law_r27 ++ (wsL_law_r28 ++ (wsL_law_r29 ++ (wsL_law_r30 ++ (wsL_law_r31 ++ (wsL_law_r32 ++ (wsL_law_r33 ++ (wsL_law_r34 ++ (wsL_law_r35 ++ (wsL_law_r36 ++ (wsL_law_r37 ++ (wsL_law_r38 ++ (wsL_law_r39 ++ (wsL_law_r40 ++ (wsL_law_r41 ++ (wsL_law_r42 ++ (wsL_law_r43 ++ (wsL_law_r44 ++ (wsL_law_r45 ++ (wsL_law_r46 ++ (wsL_law_r47 ++ (wsL_law_r48 ++ (wsL_law_r49 ++ (wsL_law_r50 ++ (wsL_law_r51 ++ (wsL_law_r52 ++ (wsL_law_r53 ++ (wsL_law_r54 ++ wsL_law_r55)))))))))))))))))))))))))))))))))))))))))))))))))))))) ++ wsX110 ++ wsX120 ++ wsX00 ++ wsX100 ++ wsX40 ++ wsX80 ++ wsX90 ++ wsX60 ++ wsX20 ++ wsX10 ++ wsX30 ++ wsX70 ++ wsX50 ++ ([] : List Cond)
set_option maxRecDepth 20000 in
theorem wsL_law_in : ∀ w ∈ wsL_law, w ∈ lw_tbl := fun w h => (goodIn_p wsL_law [115, 118, 123, 129, 195, 222, 268, 315, 331, 347, 373, 400, 429, 1114, 487, 490, 493, 501, 505, 1293, 1296, 1300, 1305, 509, 512, 516, 520, 524, 1309, 1312, 528, 532, 536, 540, 547, 1318, 1322, 1327, 1331, 1335, 1339, 551, 554, 1343, 558, 562, 1347, 566, 570, 574, 578, 582, 606, 617, 586, 590, 628, 624, 602, 609, 613, 620, 598, 594, 633, 1352, 1356, 1360, 1392, 1384, 1364, 1368, 1380, 1388, 1395, 1376, 1372, 637, 641, 645, 662, 669, 672, 649, 653, 656, 659, 665, 1399, 1403, 1407, 1410, 676, 680, 684, 688, 693, 1414, 1418, 1422, 1426, 1430, 698, 702, 707, 1434, 1439, 1443, 712, 716, 720, 1447, 1451, 1455, 1459, 725, 729, 733, 737, 742, 746, 750, 755, 1463, 1467, 1471, 1475, 760, 764, 1479, 768, 772, 776, 780, 784, 788, 793, 797, 803, 809, 813, 818, 1483, 1487, 1491, 1495, 1499, 1503, 1507, 1510, 822, 1514, 826, 830, 1518, 835, 839, 842, 849, 1522, 1525, 853, 857, 1529, 861, 865, 869, 873, 877, 882, 886, 890, 1538, 1542, 1546, 1550, 894, 899, 1533, 903, 907, 911, 915, 919, 926, 933, 938, 1554, 1559, 1563, 1567, 942, 946, 1572, 954, 958, 1576, 963, 967, 1582, 975, 979, 1586, 984, 988, 1590, 993, 1594, 997, 1001, 1598, 1005, 1009, 1603, 1013, 1285, 1017, 1289, 1021, 1024, 1028, 1607, 1032, 1036, 1040, 1043, 1051, 1611, 1615, 1619, 1623, 1627, 1631, 1635, 1055, 1639, 1059, 1063, 1643, 1067, 1071, 1647, 1075, 1079, 1083, 1087, 1652, 1656, 1659, 1091, 1663, 1096, 1668, 1101, 1105, 1672, 1676, 1679, 1109, 1683] (by decide +kernel) (by decide +kernel) w h).1
theorem inlX0 : ∀ w ∈ wsX00, w ∈ wsL_law := fun _ h => List.mem_append_left _ (List.mem_append_left _ (List.mem_append_left _ (List.mem_append_left _ (List.mem_append_left _ (List.mem_append_left _ (List.mem_append_left _ (List.mem_append_left _ (List.mem_append_left _ (List.mem_append_left _ (List.mem_append_left _ (List.mem_append_right _ h)))))))))))
theorem inX0 : ∀ w ∈ wsX00, w ∈ lw_tbl := fun w h => wsL_law_in w (inlX0 w h)
theorem inlX1 : ∀ w ∈ wsX10, w ∈ wsL_law := fun _ h => List.mem_append_left _ (List.mem_append_left _ (List.mem_append_left _ (List.mem_append_left _ (List.mem_append_right _ h))))
theorem inX1 : ∀ w ∈ wsX10, w ∈ lw_tbl := fun w h => wsL_law_in w (inlX1 w h)
theorem inlX2 : ∀ w ∈ wsX20, w ∈ wsL_law := fun _ h => List.mem_append_left _ (List.mem_append_left _ (List.mem_append_left _ (List.mem_append_left _ (List.mem_append_left _ (List.mem_append_right _ h)))))
theorem inX2 : ∀ w ∈ wsX20, w ∈ lw_tbl := fun w h => wsL_law_in w (inlX2 w h)
theorem inlX3 : ∀ w ∈ wsX30, w ∈ wsL_law := fun _ h => List.mem_append_left _ (List.mem_append_left _ (List.mem_append_left _ (List.mem_append_right _ h)))
theorem inX3 : ∀ w ∈ wsX30, w ∈ lw_tbl := fun w h => wsL_law_in w (inlX3 w h)
theorem inlX4 : ∀ w ∈ wsX40, w ∈ wsL_law := fun _ h => List.mem_append_left _ (List.mem_append_left _ (List.mem_append_left _ (List.mem_append_left _ (List.mem_append_left _ (List.mem_append_left _ (List.mem_append_left _ (List.mem_append_left _ (List.mem_append_left _ (List.mem_append_right _ h)))))))))
theorem inX4 : ∀ w ∈ wsX40, w ∈ lw_tbl := fun w h => wsL_law_in w (inlX4 w h)
theorem inlX5 : ∀ w ∈ wsX50, w ∈ wsL_law := fun _ h => List.mem_append_left _ (List.mem_append_right _ h)
theorem inX5 : ∀ w ∈ wsX50, w ∈ lw_tbl := fun w h => wsL_law_in w (inlX5 w h)
theorem inlX6 : ∀ w ∈ wsX60, w ∈ wsL_law := fun _ h => List.mem_append_left _ (List.mem_append_left _ (List.mem_append_left _ (List.mem_append_left _ (List.mem_append_left _ (List.mem_append_left _ (List.mem_append_right _ h))))))
theorem inX6 : ∀ w ∈ wsX60, w ∈ lw_tbl := fun w h => wsL_law_in w (inlX6 w h)
theorem inlX7 : ∀ w ∈ wsX70, w ∈ wsL_law := fun _ h => List.mem_append_left _ (List.mem_append_left _ (List.mem_append_right _ h))
theorem inX7 : ∀ w ∈ wsX70, w ∈ lw_tbl := fun w h => wsL_law_in w (inlX7 w h)
theorem inlX8 : ∀ w ∈ wsX80, w ∈ wsL_law := fun _ h => List.mem_append_left _ (List.mem_append_left _ (List.mem_append_left _ (List.mem_append_left _ (List.mem_append_left _ (List.mem_append_left _ (List.mem_append_left _ (List.mem_append_left _ (List.mem_append_right _ h))))))))
theorem inX8 : ∀ w ∈ wsX80, w ∈ lw_tbl := fun w h => wsL_law_in w (inlX8 w h)
theorem inlX9 : ∀ w ∈ wsX90, w ∈ wsL_law := fun _ h => List.mem_append_left _ (List.mem_append_left _ (List.mem_append_left _ (List.mem_append_left _ (List.mem_append_left _ (List.mem_append_left _ (List.mem_append_left _ (List.mem_append_right _ h)))))))
theorem inX9 : ∀ w ∈ wsX90, w ∈ lw_tbl := fun w h => wsL_law_in w (inlX9 w h)
theorem inlX10 : ∀ w ∈ wsX100, w ∈ wsL_law := fun _ h => List.mem_append_left _ (List.mem_append_left _ (List.mem_append_left _ (List.mem_append_left _ (List.mem_append_left _ (List.mem_append_left _ (List.mem_append_left _ (List.mem_append_left _ (List.mem_append_left _ (List.mem_append_left _ (List.mem_append_right _ h))))))))))
theorem inX10 : ∀ w ∈ wsX100, w ∈ lw_tbl := fun w h => wsL_law_in w (inlX10 w h)
theorem inlX11 : ∀ w ∈ wsX110, w ∈ wsL_law := fun _ h => List.mem_append_left _ (List.mem_append_left _ (List.mem_append_left _ (List.mem_append_left _ (List.mem_append_left _ (List.mem_append_left _ (List.mem_append_left _ (List.mem_append_left _ (List.mem_append_left _ (List.mem_append_left _ (List.mem_append_left _ (List.mem_append_left _ (List.mem_append_left _ (List.mem_append_right _ h)))))))))))))
theorem inX11 : ∀ w ∈ wsX110, w ∈ lw_tbl := fun w h => wsL_law_in w (inlX11 w h)
theorem inlX12 : ∀ w ∈ wsX120, w ∈ wsL_law := fun _ h => List.mem_append_left _ (List.mem_append_left _ (List.mem_append_left _ (List.mem_append_left _ (List.mem_append_left _ (List.mem_append_left _ (List.mem_append_left _ (List.mem_append_left _ (List.mem_append_left _ (List.mem_append_left _ (List.mem_append_left _ (List.mem_append_left _ (List.mem_append_right _ h))))))))))))
theorem inX12 : ∀ w ∈ wsX120, w ∈ lw_tbl := fun w h => wsL_law_in w (inlX12 w h)
set_option maxRecDepth 20000 in
theorem ggL_law_X11_init : GoodIn wsL_law wsX11_init := goodIn_r _ [9, 10, 11, 12, 13, 14, 15, 16, 17, 18, 19, 20, 21, 22, 23, 24, 25, 26, 27, 28, 29, 30, 31, 32, 33, 34, 35, 36, 37, 38, 39, 40, 41, 42, 43, 44, 45, 46, 47, 48, 49, 50, 51, 52, 53, 54, 55, 56, 57, 58, 59, 60, 61, 62, 63, 64, 65, 66, 67, 68, 69, 70, 71, 72, 73, 74, 75, 76, 77, 78, 79, 80, 81, 82, 83, 84, 85, 86, 87, 88, 89, 90, 91, 92, 93, 94, 95, 96, 97, 98, 99, 100, 101, 102, 103, 104, 105, 106, 107, 108, 109, 110, 111, 112, 113, 114, 115, 116, 117, 118, 119, 120, 121, 122, 123, 124, 125, 126, 127, 128, 129, 130, 131, 132, 133, 134, 135, 136, 137, 138, 139, 1362, 1363, 1364, 1365, 1366, 1297, 1298, 1299, 1300, 1301, 1302, 1303, 1304, 1305, 1306, 1367, 1368, 1369, 1370, 1371, 1372, 1373, 1374, 1375, 1376, 1377, 1378, 1379, 1380, 1381, 1382, 1383, 1384, 1385, 1386, 1387, 1388, 1389, 1390, 1391, 1392, 1393, 1394, 1395, 1396, 1397, 1398, 1399, 1400, 1401, 1402, 1403, 1404, 1405, 1406, 1407, 1408, 1409, 1410, 1411, 1412, 1413, 1414, 1415, 1416, 1417, 1418, 1419, 1420, 1421, 1422, 1423, 1424, 1425, 1426, 1427, 1428, 1429, 1430, 1431] (by decide +kernel) (by decide +kernel)
set_option maxRecDepth 20000 in
theorem gL_law_X11_init : GoodIn wsL_law (wsX11_init) := ggL_law_X11_init
set_option maxRecDepth 20000 in
theorem ggL_law_X12_init : GoodIn wsL_law wsX12_init := goodIn_r _ [142, 143, 11, 12, 57, 144, 145, 146, 147, 148, 149, 150, 151, 152, 153, 93, 154, 155, 156, 157, 158, 159, 160, 161, 162, 163, 164, 165, 166, 137, 167, 168, 169, 170, 171, 172, 1307, 1308, 1309, 1310, 1311, 1312, 1313, 1314, 1315, 1316, 1317, 1318, 1319, 1320, 1321, 1322, 1323, 1324, 1325, 1326, 1327, 1328, 1329, 1330, 1331, 1332, 1333, 1334, 1335, 1336, 1337, 1338, 1339, 1340, 1341, 1342, 1343, 1344, 1345, 1346, 1347, 1348, 1349, 1350, 1351, 1352, 1353, 1354, 1355, 1356, 1357, 1358, 1359, 1360, 1361] (by decide +kernel) (by decide +kernel)
set_option maxRecDepth 20000 in
theorem gL_law_X12_init : GoodIn wsL_law (wsX12_init) := ggL_law_X12_init
set_option maxRecDepth 20000 in
theorem ggL_law_X11_sitter : GoodIn wsL_law wsX11_sitter := goodIn_r _ [176, 16, 177, 178, 2, 179, 180, 181, 182, 183, 184, 185, 186, 187, 15, 188, 189, 58, 190, 191, 192, 193, 64, 1297, 1298, 1299, 1300, 1301, 1302, 1303, 1304, 1305, 1306, 1362, 1363, 1364, 1365, 1366] (by decide +kernel) (by decide +kernel)
set_option maxRecDepth 20000 in
theorem gL_law_X11_sitter : GoodIn wsL_law (wsV RL 13 RX11 yX11_sitter wsX11_sitter) := goodIn_app (goodIn_of _ (by decide +kernel)) ggL_law_X11_sitter
set_option maxRecDepth 20000 in
theorem ggL_law_X12_sitter : GoodIn wsL_law wsX12_sitter := goodIn_r _ [197, 198, 199, 200, 201, 5, 202, 203, 204, 205, 206, 207, 208, 209, 210, 144, 1307, 1308, 1309, 1310, 1311, 1312, 1313, 1314, 1315, 1316, 1317, 1318, 1319, 1320, 1321, 1322, 1323, 1324, 1325, 1326, 1327, 1328, 1329, 1330, 1331, 1332, 1333, 1334, 1335, 1336, 1337, 1338, 1339, 1340, 1341, 1342, 1343, 1344, 1345, 1346, 1347, 1348, 1349, 1350, 1351, 1352, 1353, 1354, 1355, 1356, 1357, 1358, 1359, 1360, 1361] (by decide +kernel) (by decide +kernel)
set_option maxRecDepth 20000 in
theorem gL_law_X12_sitter : GoodIn wsL_law (wsV RL 17 RX12 yX12_sitter wsX12_sitter) := goodIn_app (goodIn_of _ (by decide +kernel)) ggL_law_X12_sitter
set_option maxRecDepth 20000 in
theorem ggL_law_X11_sitters : GoodIn wsL_law wsX11_sitters := goodIn_r _ [214, 50, 215, 216, 217, 2, 218, 219, 220, 221, 222, 223, 224, 225, 52, 226, 227, 228, 229, 230, 231, 232, 16, 177, 178, 179, 180, 181, 182, 183, 184, 185, 186, 187, 15, 188, 189, 58, 190, 191, 192, 193, 64, 1297, 1298, 1299, 1300, 1301, 1302, 1303, 1304, 1305, 1306, 1418, 1419, 1420, 1421, 1362, 1363, 1364, 1365, 1366] (by decide +kernel) (by decide +kernel)
set_option maxRecDepth 20000 in
theorem gL_law_X11_sitters : GoodIn wsL_law (wsV RL 18 RX11 yX11_sitters wsX11_sitters) := goodIn_app (goodIn_of _ (by decide +kernel)) ggL_law_X11_sitters
set_option maxRecDepth 20000 in
theorem ggL_law_X12_sitters : GoodIn wsL_law wsX12_sitters := goodIn_r _ [236, 237, 165, 166, 199, 167, 198, 238, 239, 5, 240, 241, 204, 205, 206, 200, 201, 202, 203, 207, 208, 209, 210, 144, 1307, 1308, 1309, 1310, 1311, 1312, 1313, 1314, 1315, 1316, 1317, 1318, 1319, 1320, 1321, 1322, 1323, 1324, 1325, 1326, 1327, 1328, 1329, 1330, 1331, 1332, 1333, 1334, 1335, 1336, 1337, 1338, 1339, 1340, 1341, 1342, 1343, 1344, 1345, 1346, 1347, 1348, 1349, 1350, 1351, 1352, 1353, 1354, 1355, 1356, 1357, 1358, 1359, 1360, 1361] (by decide +kernel) (by decide +kernel)
set_option maxRecDepth 20000 in
theorem gL_law_X12_sitters : GoodIn wsL_law (wsV RL 22 RX12 yX12_sitters wsX12_sitters) := goodIn_app (goodIn_of _ (by decide +kernel)) ggL_law_X12_sitters
set_option maxRecDepth 20000 in
theorem ggL_law_X11_mend : GoodIn wsL_law wsX11_mend := goodIn_r _ [245, 16, 246, 44, 247, 248, 249, 15, 250, 189, 180, 181, 2, 182, 183, 184, 251, 252, 253, 43, 254, 255, 126, 127, 128, 256, 257, 258, 259, 260, 261, 262, 263, 264, 265, 266, 267, 268, 58, 190, 191, 192, 193, 64, 1297, 1298, 1299, 1300, 1301, 1302, 1303, 1304, 1305, 1306, 1362, 1363, 1364, 1365, 1366, 1407, 1408, 1409, 1410, 1411] (by decide +kernel) (by decide +kernel)
set_option maxRecDepth 20000 in
theorem gL_law_X11_mend : GoodIn wsL_law (wsV RL 23 RX11 yX11_mend wsX11_mend) := goodIn_app (goodIn_of _ (by decide +kernel)) ggL_law_X11_mend
set_option maxRecDepth 20000 in
theorem ggL_law_X12_mend : GoodIn wsL_law wsX12_mend := goodIn_r _ [272, 273, 274, 275, 5, 276, 277, 237, 278, 204, 205, 206, 279, 280, 281, 282, 199, 283, 284, 285, 286, 287, 288, 289, 290, 291, 292, 293, 144, 294, 145, 146, 147, 295, 1307, 1308, 1309, 1310, 1311, 1312, 1313, 1314, 1315, 1316, 1317, 1318, 1319, 1320, 1321, 1322, 1323, 1324, 1325, 1326, 1327, 1328, 1329, 1330, 1331, 1332, 1333, 1334, 1335, 1336, 1337, 1338, 1339, 1340, 1341, 1342, 1343, 1344, 1345, 1346, 1347, 1348, 1349, 1350, 1351, 1352, 1353, 1354, 1355, 1356, 1357, 1358, 1359, 1360, 1361] (by decide +kernel) (by decide +kernel)
set_option maxRecDepth 20000 in
theorem gL_law_X12_mend : GoodIn wsL_law (wsV RL 26 RX12 yX12_mend wsX12_mend) := goodIn_app (goodIn_of _ (by decide +kernel)) ggL_law_X12_mend
set_option maxRecDepth 20000 in
theorem ggL_law_X11_of : GoodIn wsL_law wsX11_of := goodIn_r _ [299, 16, 300, 246, 301, 302, 2, 303, 247, 248, 249, 15, 250, 189, 1297, 1298, 1299, 1300, 1301, 1302, 1303, 1304, 1305, 1306, 1362, 1363, 1364, 1365, 1366] (by decide +kernel) (by decide +kernel)
set_option maxRecDepth 20000 in
theorem gL_law_X11_of : GoodIn wsL_law (wsV RL 27 RX11 yX11_of wsX11_of) := goodIn_app (goodIn_of _ (by decide +kernel)) ggL_law_X11_of
set_option maxRecDepth 20000 in
theorem ggL_law_X12_of : GoodIn wsL_law wsX12_of := goodIn_r _ [307, 148, 144, 283, 284, 5, 285, 286, 204, 205, 206, 273, 274, 275, 276, 277, 237, 278, 279, 280, 281, 282, 199, 1307, 1308, 1309, 1310, 1311, 1312, 1313, 1314, 1315, 1316, 1317, 1318, 1319, 1320, 1321, 1322, 1323, 1324, 1325, 1326, 1327, 1328, 1329, 1330, 1331, 1332, 1333, 1334, 1335, 1336, 1337, 1338, 1339, 1340, 1341, 1342, 1343, 1344, 1345, 1346, 1347, 1348, 1349, 1350, 1351, 1352, 1353, 1354, 1355, 1356, 1357, 1358, 1359, 1360, 1361] (by decide +kernel) (by decide +kernel)
set_option maxRecDepth 20000 in
theorem gL_law_X12_of : GoodIn wsL_law (wsV RL 30 RX12 yX12_of wsX12_of) := goodIn_app (goodIn_of _ (by decide +kernel)) ggL_law_X12_of
set_option maxRecDepth 20000 in
theorem ggL_law_X11_feed : GoodIn wsL_law wsX11_feed := goodIn_r _ [311, 16, 312, 313, 314, 315, 62, 316, 317, 68, 1297, 1298, 1299, 1300, 1301, 1302, 1303, 1304, 1305, 1306, 1362, 1363, 1364, 1365, 1366, 1422, 1423, 1424, 1425, 1426, 1427, 1428, 1429, 1430, 1431] (by decide +kernel) (by decide +kernel)
set_option maxRecDepth 20000 in
theorem gL_law_X11_feed : GoodIn wsL_law (wsV RL 31 RX11 yX11_feed wsX11_feed) := goodIn_app (goodIn_of _ (by decide +kernel)) ggL_law_X11_feed
set_option maxRecDepth 20000 in
theorem ggL_law_X12_feed : GoodIn wsL_law wsX12_feed := goodIn_r _ [321, 322, 323, 149, 204, 205, 5, 206, 1307, 1308, 1309, 1310, 1311, 1312, 1313, 1314, 1315, 1316, 1317, 1318, 1319, 1320, 1321, 1322, 1323, 1324, 1325, 1326, 1327, 1328, 1329, 1330, 1331, 1332, 1333, 1334, 1335, 1336, 1337, 1338, 1339, 1340, 1341, 1342, 1343, 1344, 1345, 1346, 1347, 1348, 1349, 1350, 1351, 1352, 1353, 1354, 1355, 1356, 1357, 1358, 1359, 1360, 1361] (by decide +kernel) (by decide +kernel)
set_option maxRecDepth 20000 in
theorem gL_law_X12_feed : GoodIn wsL_law (wsV RL 35 RX12 yX12_feed wsX12_feed) := goodIn_app (goodIn_of _ (by decide +kernel)) ggL_law_X12_feed
set_option maxRecDepth 20000 in
theorem ggL_law_X11_law : GoodIn wsL_law wsX11_law := goodIn_r _ [327, 16, 312, 328, 329, 330, 62, 331, 332, 333, 334, 317, 69, 70, 335, 262, 263, 264, 336, 337, 338, 339, 340, 341, 342, 343, 344, 345, 346, 347, 348, 349, 350, 351, 352, 353, 354, 355, 356, 68, 357, 358, 359, 360, 361, 362, 363, 364, 365, 366, 367, 368, 369, 370, 371, 372, 373, 374, 375, 376, 377, 378, 379, 380, 381, 382, 383, 384, 385, 386, 387, 388, 389, 390, 391, 392, 393, 394, 395, 396, 397, 398, 15, 399, 190, 191, 192, 193, 64, 1297, 1298, 1299, 1300, 1301, 1302, 1303, 1304, 1305, 1306, 1362, 1363, 1364, 1365, 1366, 1422, 1423, 1424, 1425, 1426, 1427, 1428, 1429, 1430, 1431] (by decide +kernel) (by decide +kernel)
set_option maxRecDepth 20000 in
theorem gL_law_X11_law : GoodIn wsL_law (wsV RL 36 RX11 yX11_law wsX11_law) := goodIn_app (goodIn_of _ (by decide +kernel)) ggL_law_X11_law
set_option maxRecDepth 20000 in
theorem ggL_law_X12_law : GoodIn wsL_law wsX12_law := goodIn_r _ [403, 323, 404, 150, 149, 169, 405, 406, 407, 5, 408, 409, 410, 411, 412, 413, 414, 415, 416, 417, 418, 419, 420, 421, 422, 423, 424, 425, 426, 427, 428, 429, 430, 431, 432, 433, 434, 435, 436, 151, 437, 438, 439, 440, 441, 442, 443, 444, 445, 446, 447, 448, 449, 450, 451, 1307, 1308, 1309, 1310, 1311, 1312, 1313, 1314, 1315, 1316, 1317, 1318, 1319, 1320, 1321, 1322, 1323, 1324, 1325, 1326, 1327, 1328, 1329, 1330, 1331, 1332, 1333, 1334, 1335, 1336, 1337, 1338, 1339, 1340, 1341, 1342, 1343, 1344, 1345, 1346, 1347, 1348, 1349, 1350, 1351, 1352, 1353, 1354, 1355, 1356, 1357, 1358, 1359, 1360, 1361] (by decide +kernel) (by decide +kernel)
set_option maxRecDepth 20000 in
theorem gL_law_X12_law : GoodIn wsL_law (wsV RL 40 RX12 yX12_law wsX12_law) := goodIn_app (goodIn_of _ (by decide +kernel)) ggL_law_X12_law
set_option maxRecDepth 20000 in
theorem ggL_law_X11_loss : GoodIn wsL_law wsX11_loss := goodIn_r _ [455, 16, 456, 457, 458, 15, 459, 189, 301, 302, 2, 303, 177, 178, 179, 460, 461, 462, 463, 64, 63, 464, 465, 466, 467, 468, 469, 470, 471, 472, 473, 474, 475, 476, 477, 478, 58, 479, 480, 481, 62, 482, 336, 70, 71, 483, 484, 485, 486, 487, 488, 489, 490, 491, 492, 1297, 1298, 1299, 1300, 1301, 1302, 1303, 1304, 1305, 1306, 1362, 1363, 1364, 1365, 1366, 1422, 1423, 1424, 1425, 1426, 1427, 1428, 1429, 1430, 1431] (by decide +kernel) (by decide +kernel)
set_option maxRecDepth 20000 in
theorem gL_law_X11_loss : GoodIn wsL_law (wsV RL 41 RX11 yX11_loss wsX11_loss) := goodIn_app (goodIn_of _ (by decide +kernel)) ggL_law_X11_loss
set_option maxRecDepth 20000 in
theorem ggL_law_X12_loss : GoodIn wsL_law wsX12_loss := goodIn_r _ [496, 279, 280, 281, 5, 282, 199, 204, 205, 206, 283, 284, 285, 286, 200, 201, 202, 203, 497, 498, 499, 500, 169, 151, 501, 502, 503, 504, 144, 505, 506, 507, 405, 406, 407, 408, 409, 410, 411, 404, 412, 413, 414, 415, 416, 417, 418, 419, 420, 421, 422, 423, 424, 425, 426, 427, 149, 150, 428, 429, 430, 431, 432, 433, 434, 435, 436, 437, 438, 439, 440, 441, 442, 443, 444, 445, 446, 447, 448, 449, 450, 451, 1307, 1308, 1309, 1310, 1311, 1312, 1313, 1314, 1315, 1316, 1317, 1318, 1319, 1320, 1321, 1322, 1323, 1324, 1325, 1326, 1327, 1328, 1329, 1330, 1331, 1332, 1333, 1334, 1335, 1336, 1337, 1338, 1339, 1340, 1341, 1342, 1343, 1344, 1345, 1346, 1347, 1348, 1349, 1350, 1351, 1352, 1353, 1354, 1355, 1356, 1357, 1358, 1359, 1360, 1361] (by decide +kernel) (by decide +kernel)
set_option maxRecDepth 20000 in
theorem gL_law_X12_loss : GoodIn wsL_law (wsV RL 44 RX12 yX12_loss wsX12_loss) := goodIn_app (goodIn_of _ (by decide +kernel)) ggL_law_X12_loss
set_option maxRecDepth 20000 in
theorem ggL_law_X11_never : GoodIn wsL_law wsX11_never := goodIn_r _ [511, 28, 216, 217, 2, 218, 301, 302, 303, 177, 178, 179, 512, 513, 514, 515, 20, 50, 16, 516, 517, 518, 519, 520, 215, 521, 522, 523, 19, 524, 525, 526, 470, 467, 471, 527, 528, 76, 529, 75, 530, 531, 532, 27, 533, 101, 534, 100, 535, 461, 462, 15, 463, 64, 63, 464, 465, 466, 468, 469, 472, 473, 474, 475, 476, 477, 478, 58, 479, 480, 481, 62, 482, 336, 70, 71, 483, 484, 485, 486, 487, 488, 489, 490, 491, 492, 1297, 1298, 1299, 1300, 1301, 1302, 1303, 1304, 1305, 1306, 1362, 1363, 1364, 1365, 1366, 1418, 1419, 1420, 1421, 1367, 1368, 1369, 1370, 1382, 1383, 1384, 1385, 1386, 1387, 1388, 1389, 1390, 1391, 1392, 1393, 1394, 1422, 1423, 1424, 1425, 1426, 1427, 1428, 1429, 1430, 1431] (by decide +kernel) (by decide +kernel)
set_option maxRecDepth 20000 in
theorem gL_law_X11_never : GoodIn wsL_law (wsV RL 45 RX11 yX11_never wsX11_never) := goodIn_app (goodIn_of _ (by decide +kernel)) ggL_law_X11_never
set_option maxRecDepth 20000 in
theorem ggL_law_X12_never : GoodIn wsL_law wsX12_never := goodIn_r _ [539, 540, 541, 542, 5, 543, 165, 238, 239, 240, 241, 204, 205, 206, 283, 284, 285, 286, 200, 201, 202, 203, 544, 545, 546, 547, 548, 549, 550, 551, 166, 552, 553, 554, 555, 167, 279, 280, 281, 282, 199, 497, 498, 499, 500, 169, 151, 501, 502, 503, 504, 144, 505, 506, 507, 405, 406, 407, 408, 409, 410, 411, 404, 412, 413, 414, 415, 416, 417, 418, 419, 420, 421, 422, 423, 424, 425, 426, 427, 149, 150, 428, 429, 430, 431, 432, 433, 434, 435, 436, 437, 438, 439, 440, 441, 442, 443, 444, 445, 446, 447, 448, 449, 450, 451, 1307, 1308, 1309, 1310, 1311, 1312, 1313, 1314, 1315, 1316, 1317, 1318, 1319, 1320, 1321, 1322, 1323, 1324, 1325, 1326, 1327, 1328, 1329, 1330, 1331, 1332, 1333, 1334, 1335, 1336, 1337, 1338, 1339, 1340, 1341, 1342, 1343, 1344, 1345, 1346, 1347, 1348, 1349, 1350, 1351, 1352, 1353, 1354, 1355, 1356, 1357, 1358, 1359, 1360, 1361] (by decide +kernel) (by decide +kernel)
set_option maxRecDepth 20000 in
theorem gL_law_X12_never : GoodIn wsL_law (wsV RL 48 RX12 yX12_never wsX12_never) := goodIn_app (goodIn_of _ (by decide +kernel)) ggL_law_X12_never
set_option maxRecDepth 20000 in
theorem ggL_law_X11_best : GoodIn wsL_law wsX11_best := goodIn_r _ [559, 20, 560, 28, 216, 217, 2, 218, 301, 302, 303, 512, 513, 514, 515, 50, 16, 516, 517, 518, 519, 520, 215, 521, 522, 523, 19, 524, 525, 526, 470, 467, 471, 527, 528, 76, 529, 75, 561, 562, 563, 27, 564, 565, 531, 532, 533, 101, 534, 100, 535, 461, 462, 15, 463, 64, 63, 464, 465, 466, 468, 469, 472, 473, 474, 475, 476, 477, 478, 58, 479, 480, 481, 62, 482, 336, 70, 71, 483, 484, 485, 486, 487, 488, 489, 490, 491, 492, 566, 567, 568, 569, 570, 1297, 1298, 1299, 1300, 1301, 1302, 1303, 1304, 1305, 1306, 1367, 1368, 1369, 1370, 1362, 1363, 1364, 1365, 1366, 1418, 1419, 1420, 1421, 1382, 1383, 1384, 1385, 1386, 1387, 1388, 1389, 1390, 1391, 1392, 1393, 1394, 1422, 1423, 1424, 1425, 1426, 1427, 1428, 1429, 1430, 1431] (by decide +kernel) (by decide +kernel)
set_option maxRecDepth 20000 in
theorem gL_law_X11_best : GoodIn wsL_law (wsV RL 49 RX11 yX11_best wsX11_best) := goodIn_app (goodIn_of _ (by decide +kernel)) ggL_law_X11_best
set_option maxRecDepth 20000 in
theorem ggL_law_X12_best : GoodIn wsL_law wsX12_best := goodIn_r _ [574, 575, 540, 541, 542, 5, 543, 165, 238, 239, 240, 241, 204, 205, 206, 283, 284, 285, 286, 576, 577, 578, 579, 548, 549, 550, 551, 166, 552, 553, 554, 555, 167, 279, 280, 281, 282, 199, 544, 545, 546, 547, 497, 498, 499, 500, 169, 151, 501, 502, 503, 504, 144, 505, 506, 507, 405, 406, 407, 408, 409, 410, 411, 404, 412, 413, 414, 415, 416, 417, 418, 419, 420, 421, 422, 423, 424, 425, 426, 427, 149, 150, 428, 429, 430, 431, 432, 433, 434, 435, 436, 437, 438, 439, 440, 441, 442, 443, 444, 445, 446, 447, 448, 449, 450, 451, 580, 581, 582, 583, 1307, 1308, 1309, 1310, 1311, 1312, 1313, 1314, 1315, 1316, 1317, 1318, 1319, 1320, 1321, 1322, 1323, 1324, 1325, 1326, 1327, 1328, 1329, 1330, 1331, 1332, 1333, 1334, 1335, 1336, 1337, 1338, 1339, 1340, 1341, 1342, 1343, 1344, 1345, 1346, 1347, 1348, 1349, 1350, 1351, 1352, 1353, 1354, 1355, 1356, 1357, 1358, 1359, 1360, 1361] (by decide +kernel) (by decide +kernel)
set_option maxRecDepth 20000 in
theorem gL_law_X12_best : GoodIn wsL_law (wsV RL 52 RX12 yX12_best wsX12_best) := goodIn_app (goodIn_of _ (by decide +kernel)) ggL_law_X12_best
set_option maxRecDepth 20000 in
theorem ggL_law_X11_middle : GoodIn wsL_law wsX11_middle := goodIn_r _ [587, 20, 560, 28, 216, 217, 2, 218, 301, 302, 303, 512, 513, 514, 515, 50, 16, 516, 517, 518, 519, 520, 215, 521, 522, 523, 19, 524, 525, 526, 470, 467, 471, 527, 528, 76, 529, 75, 588, 589, 590, 27, 591, 92, 94, 592, 593, 594, 595, 101, 534, 100, 596, 476, 477, 15, 478, 58, 1297, 1298, 1299, 1300, 1301, 1302, 1303, 1304, 1305, 1306, 1367, 1368, 1369, 1370, 1362, 1363, 1364, 1365, 1366, 1418, 1419, 1420, 1421, 1382, 1383, 1384, 1385, 1386, 1387, 1388, 1389, 1390, 1391, 1392, 1393, 1394] (by decide +kernel) (by decide +kernel)
set_option maxRecDepth 20000 in
theorem gL_law_X11_middle : GoodIn wsL_law (wsV RL 53 RX11 yX11_middle wsX11_middle) := goodIn_app (goodIn_of _ (by decide +kernel)) ggL_law_X11_middle
set_option maxRecDepth 20000 in
theorem ggL_law_X12_middle : GoodIn wsL_law wsX12_middle := goodIn_r _ [600, 540, 541, 542, 5, 543, 165, 238, 239, 240, 241, 204, 205, 206, 283, 284, 285, 286, 601, 602, 603, 604, 548, 549, 550, 551, 166, 552, 553, 554, 555, 167, 279, 280, 281, 282, 199, 501, 502, 503, 504, 144, 605, 606, 607, 608, 609, 610, 611, 612, 1307, 1308, 1309, 1310, 1311, 1312, 1313, 1314, 1315, 1316, 1317, 1318, 1319, 1320, 1321, 1322, 1323, 1324, 1325, 1326, 1327, 1328, 1329, 1330, 1331, 1332, 1333, 1334, 1335, 1336, 1337, 1338, 1339, 1340, 1341, 1342, 1343, 1344, 1345, 1346, 1347, 1348, 1349, 1350, 1351, 1352, 1353, 1354, 1355, 1356, 1357, 1358, 1359, 1360, 1361] (by decide +kernel) (by decide +kernel)
set_option maxRecDepth 20000 in
theorem gL_law_X12_middle : GoodIn wsL_law (wsV RL 56 RX12 yX12_middle wsX12_middle) := goodIn_app (goodIn_of _ (by decide +kernel)) ggL_law_X12_middle
set_option maxRecDepth 20000 in
theorem ggL_law_X11_shifts : GoodIn wsL_law wsX11_shifts := goodIn_r _ [616, 20, 617, 32, 216, 217, 2, 218, 301, 302, 303, 512, 513, 514, 515, 50, 16, 516, 517, 518, 519, 520, 215, 521, 522, 523, 19, 524, 525, 526, 470, 467, 471, 527, 528, 76, 529, 75, 618, 619, 620, 31, 621, 107, 622, 106, 623, 624, 625, 626, 108, 627, 628, 629, 630, 631, 632, 633, 461, 462, 15, 463, 64, 63, 464, 465, 466, 468, 469, 472, 473, 474, 475, 476, 477, 478, 58, 479, 480, 481, 62, 482, 336, 70, 71, 483, 484, 485, 486, 487, 488, 489, 490, 491, 492, 634, 635, 636, 637, 638, 639, 640, 641, 642, 643, 644, 645, 646, 647, 648, 649, 650, 651, 1297, 1298, 1299, 1300, 1301, 1302, 1303, 1304, 1305, 1306, 1367, 1368, 1369, 1370, 1362, 1363, 1364, 1365, 1366, 1418, 1419, 1420, 1421, 1395, 1396, 1397, 1422, 1423, 1424, 1425, 1426, 1427, 1428, 1429, 1430, 1431] (by decide +kernel) (by decide +kernel)
set_option maxRecDepth 20000 in
theorem gL_law_X11_shifts : GoodIn wsL_law (wsV RL 57 RX11 yX11_shifts wsX11_shifts) := goodIn_app (goodIn_of _ (by decide +kernel)) ggL_law_X11_shifts
set_option maxRecDepth 20000 in
theorem ggL_law_X12_shifts : GoodIn wsL_law wsX12_shifts := goodIn_r _ [655, 153, 148, 540, 541, 542, 5, 543, 165, 238, 239, 240, 241, 204, 205, 206, 283, 284, 285, 286, 548, 549, 550, 551, 166, 656, 657, 658, 659, 152, 552, 553, 554, 555, 167, 279, 280, 281, 282, 199, 497, 498, 499, 500, 169, 151, 501, 502, 503, 504, 144, 505, 506, 507, 405, 406, 407, 408, 409, 410, 411, 404, 412, 413, 414, 415, 416, 417, 418, 419, 420, 421, 422, 423, 424, 425, 426, 427, 149, 150, 428, 429, 430, 431, 432, 433, 434, 435, 436, 437, 438, 439, 440, 441, 442, 443, 444, 445, 446, 447, 448, 449, 450, 451, 660, 661, 662, 663, 664, 665, 666, 667, 1307, 1308, 1309, 1310, 1311, 1312, 1313, 1314, 1315, 1316, 1317, 1318, 1319, 1320, 1321, 1322, 1323, 1324, 1325, 1326, 1327, 1328, 1329, 1330, 1331, 1332, 1333, 1334, 1335, 1336, 1337, 1338, 1339, 1340, 1341, 1342, 1343, 1344, 1345, 1346, 1347, 1348, 1349, 1350, 1351, 1352, 1353, 1354, 1355, 1356, 1357, 1358, 1359, 1360, 1361] (by decide +kernel) (by decide +kernel)
set_option maxRecDepth 20000 in
theorem gL_law_X12_shifts : GoodIn wsL_law (wsV RL 60 RX12 yX12_shifts wsX12_shifts) := goodIn_app (goodIn_of _ (by decide +kernel)) ggL_law_X12_shifts
set_option maxRecDepth 20000 in
theorem ggL_law_X11_once : GoodIn wsL_law wsX11_once := goodIn_r _ [671, 32, 216, 217, 2, 218, 301, 302, 303, 512, 513, 514, 515, 20, 50, 16, 516, 517, 518, 519, 520, 215, 521, 522, 523, 19, 524, 525, 526, 470, 467, 471, 527, 528, 76, 529, 75, 672, 673, 674, 31, 675, 107, 622, 106, 108, 627, 651, 466, 468, 632, 623, 624, 625, 626, 628, 629, 630, 631, 633, 461, 462, 15, 463, 64, 63, 464, 465, 469, 472, 473, 474, 475, 476, 477, 478, 58, 479, 480, 481, 62, 482, 336, 70, 71, 483, 484, 485, 486, 487, 488, 489, 490, 491, 492, 634, 635, 636, 637, 638, 639, 640, 641, 642, 643, 644, 645, 646, 1297, 1298, 1299, 1300, 1301, 1302, 1303, 1304, 1305, 1306, 1362, 1363, 1364, 1365, 1366, 1418, 1419, 1420, 1421, 1367, 1368, 1369, 1370, 1395, 1396, 1397, 1422, 1423, 1424, 1425, 1426, 1427, 1428, 1429, 1430, 1431] (by decide +kernel) (by decide +kernel)
set_option maxRecDepth 20000 in
theorem gL_law_X11_once : GoodIn wsL_law (wsV RL 61 RX11 yX11_once wsX11_once) := goodIn_app (goodIn_of _ (by decide +kernel)) ggL_law_X11_once
set_option maxRecDepth 20000 in
theorem ggL_law_X12_once : GoodIn wsL_law wsX12_once := goodIn_r _ [679, 286, 148, 144, 152, 540, 541, 542, 5, 543, 165, 238, 239, 240, 241, 204, 205, 206, 283, 284, 285, 548, 549, 550, 551, 166, 656, 657, 658, 659, 552, 553, 554, 555, 167, 279, 280, 281, 282, 199, 497, 498, 499, 500, 169, 151, 501, 502, 503, 504, 505, 506, 507, 405, 406, 407, 408, 409, 410, 411, 404, 412, 413, 414, 415, 416, 417, 418, 419, 420, 421, 422, 423, 424, 425, 426, 427, 149, 150, 428, 429, 430, 431, 432, 433, 434, 435, 436, 437, 438, 439, 440, 441, 442, 443, 444, 445, 446, 447, 448, 449, 450, 451, 664, 665, 666, 667, 1307, 1308, 1309, 1310, 1311, 1312, 1313, 1314, 1315, 1316, 1317, 1318, 1319, 1320, 1321, 1322, 1323, 1324, 1325, 1326, 1327, 1328, 1329, 1330, 1331, 1332, 1333, 1334, 1335, 1336, 1337, 1338, 1339, 1340, 1341, 1342, 1343, 1344, 1345, 1346, 1347, 1348, 1349, 1350, 1351, 1352, 1353, 1354, 1355, 1356, 1357, 1358, 1359, 1360, 1361] (by decide +kernel) (by decide +kernel)
set_option maxRecDepth 20000 in
theorem gL_law_X12_once : GoodIn wsL_law (wsV RL 64 RX12 yX12_once wsX12_once) := goodIn_app (goodIn_of _ (by decide +kernel)) ggL_law_X12_once
set_option maxRecDepth 20000 in
theorem ggL_law_X11_week : GoodIn wsL_law wsX11_week := goodIn_r _ [683, 24, 20, 617, 684, 685, 216, 217, 2, 218, 512, 513, 514, 515, 50, 16, 516, 517, 518, 519, 520, 215, 521, 522, 523, 19, 524, 525, 526, 470, 467, 471, 527, 528, 76, 529, 75, 686, 687, 688, 23, 689, 87, 690, 691, 692, 693, 694, 695, 696, 82, 83, 697, 698, 699, 700, 81, 86, 701, 702, 703, 704, 705, 85, 706, 707, 708, 709, 84, 710, 711, 473, 474, 712, 476, 477, 15, 478, 58, 713, 714, 715, 716, 465, 466, 468, 475, 717, 718, 719, 720, 721, 722, 639, 640, 641, 723, 724, 725, 726, 727, 461, 462, 463, 64, 63, 464, 469, 472, 479, 480, 481, 62, 482, 336, 70, 71, 483, 484, 485, 486, 487, 488, 489, 490, 491, 492, 728, 729, 730, 731, 732, 733, 734, 735, 736, 737, 635, 636, 637, 738, 739, 740, 741, 1297, 1298, 1299, 1300, 1301, 1302, 1303, 1304, 1305, 1306, 1367, 1368, 1369, 1370, 1371, 1372, 1373, 1374, 1375, 1376, 1377, 1378, 1379, 1380, 1381, 1362, 1363, 1364, 1365, 1366, 1418, 1419, 1420, 1421, 1422, 1423, 1424, 1425, 1426, 1427, 1428, 1429, 1430, 1431] (by decide +kernel) (by decide +kernel)
set_option maxRecDepth 20000 in
theorem gL_law_X11_week : GoodIn wsL_law (wsV RL 65 RX11 yX11_week wsX11_week) := goodIn_app (goodIn_of _ (by decide +kernel)) ggL_law_X11_week
set_option maxRecDepth 20000 in
theorem ggL_law_X12_week : GoodIn wsL_law wsX12_week := goodIn_r _ [745, 286, 746, 747, 540, 541, 542, 5, 543, 165, 238, 239, 240, 241, 204, 205, 206, 748, 749, 750, 751, 156, 155, 154, 752, 753, 754, 755, 756, 148, 548, 549, 550, 551, 166, 552, 553, 554, 555, 167, 279, 280, 281, 282, 199, 757, 758, 759, 760, 172, 761, 501, 502, 503, 504, 144, 505, 506, 507, 762, 763, 764, 765, 171, 766, 767, 768, 769, 770, 771, 772, 773, 774, 775, 776, 777, 778, 779, 497, 498, 499, 500, 169, 151, 405, 406, 407, 408, 409, 410, 411, 404, 412, 413, 414, 415, 416, 417, 418, 419, 420, 421, 422, 423, 424, 425, 426, 427, 149, 150, 428, 429, 430, 431, 432, 433, 434, 435, 436, 437, 438, 439, 440, 441, 442, 443, 444, 445, 446, 447, 448, 449, 450, 451, 664, 665, 666, 667, 1307, 1308, 1309, 1310, 1311, 1312, 1313, 1314, 1315, 1316, 1317, 1318, 1319, 1320, 1321, 1322, 1323, 1324, 1325, 1326, 1327, 1328, 1329, 1330, 1331, 1332, 1333, 1334, 1335, 1336, 1337, 1338, 1339, 1340, 1341, 1342, 1343, 1344, 1345, 1346, 1347, 1348, 1349, 1350, 1351, 1352, 1353, 1354, 1355, 1356, 1357, 1358, 1359, 1360, 1361] (by decide +kernel) (by decide +kernel)
set_option maxRecDepth 20000 in
theorem gL_law_X12_week : GoodIn wsL_law (wsV RL 68 RX12 yX12_week wsX12_week) := goodIn_app (goodIn_of _ (by decide +kernel)) ggL_law_X12_week
set_option maxRecDepth 20000 in
theorem ggL_law_X11_stands : GoodIn wsL_law wsX11_stands := goodIn_r _ [783, 20, 617, 24, 784, 216, 217, 2, 218, 301, 302, 303, 512, 513, 514, 515, 50, 16, 516, 517, 518, 519, 520, 215, 521, 522, 523, 19, 524, 525, 526, 470, 467, 471, 527, 528, 76, 529, 75, 686, 687, 688, 23, 689, 87, 690, 691, 692, 693, 694, 695, 696, 82, 83, 697, 698, 699, 700, 81, 86, 701, 702, 703, 704, 705, 85, 706, 707, 708, 709, 84, 710, 711, 473, 474, 712, 476, 477, 15, 478, 58, 713, 714, 715, 716, 465, 466, 468, 475, 717, 718, 719, 720, 721, 722, 639, 640, 641, 723, 724, 725, 726, 727, 461, 462, 463, 64, 63, 464, 469, 472, 479, 480, 481, 62, 482, 336, 70, 71, 483, 484, 485, 486, 487, 488, 489, 490, 491, 492, 728, 729, 730, 731, 732, 733, 734, 735, 736, 737, 635, 636, 637, 1297, 1298, 1299, 1300, 1301, 1302, 1303, 1304, 1305, 1306, 1367, 1368, 1369, 1370, 1371, 1372, 1373, 1374, 1375, 1376, 1377, 1378, 1379, 1380, 1381, 1362, 1363, 1364, 1365, 1366, 1418, 1419, 1420, 1421, 1422, 1423, 1424, 1425, 1426, 1427, 1428, 1429, 1430, 1431] (by decide +kernel) (by decide +kernel)
set_option maxRecDepth 20000 in
theorem gL_law_X11_stands : GoodIn wsL_law (wsV RL 69 RX11 yX11_stands wsX11_stands) := goodIn_app (goodIn_of _ (by decide +kernel)) ggL_law_X11_stands
set_option maxRecDepth 20000 in
theorem ggL_law_X12_stands : GoodIn wsL_law wsX12_stands := goodIn_r _ [788, 148, 156, 540, 541, 542, 5, 543, 165, 238, 239, 240, 241, 204, 205, 206, 283, 284, 285, 286, 548, 549, 550, 551, 166, 748, 749, 750, 751, 155, 154, 752, 747, 753, 754, 755, 756, 746, 552, 553, 554, 555, 167, 279, 280, 281, 282, 199, 757, 758, 759, 760, 172, 761, 501, 502, 503, 504, 144, 505, 506, 507, 762, 763, 764, 765, 171, 766, 767, 768, 769, 770, 771, 772, 773, 774, 775, 776, 777, 778, 779, 497, 498, 499, 500, 169, 151, 405, 406, 407, 408, 409, 410, 411, 404, 412, 413, 414, 415, 416, 417, 418, 419, 420, 421, 422, 423, 424, 425, 426, 427, 149, 150, 428, 429, 430, 431, 432, 433, 434, 435, 436, 437, 438, 439, 440, 441, 442, 443, 444, 445, 446, 447, 448, 449, 450, 451, 664, 665, 666, 667, 1307, 1308, 1309, 1310, 1311, 1312, 1313, 1314, 1315, 1316, 1317, 1318, 1319, 1320, 1321, 1322, 1323, 1324, 1325, 1326, 1327, 1328, 1329, 1330, 1331, 1332, 1333, 1334, 1335, 1336, 1337, 1338, 1339, 1340, 1341, 1342, 1343, 1344, 1345, 1346, 1347, 1348, 1349, 1350, 1351, 1352, 1353, 1354, 1355, 1356, 1357, 1358, 1359, 1360, 1361] (by decide +kernel) (by decide +kernel)
set_option maxRecDepth 20000 in
theorem gL_law_X12_stands : GoodIn wsL_law (wsV RL 72 RX12 yX12_stands wsX12_stands) := goodIn_app (goodIn_of _ (by decide +kernel)) ggL_law_X12_stands
set_option maxRecDepth 20000 in
theorem ggL_law_X11_pays : GoodIn wsL_law wsX11_pays := goodIn_r _ [792, 16, 24, 216, 217, 2, 218, 456, 457, 458, 15, 459, 189, 512, 513, 514, 515, 20, 50, 516, 517, 518, 519, 520, 215, 521, 522, 523, 19, 524, 525, 526, 470, 467, 471, 527, 528, 76, 529, 75, 793, 794, 795, 23, 796, 84, 710, 87, 797, 696, 798, 687, 688, 689, 690, 691, 692, 693, 694, 695, 82, 83, 697, 698, 699, 700, 81, 86, 701, 702, 703, 704, 705, 85, 706, 707, 708, 709, 711, 473, 474, 712, 476, 477, 478, 58, 713, 714, 715, 716, 465, 466, 468, 475, 717, 718, 719, 720, 721, 722, 639, 640, 641, 723, 724, 725, 726, 727, 461, 462, 463, 64, 63, 464, 469, 472, 479, 480, 481, 62, 482, 336, 70, 71, 483, 484, 485, 486, 487, 488, 489, 490, 491, 492, 728, 729, 730, 731, 732, 733, 734, 735, 736, 737, 635, 636, 637, 1297, 1298, 1299, 1300, 1301, 1302, 1303, 1304, 1305, 1306, 1362, 1363, 1364, 1365, 1366, 1418, 1419, 1420, 1421, 1367, 1368, 1369, 1370, 1371, 1372, 1373, 1374, 1375, 1376, 1377, 1378, 1379, 1380, 1381, 1422, 1423, 1424, 1425, 1426, 1427, 1428, 1429, 1430, 1431] (by decide +kernel) (by decide +kernel)
set_option maxRecDepth 20000 in
theorem gL_law_X11_pays : GoodIn wsL_law (wsV RL 73 RX11 yX11_pays wsX11_pays) := goodIn_app (goodIn_of _ (by decide +kernel)) ggL_law_X11_pays
set_option maxRecDepth 20000 in
theorem ggL_law_X12_pays : GoodIn wsL_law wsX12_pays := goodIn_r _ [802, 171, 766, 540, 541, 542, 5, 543, 165, 238, 239, 240, 241, 204, 205, 206, 279, 280, 281, 282, 199, 748, 749, 750, 751, 156, 155, 154, 752, 747, 753, 754, 755, 756, 148, 746, 548, 549, 550, 551, 166, 552, 553, 554, 555, 167, 757, 758, 759, 760, 172, 761, 501, 502, 503, 504, 144, 505, 506, 507, 762, 763, 764, 765, 767, 768, 769, 770, 771, 772, 773, 774, 775, 776, 777, 778, 779, 497, 498, 499, 500, 169, 151, 405, 406, 407, 408, 409, 410, 411, 404, 412, 413, 414, 415, 416, 417, 418, 419, 420, 421, 422, 423, 424, 425, 426, 427, 149, 150, 428, 429, 430, 431, 432, 433, 434, 435, 436, 437, 438, 439, 440, 441, 442, 443, 444, 445, 446, 447, 448, 449, 450, 451, 664, 665, 666, 667, 1307, 1308, 1309, 1310, 1311, 1312, 1313, 1314, 1315, 1316, 1317, 1318, 1319, 1320, 1321, 1322, 1323, 1324, 1325, 1326, 1327, 1328, 1329, 1330, 1331, 1332, 1333, 1334, 1335, 1336, 1337, 1338, 1339, 1340, 1341, 1342, 1343, 1344, 1345, 1346, 1347, 1348, 1349, 1350, 1351, 1352, 1353, 1354, 1355, 1356, 1357, 1358, 1359, 1360, 1361] (by decide +kernel) (by decide +kernel)
set_option maxRecDepth 20000 in
theorem gL_law_X12_pays : GoodIn wsL_law (wsV RL 76 RX12 yX12_pays wsX12_pays) := goodIn_app (goodIn_of _ (by decide +kernel)) ggL_law_X12_pays
set_option maxRecDepth 20000 in
theorem ggL_law_X11_memories : GoodIn wsL_law wsX11_memories := goodIn_r _ [806, 24, 216, 217, 2, 218, 512, 513, 514, 515, 20, 50, 16, 516, 517, 518, 519, 520, 215, 521, 522, 523, 19, 524, 525, 526, 470, 467, 471, 527, 528, 76, 529, 75, 807, 808, 809, 23, 810, 87, 797, 86, 811, 696, 798, 687, 688, 689, 690, 691, 692, 693, 694, 695, 82, 83, 697, 698, 699, 700, 81, 701, 702, 703, 704, 705, 85, 706, 707, 708, 709, 84, 710, 711, 473, 474, 712, 476, 477, 15, 478, 58, 713, 714, 715, 716, 465, 466, 468, 475, 717, 718, 719, 720, 721, 722, 639, 640, 641, 723, 724, 725, 726, 727, 461, 462, 463, 64, 63, 464, 469, 472, 479, 480, 481, 62, 482, 336, 70, 71, 483, 484, 485, 486, 487, 488, 489, 490, 491, 492, 728, 729, 730, 731, 732, 733, 734, 735, 736, 737, 635, 636, 637, 812, 813, 814, 815, 816, 817, 818, 819, 820, 821, 822, 1297, 1298, 1299, 1300, 1301, 1302, 1303, 1304, 1305, 1306, 1362, 1363, 1364, 1365, 1366, 1418, 1419, 1420, 1421, 1367, 1368, 1369, 1370, 1371, 1372, 1373, 1374, 1375, 1376, 1377, 1378, 1379, 1380, 1381, 1422, 1423, 1424, 1425, 1426, 1427, 1428, 1429, 1430, 1431] (by decide +kernel) (by decide +kernel)
set_option maxRecDepth 20000 in
theorem gL_law_X11_memories : GoodIn wsL_law (wsV RL 77 RX11 yX11_memories wsX11_memories) := goodIn_app (goodIn_of _ (by decide +kernel)) ggL_law_X11_memories
set_option maxRecDepth 20000 in
theorem ggL_law_X12_memories : GoodIn wsL_law wsX12_memories := goodIn_r _ [826, 575, 771, 199, 540, 541, 542, 5, 543, 165, 238, 239, 240, 241, 204, 205, 206, 827, 828, 829, 748, 749, 750, 751, 156, 155, 154, 752, 747, 753, 754, 755, 756, 148, 746, 548, 549, 550, 551, 166, 552, 553, 554, 555, 167, 279, 280, 281, 282, 757, 758, 759, 760, 172, 761, 501, 502, 503, 504, 144, 505, 506, 507, 762, 763, 764, 765, 171, 766, 767, 768, 769, 770, 772, 773, 774, 775, 776, 777, 778, 779, 497, 498, 499, 500, 169, 151, 405, 406, 407, 408, 409, 410, 411, 404, 412, 413, 414, 415, 416, 417, 418, 419, 420, 421, 422, 423, 424, 425, 426, 427, 149, 150, 428, 429, 430, 431, 432, 433, 434, 435, 436, 437, 438, 439, 440, 441, 442, 443, 444, 445, 446, 447, 448, 449, 450, 451, 664, 665, 666, 667, 1307, 1308, 1309, 1310, 1311, 1312, 1313, 1314, 1315, 1316, 1317, 1318, 1319, 1320, 1321, 1322, 1323, 1324, 1325, 1326, 1327, 1328, 1329, 1330, 1331, 1332, 1333, 1334, 1335, 1336, 1337, 1338, 1339, 1340, 1341, 1342, 1343, 1344, 1345, 1346, 1347, 1348, 1349, 1350, 1351, 1352, 1353, 1354, 1355, 1356, 1357, 1358, 1359, 1360, 1361] (by decide +kernel) (by decide +kernel)
set_option maxRecDepth 20000 in
theorem gL_law_X12_memories : GoodIn wsL_law (wsV RL 80 RX12 yX12_memories wsX12_memories) := goodIn_app (goodIn_of _ (by decide +kernel)) ggL_law_X12_memories
set_option maxRecDepth 20000 in
theorem ggL_law_X11_marked : GoodIn wsL_law wsX11_marked := goodIn_r _ [833, 24, 216, 217, 2, 218, 512, 513, 514, 515, 20, 50, 16, 516, 517, 518, 519, 520, 215, 521, 522, 523, 19, 524, 525, 526, 470, 467, 471, 527, 528, 76, 529, 75, 834, 835, 836, 23, 837, 87, 797, 86, 82, 798, 687, 688, 689, 690, 691, 692, 693, 694, 695, 696, 83, 697, 698, 699, 700, 81, 701, 702, 703, 704, 705, 85, 706, 707, 708, 709, 84, 710, 711, 473, 474, 712, 476, 477, 15, 478, 58, 713, 714, 715, 716, 465, 466, 468, 475, 717, 718, 719, 720, 721, 722, 639, 640, 641, 723, 724, 725, 726, 727, 461, 462, 463, 64, 63, 464, 469, 472, 479, 480, 481, 62, 482, 336, 70, 71, 483, 484, 485, 486, 487, 488, 489, 490, 491, 492, 728, 729, 730, 731, 732, 733, 734, 735, 736, 737, 635, 636, 637, 1297, 1298, 1299, 1300, 1301, 1302, 1303, 1304, 1305, 1306, 1362, 1363, 1364, 1365, 1366, 1418, 1419, 1420, 1421, 1367, 1368, 1369, 1370, 1371, 1372, 1373, 1374, 1375, 1376, 1377, 1378, 1379, 1380, 1381, 1422, 1423, 1424, 1425, 1426, 1427, 1428, 1429, 1430, 1431] (by decide +kernel) (by decide +kernel)
set_option maxRecDepth 20000 in
theorem gL_law_X11_marked : GoodIn wsL_law (wsV RL 81 RX11 yX11_marked wsX11_marked) := goodIn_app (goodIn_of _ (by decide +kernel)) ggL_law_X11_marked
set_option maxRecDepth 20000 in
theorem ggL_law_X12_marked : GoodIn wsL_law wsX12_marked := goodIn_r _ [841, 776, 540, 541, 542, 5, 543, 165, 238, 239, 240, 241, 204, 205, 206, 748, 749, 750, 751, 156, 155, 154, 752, 747, 753, 754, 755, 756, 148, 746, 548, 549, 550, 551, 166, 552, 553, 554, 555, 167, 279, 280, 281, 282, 199, 757, 758, 759, 760, 172, 761, 501, 502, 503, 504, 144, 505, 506, 507, 762, 763, 764, 765, 171, 766, 767, 768, 769, 770, 771, 772, 773, 774, 775, 777, 778, 779, 497, 498, 499, 500, 169, 151, 405, 406, 407, 408, 409, 410, 411, 404, 412, 413, 414, 415, 416, 417, 418, 419, 420, 421, 422, 423, 424, 425, 426, 427, 149, 150, 428, 429, 430, 431, 432, 433, 434, 435, 436, 437, 438, 439, 440, 441, 442, 443, 444, 445, 446, 447, 448, 449, 450, 451, 664, 665, 666, 667, 1307, 1308, 1309, 1310, 1311, 1312, 1313, 1314, 1315, 1316, 1317, 1318, 1319, 1320, 1321, 1322, 1323, 1324, 1325, 1326, 1327, 1328, 1329, 1330, 1331, 1332, 1333, 1334, 1335, 1336, 1337, 1338, 1339, 1340, 1341, 1342, 1343, 1344, 1345, 1346, 1347, 1348, 1349, 1350, 1351, 1352, 1353, 1354, 1355, 1356, 1357, 1358, 1359, 1360, 1361] (by decide +kernel) (by decide +kernel)
set_option maxRecDepth 20000 in
theorem gL_law_X12_marked : GoodIn wsL_law (wsV RL 84 RX12 yX12_marked wsX12_marked) := goodIn_app (goodIn_of _ (by decide +kernel)) ggL_law_X12_marked
set_option maxRecDepth 20000 in
theorem ggL_law_X11_chairs : GoodIn wsL_law wsX11_chairs := goodIn_r _ [845, 16, 28, 216, 217, 2, 218, 301, 302, 303, 456, 457, 458, 15, 459, 189, 512, 513, 514, 515, 20, 50, 516, 517, 518, 519, 520, 215, 521, 522, 523, 19, 524, 525, 526, 470, 467, 471, 527, 528, 76, 529, 75, 846, 847, 848, 27, 849, 850, 851, 852, 853, 854, 855, 856, 857, 101, 534, 95, 858, 859, 860, 861, 100, 535, 461, 462, 463, 64, 63, 464, 465, 466, 468, 469, 472, 473, 474, 475, 476, 477, 478, 58, 479, 480, 481, 62, 482, 336, 70, 71, 483, 484, 485, 486, 487, 488, 489, 490, 491, 492, 862, 863, 864, 865, 96, 97, 866, 867, 868, 869, 870, 98, 871, 872, 873, 874, 99, 875, 876, 877, 878, 1297, 1298, 1299, 1300, 1301, 1302, 1303, 1304, 1305, 1306, 1362, 1363, 1364, 1365, 1366, 1418, 1419, 1420, 1421, 1367, 1368, 1369, 1370, 1382, 1383, 1384, 1385, 1386, 1387, 1388, 1389, 1390, 1391, 1392, 1393, 1394, 1422, 1423, 1424, 1425, 1426, 1427, 1428, 1429, 1430, 1431] (by decide +kernel) (by decide +kernel)
set_option maxRecDepth 20000 in
theorem gL_law_X11_chairs : GoodIn wsL_law (wsV RL 85 RX11 yX11_chairs wsX11_chairs) := goodIn_app (goodIn_of _ (by decide +kernel)) ggL_law_X11_chairs
set_option maxRecDepth 20000 in
theorem ggL_law_X12_chairs : GoodIn wsL_law wsX12_chairs := goodIn_r _ [882, 575, 157, 883, 159, 540, 541, 542, 5, 543, 165, 238, 239, 240, 241, 204, 205, 206, 283, 284, 285, 286, 279, 280, 281, 282, 199, 548, 549, 550, 551, 166, 552, 553, 554, 555, 167, 497, 498, 499, 500, 169, 151, 501, 502, 503, 504, 144, 505, 506, 507, 405, 406, 407, 408, 409, 410, 411, 404, 412, 413, 414, 415, 416, 417, 418, 419, 420, 421, 422, 423, 424, 425, 426, 427, 149, 150, 428, 429, 430, 431, 432, 433, 434, 435, 436, 437, 438, 439, 440, 441, 442, 443, 444, 445, 446, 447, 448, 449, 450, 451, 884, 885, 886, 887, 888, 889, 890, 891, 158, 892, 893, 894, 895, 777, 778, 779, 1307, 1308, 1309, 1310, 1311, 1312, 1313, 1314, 1315, 1316, 1317, 1318, 1319, 1320, 1321, 1322, 1323, 1324, 1325, 1326, 1327, 1328, 1329, 1330, 1331, 1332, 1333, 1334, 1335, 1336, 1337, 1338, 1339, 1340, 1341, 1342, 1343, 1344, 1345, 1346, 1347, 1348, 1349, 1350, 1351, 1352, 1353, 1354, 1355, 1356, 1357, 1358, 1359, 1360, 1361] (by decide +kernel) (by decide +kernel)
set_option maxRecDepth 20000 in
theorem gL_law_X12_chairs : GoodIn wsL_law (wsV RL 88 RX12 yX12_chairs wsX12_chairs) := goodIn_app (goodIn_of _ (by decide +kernel)) ggL_law_X12_chairs
set_option maxRecDepth 20000 in
theorem ggL_law_X11_wilful : GoodIn wsL_law wsX11_wilful := goodIn_r _ [899, 16, 900, 24, 216, 217, 2, 218, 456, 457, 458, 15, 459, 189, 177, 178, 179, 512, 513, 514, 515, 20, 50, 516, 517, 518, 519, 520, 215, 521, 522, 523, 19, 524, 525, 526, 470, 467, 471, 527, 528, 76, 529, 75, 901, 902, 903, 23, 904, 87, 797, 696, 85, 732, 798, 687, 688, 689, 690, 691, 692, 693, 694, 695, 82, 83, 697, 698, 699, 700, 81, 86, 701, 702, 703, 704, 705, 706, 707, 708, 709, 84, 710, 711, 473, 474, 712, 476, 477, 478, 58, 713, 714, 715, 716, 465, 466, 468, 475, 717, 718, 719, 720, 721, 722, 639, 640, 641, 723, 724, 725, 726, 727, 461, 462, 463, 64, 63, 464, 469, 472, 479, 480, 481, 62, 482, 336, 70, 71, 483, 484, 485, 486, 487, 488, 489, 490, 491, 492, 728, 729, 730, 731, 733, 734, 735, 736, 737, 635, 636, 637, 1297, 1298, 1299, 1300, 1301, 1302, 1303, 1304, 1305, 1306, 1362, 1363, 1364, 1365, 1366, 1418, 1419, 1420, 1421, 1367, 1368, 1369, 1370, 1371, 1372, 1373, 1374, 1375, 1376, 1377, 1378, 1379, 1380, 1381, 1422, 1423, 1424, 1425, 1426, 1427, 1428, 1429, 1430, 1431] (by decide +kernel) (by decide +kernel)
set_option maxRecDepth 20000 in
theorem gL_law_X11_wilful : GoodIn wsL_law (wsV RL 89 RX11 yX11_wilful wsX11_wilful) := goodIn_app (goodIn_of _ (by decide +kernel)) ggL_law_X11_wilful
set_option maxRecDepth 20000 in
theorem ggL_law_X12_wilful : GoodIn wsL_law wsX12_wilful := goodIn_r _ [908, 909, 172, 761, 540, 541, 542, 5, 543, 165, 238, 239, 240, 241, 204, 205, 206, 279, 280, 281, 282, 199, 200, 201, 202, 203, 748, 749, 750, 751, 156, 155, 154, 752, 747, 753, 754, 755, 756, 148, 746, 548, 549, 550, 551, 166, 552, 553, 554, 555, 167, 757, 758, 759, 760, 501, 502, 503, 504, 144, 505, 506, 507, 762, 763, 764, 765, 171, 766, 767, 768, 769, 770, 771, 772, 773, 774, 775, 776, 777, 778, 779, 497, 498, 499, 500, 169, 151, 405, 406, 407, 408, 409, 410, 411, 404, 412, 413, 414, 415, 416, 417, 418, 419, 420, 421, 422, 423, 424, 425, 426, 427, 149, 150, 428, 429, 430, 431, 432, 433, 434, 435, 436, 437, 438, 439, 440, 441, 442, 443, 444, 445, 446, 447, 448, 449, 450, 451, 664, 665, 666, 667, 1307, 1308, 1309, 1310, 1311, 1312, 1313, 1314, 1315, 1316, 1317, 1318, 1319, 1320, 1321, 1322, 1323, 1324, 1325, 1326, 1327, 1328, 1329, 1330, 1331, 1332, 1333, 1334, 1335, 1336, 1337, 1338, 1339, 1340, 1341, 1342, 1343, 1344, 1345, 1346, 1347, 1348, 1349, 1350, 1351, 1352, 1353, 1354, 1355, 1356, 1357, 1358, 1359, 1360, 1361] (by decide +kernel) (by decide +kernel)
set_option maxRecDepth 20000 in
theorem gL_law_X12_wilful : GoodIn wsL_law (wsV RL 92 RX12 yX12_wilful wsX12_wilful) := goodIn_app (goodIn_of _ (by decide +kernel)) ggL_law_X12_wilful
set_option maxRecDepth 20000 in
theorem ggL_law_X11_who : GoodIn wsL_law wsX11_who := goodIn_r _ [913, 50, 914, 36, 216, 217, 2, 218, 301, 302, 303, 517, 518, 519, 520, 215, 915, 916, 917, 35, 918, 919, 920, 113, 921, 922, 923, 924, 925, 926, 927, 928, 929, 930, 931, 932, 933, 934, 935, 635, 636, 15, 637, 58, 472, 473, 467, 474, 936, 476, 477, 478, 937, 714, 715, 716, 465, 466, 468, 475, 938, 939, 940, 941, 942, 943, 944, 945, 946, 947, 948, 949, 950, 951, 470, 471, 952, 953, 954, 955, 1297, 1298, 1299, 1300, 1301, 1302, 1303, 1304, 1305, 1306, 1418, 1419, 1420, 1421, 1398, 1399, 1400, 1362, 1363, 1364, 1365, 1366] (by decide +kernel) (by decide +kernel)
set_option maxRecDepth 20000 in
theorem gL_law_X11_who : GoodIn wsL_law (wsV RL 93 RX11 yX11_who wsX11_who) := goodIn_app (goodIn_of _ (by decide +kernel)) ggL_law_X11_who
set_option maxRecDepth 20000 in
theorem ggL_law_X12_who : GoodIn wsL_law wsX12_who := goodIn_r _ [959, 960, 166, 160, 148, 161, 540, 541, 542, 5, 543, 165, 238, 239, 240, 241, 204, 205, 206, 283, 284, 285, 286, 961, 962, 963, 964, 199, 965, 966, 967, 968, 501, 502, 503, 504, 144, 505, 506, 507, 664, 665, 666, 667, 969, 970, 971, 972, 167, 973, 1307, 1308, 1309, 1310, 1311, 1312, 1313, 1314, 1315, 1316, 1317, 1318, 1319, 1320, 1321, 1322, 1323, 1324, 1325, 1326, 1327, 1328, 1329, 1330, 1331, 1332, 1333, 1334, 1335, 1336, 1337, 1338, 1339, 1340, 1341, 1342, 1343, 1344, 1345, 1346, 1347, 1348, 1349, 1350, 1351, 1352, 1353, 1354, 1355, 1356, 1357, 1358, 1359, 1360, 1361] (by decide +kernel) (by decide +kernel)
set_option maxRecDepth 20000 in
theorem gL_law_X12_who : GoodIn wsL_law (wsV RL 96 RX12 yX12_who wsX12_who) := goodIn_app (goodIn_of _ (by decide +kernel)) ggL_law_X12_who
set_option maxRecDepth 20000 in
theorem ggL_law_X11_judge : GoodIn wsL_law wsX11_judge := goodIn_r _ [977, 50, 216, 217, 2, 218, 301, 302, 303, 517, 518, 519, 520, 215, 512, 513, 514, 515, 20, 16, 516, 521, 522, 523, 19, 524, 525, 526, 470, 467, 471, 527, 528, 76, 529, 75, 978, 979, 980, 981, 617, 914, 982, 24, 983, 232, 984, 784, 985, 692, 693, 23, 694, 695, 696, 82, 83, 697, 698, 699, 700, 81, 86, 701, 986, 703, 704, 705, 85, 706, 707, 708, 709, 84, 710, 711, 473, 474, 712, 476, 477, 15, 478, 58, 713, 714, 715, 716, 465, 466, 468, 475, 717, 718, 719, 720, 721, 722, 639, 640, 641, 723, 724, 725, 726, 727, 461, 462, 463, 64, 63, 464, 469, 472, 479, 480, 481, 62, 482, 336, 70, 71, 483, 484, 485, 486, 487, 488, 489, 490, 491, 492, 728, 729, 730, 731, 732, 733, 734, 735, 736, 737, 635, 636, 637, 1297, 1298, 1299, 1300, 1301, 1302, 1303, 1304, 1305, 1306, 1418, 1419, 1420, 1421, 1362, 1363, 1364, 1365, 1366, 1367, 1368, 1369, 1370, 1371, 1372, 1373, 1374, 1375, 1376, 1377, 1378, 1379, 1380, 1381, 1422, 1423, 1424, 1425, 1426, 1427, 1428, 1429, 1430, 1431] (by decide +kernel) (by decide +kernel)
set_option maxRecDepth 20000 in
theorem gL_law_X11_judge : GoodIn wsL_law (wsV RL 97 RX11 yX11_judge wsX11_judge) := goodIn_app (goodIn_of _ (by decide +kernel)) ggL_law_X11_judge
set_option maxRecDepth 20000 in
theorem ggL_law_X12_judge : GoodIn wsL_law wsX12_judge := goodIn_r _ [990, 165, 166, 156, 238, 239, 5, 240, 241, 204, 205, 206, 283, 284, 285, 286, 540, 541, 542, 543, 748, 749, 750, 751, 155, 154, 752, 747, 753, 754, 755, 756, 148, 746, 548, 549, 550, 551, 552, 553, 554, 555, 167, 279, 280, 281, 282, 199, 757, 758, 759, 760, 172, 761, 501, 502, 503, 504, 144, 505, 506, 507, 762, 763, 764, 765, 171, 766, 767, 768, 769, 770, 771, 772, 773, 774, 775, 776, 777, 778, 779, 497, 498, 499, 500, 169, 151, 405, 406, 407, 408, 409, 410, 411, 404, 412, 413, 414, 415, 416, 417, 418, 419, 420, 421, 422, 423, 424, 425, 426, 427, 149, 150, 428, 429, 430, 431, 432, 433, 434, 435, 436, 437, 438, 439, 440, 441, 442, 443, 444, 445, 446, 447, 448, 449, 450, 451, 664, 665, 666, 667, 969, 970, 971, 972, 973, 1307, 1308, 1309, 1310, 1311, 1312, 1313, 1314, 1315, 1316, 1317, 1318, 1319, 1320, 1321, 1322, 1323, 1324, 1325, 1326, 1327, 1328, 1329, 1330, 1331, 1332, 1333, 1334, 1335, 1336, 1337, 1338, 1339, 1340, 1341, 1342, 1343, 1344, 1345, 1346, 1347, 1348, 1349, 1350, 1351, 1352, 1353, 1354, 1355, 1356, 1357, 1358, 1359, 1360, 1361] (by decide +kernel) (by decide +kernel)
set_option maxRecDepth 20000 in
theorem gL_law_X12_judge : GoodIn wsL_law (wsV RL 100 RX12 yX12_judge wsX12_judge) := goodIn_app (goodIn_of _ (by decide +kernel)) ggL_law_X12_judge
set_option maxRecDepth 20000 in
theorem ggL_law_X11_drawn : GoodIn wsL_law wsX11_drawn := goodIn_r _ [994, 24, 685, 216, 217, 2, 218, 512, 513, 514, 515, 20, 50, 16, 516, 517, 518, 519, 520, 215, 521, 522, 523, 19, 524, 525, 526, 470, 467, 471, 527, 528, 76, 529, 75, 995, 996, 997, 23, 998, 87, 797, 690, 999, 86, 691, 692, 693, 694, 695, 696, 82, 83, 697, 698, 699, 700, 81, 701, 712, 476, 477, 15, 478, 58, 702, 703, 704, 705, 85, 706, 707, 708, 709, 84, 710, 711, 473, 474, 713, 714, 715, 716, 465, 466, 468, 475, 717, 718, 719, 720, 721, 722, 639, 640, 641, 723, 724, 725, 726, 727, 461, 462, 463, 64, 63, 464, 469, 472, 479, 480, 481, 62, 482, 336, 70, 71, 483, 484, 485, 486, 487, 488, 489, 490, 491, 492, 728, 729, 730, 731, 732, 733, 734, 735, 736, 737, 635, 636, 637, 1297, 1298, 1299, 1300, 1301, 1302, 1303, 1304, 1305, 1306, 1371, 1372, 1373, 1374, 1375, 1376, 1377, 1378, 1379, 1380, 1381, 1362, 1363, 1364, 1365, 1366, 1418, 1419, 1420, 1421, 1367, 1368, 1369, 1370, 1422, 1423, 1424, 1425, 1426, 1427, 1428, 1429, 1430, 1431] (by decide +kernel) (by decide +kernel)
set_option maxRecDepth 20000 in
theorem gL_law_X11_drawn : GoodIn wsL_law (wsV RL 101 RX11 yX11_drawn wsX11_drawn) := goodIn_app (goodIn_of _ (by decide +kernel)) ggL_law_X11_drawn
set_option maxRecDepth 20000 in
theorem ggL_law_X12_drawn : GoodIn wsL_law wsX12_drawn := goodIn_r _ [1003, 1004, 1005, 154, 540, 541, 542, 5, 543, 165, 238, 239, 240, 241, 204, 205, 206, 548, 549, 550, 551, 166, 552, 553, 554, 555, 167, 279, 280, 281, 282, 199, 501, 502, 503, 504, 144, 748, 749, 750, 751, 156, 155, 752, 747, 753, 754, 755, 756, 148, 746, 757, 758, 759, 760, 172, 761, 505, 506, 507, 762, 763, 764, 765, 171, 766, 767, 768, 769, 770, 771, 772, 773, 774, 775, 776, 777, 778, 779, 497, 498, 499, 500, 169, 151, 405, 406, 407, 408, 409, 410, 411, 404, 412, 413, 414, 415, 416, 417, 418, 419, 420, 421, 422, 423, 424, 425, 426, 427, 149, 150, 428, 429, 430, 431, 432, 433, 434, 435, 436, 437, 438, 439, 440, 441, 442, 443, 444, 445, 446, 447, 448, 449, 450, 451, 664, 665, 666, 667, 1307, 1308, 1309, 1310, 1311, 1312, 1313, 1314, 1315, 1316, 1317, 1318, 1319, 1320, 1321, 1322, 1323, 1324, 1325, 1326, 1327, 1328, 1329, 1330, 1331, 1332, 1333, 1334, 1335, 1336, 1337, 1338, 1339, 1340, 1341, 1342, 1343, 1344, 1345, 1346, 1347, 1348, 1349, 1350, 1351, 1352, 1353, 1354, 1355, 1356, 1357, 1358, 1359, 1360, 1361] (by decide +kernel) (by decide +kernel)
set_option maxRecDepth 20000 in
theorem gL_law_X12_drawn : GoodIn wsL_law (wsV RL 105 RX12 yX12_drawn wsX12_drawn) := goodIn_app (goodIn_of _ (by decide +kernel)) ggL_law_X12_drawn
set_option maxRecDepth 20000 in
theorem ggL_law_X11_sit : GoodIn wsL_law wsX11_sit := goodIn_r _ [1009, 16, 40, 456, 457, 458, 15, 459, 189, 1010, 1011, 1012, 39, 1013, 122, 1014, 121, 1015, 1016, 262, 263, 264, 118, 1017, 1018, 1019, 692, 693, 23, 694, 695, 696, 82, 83, 697, 698, 699, 700, 81, 86, 701, 1020, 707, 708, 709, 84, 710, 711, 473, 467, 474, 712, 476, 477, 478, 58, 713, 714, 715, 716, 465, 466, 468, 475, 717, 718, 719, 720, 721, 722, 639, 640, 641, 723, 724, 725, 726, 727, 461, 462, 463, 64, 63, 464, 469, 470, 471, 472, 479, 480, 481, 62, 482, 336, 70, 71, 483, 484, 485, 486, 487, 488, 489, 490, 491, 492, 1021, 739, 740, 741, 1297, 1298, 1299, 1300, 1301, 1302, 1303, 1304, 1305, 1306, 1362, 1363, 1364, 1365, 1366, 1401, 1402, 1403, 1404, 1405, 1406, 1371, 1372, 1373, 1374, 1375, 1376, 1377, 1378, 1379, 1380, 1381, 1422, 1423, 1424, 1425, 1426, 1427, 1428, 1429, 1430, 1431] (by decide +kernel) (by decide +kernel)
set_option maxRecDepth 20000 in
theorem gL_law_X11_sit : GoodIn wsL_law (wsV RL 106 RX11 yX11_sit wsX11_sit) := goodIn_app (goodIn_of _ (by decide +kernel)) ggL_law_X11_sit
set_option maxRecDepth 20000 in
theorem ggL_law_X12_sit : GoodIn wsL_law wsX12_sit := goodIn_r _ [1025, 148, 155, 752, 747, 1026, 1027, 746, 1028, 1029, 170, 279, 280, 281, 5, 282, 199, 204, 205, 206, 753, 754, 755, 756, 757, 758, 759, 760, 172, 761, 501, 502, 503, 504, 144, 505, 506, 507, 762, 763, 764, 765, 171, 766, 767, 768, 769, 770, 771, 772, 773, 774, 775, 776, 777, 778, 779, 497, 498, 499, 500, 169, 151, 405, 406, 407, 408, 409, 410, 411, 404, 412, 413, 414, 415, 416, 417, 418, 419, 420, 421, 422, 423, 424, 425, 426, 427, 149, 150, 428, 429, 430, 431, 432, 433, 434, 435, 436, 437, 438, 439, 440, 441, 442, 443, 444, 445, 446, 447, 448, 449, 450, 451, 1307, 1308, 1309, 1310, 1311, 1312, 1313, 1314, 1315, 1316, 1317, 1318, 1319, 1320, 1321, 1322, 1323, 1324, 1325, 1326, 1327, 1328, 1329, 1330, 1331, 1332, 1333, 1334, 1335, 1336, 1337, 1338, 1339, 1340, 1341, 1342, 1343, 1344, 1345, 1346, 1347, 1348, 1349, 1350, 1351, 1352, 1353, 1354, 1355, 1356, 1357, 1358, 1359, 1360, 1361] (by decide +kernel) (by decide +kernel)
set_option maxRecDepth 20000 in
theorem gL_law_X12_sit : GoodIn wsL_law (wsV RL 109 RX12 yX12_sit wsX12_sit) := goodIn_app (goodIn_of _ (by decide +kernel)) ggL_law_X12_sit
set_option maxRecDepth 20000 in
theorem ggL_law_X11_set : GoodIn wsL_law wsX11_set := goodIn_r _ [1033, 40, 301, 302, 2, 303, 177, 178, 179, 1034, 1035, 1036, 39, 1037, 121, 1015, 1038, 466, 467, 468, 118, 1297, 1298, 1299, 1300, 1301, 1302, 1303, 1304, 1305, 1306, 1401, 1402, 1403, 1404, 1405, 1406, 1362, 1363, 1364, 1365, 1366] (by decide +kernel) (by decide +kernel)
set_option maxRecDepth 20000 in
theorem gL_law_X11_set : GoodIn wsL_law (wsV RL 110 RX11 yX11_set wsX11_set) := goodIn_app (goodIn_of _ (by decide +kernel)) ggL_law_X11_set
set_option maxRecDepth 20000 in
theorem ggL_law_X12_set : GoodIn wsL_law wsX12_set := goodIn_r _ [1042, 148, 1027, 283, 284, 5, 285, 286, 204, 205, 206, 200, 201, 202, 203, 505, 506, 507, 1307, 1308, 1309, 1310, 1311, 1312, 1313, 1314, 1315, 1316, 1317, 1318, 1319, 1320, 1321, 1322, 1323, 1324, 1325, 1326, 1327, 1328, 1329, 1330, 1331, 1332, 1333, 1334, 1335, 1336, 1337, 1338, 1339, 1340, 1341, 1342, 1343, 1344, 1345, 1346, 1347, 1348, 1349, 1350, 1351, 1352, 1353, 1354, 1355, 1356, 1357, 1358, 1359, 1360, 1361] (by decide +kernel) (by decide +kernel)
set_option maxRecDepth 20000 in
theorem gL_law_X12_set : GoodIn wsL_law (wsV RL 113 RX12 yX12_set wsX12_set) := goodIn_app (goodIn_of _ (by decide +kernel)) ggL_law_X12_set
set_option maxRecDepth 20000 in
theorem ggL_law_X11_night : GoodIn wsL_law wsX11_night := goodIn_r _ [1046, 40, 1047, 1048, 1049, 39, 1050, 121, 1015, 1051, 635, 636, 15, 637, 58, 472, 473, 467, 474, 1297, 1298, 1299, 1300, 1301, 1302, 1303, 1304, 1305, 1306, 1401, 1402, 1403, 1404, 1405, 1406, 1362, 1363, 1364, 1365, 1366] (by decide +kernel) (by decide +kernel)
set_option maxRecDepth 20000 in
theorem gL_law_X11_night : GoodIn wsL_law (wsV RL 114 RX11 yX11_night wsX11_night) := goodIn_app (goodIn_of _ (by decide +kernel)) ggL_law_X11_night
set_option maxRecDepth 20000 in
theorem ggL_law_X12_night : GoodIn wsL_law wsX12_night := goodIn_r _ [1055, 148, 664, 665, 666, 5, 667, 144, 1307, 1308, 1309, 1310, 1311, 1312, 1313, 1314, 1315, 1316, 1317, 1318, 1319, 1320, 1321, 1322, 1323, 1324, 1325, 1326, 1327, 1328, 1329, 1330, 1331, 1332, 1333, 1334, 1335, 1336, 1337, 1338, 1339, 1340, 1341, 1342, 1343, 1344, 1345, 1346, 1347, 1348, 1349, 1350, 1351, 1352, 1353, 1354, 1355, 1356, 1357, 1358, 1359, 1360, 1361] (by decide +kernel) (by decide +kernel)
set_option maxRecDepth 20000 in
theorem gL_law_X12_night : GoodIn wsL_law (wsV RL 117 RX12 yX12_night wsX12_night) := goodIn_app (goodIn_of _ (by decide +kernel)) ggL_law_X12_night
set_option maxRecDepth 20000 in
theorem ggL_law_X11_led : GoodIn wsL_law wsX11_led := goodIn_r _ [1059, 40, 1060, 1297, 1298, 1299, 1300, 1301, 1302, 1303, 1304, 1305, 1306, 1401, 1402, 1403, 1404, 1405, 1406] (by decide +kernel) (by decide +kernel)
set_option maxRecDepth 20000 in
theorem gL_law_X11_led : GoodIn wsL_law (wsV RL 118 RX11 yX11_led wsX11_led) := goodIn_app (goodIn_of _ (by decide +kernel)) ggL_law_X11_led
set_option maxRecDepth 20000 in
theorem ggL_law_X12_led : GoodIn wsL_law wsX12_led := goodIn_r _ [1064, 1026, 1027, 1028, 1029, 170, 1307, 1308, 1309, 1310, 1311, 1312, 1313, 1314, 1315, 1316, 1317, 1318, 1319, 1320, 1321, 1322, 1323, 1324, 1325, 1326, 1327, 1328, 1329, 1330, 1331, 1332, 1333, 1334, 1335, 1336, 1337, 1338, 1339, 1340, 1341, 1342, 1343, 1344, 1345, 1346, 1347, 1348, 1349, 1350, 1351, 1352, 1353, 1354, 1355, 1356, 1357, 1358, 1359, 1360, 1361] (by decide +kernel) (by decide +kernel)
set_option maxRecDepth 20000 in
theorem gL_law_X12_led : GoodIn wsL_law (wsV RL 121 RX12 yX12_led wsX12_led) := goodIn_app (goodIn_of _ (by decide +kernel)) ggL_law_X12_led
set_option maxRecDepth 20000 in
theorem ggL_law_X11_image : GoodIn wsL_law wsX11_image := goodIn_r _ [1068, 40, 1069, 1070, 1071, 39, 1072, 118, 119, 1016, 262, 263, 264, 121, 1015, 120, 1073, 1297, 1298, 1299, 1300, 1301, 1302, 1303, 1304, 1305, 1306, 1401, 1402, 1403, 1404, 1405, 1406, 1362, 1363, 1364, 1365, 1366] (by decide +kernel) (by decide +kernel)
set_option maxRecDepth 20000 in
theorem gL_law_X11_image : GoodIn wsL_law (wsV RL 122 RX11 yX11_image wsX11_image) := goodIn_app (goodIn_of _ (by decide +kernel)) ggL_law_X11_image
set_option maxRecDepth 20000 in
theorem ggL_law_X12_image : GoodIn wsL_law wsX12_image := goodIn_r _ [1077, 1078, 162, 148, 1026, 1079, 1062, 1063, 5, 1064, 1027, 1028, 1029, 170, 1307, 1308, 1309, 1310, 1311, 1312, 1313, 1314, 1315, 1316, 1317, 1318, 1319, 1320, 1321, 1322, 1323, 1324, 1325, 1326, 1327, 1328, 1329, 1330, 1331, 1332, 1333, 1334, 1335, 1336, 1337, 1338, 1339, 1340, 1341, 1342, 1343, 1344, 1345, 1346, 1347, 1348, 1349, 1350, 1351, 1352, 1353, 1354, 1355, 1356, 1357, 1358, 1359, 1360, 1361] (by decide +kernel) (by decide +kernel)
set_option maxRecDepth 20000 in
theorem gL_law_X12_image : GoodIn wsL_law (wsV RL 125 RX12 yX12_image wsX12_image) := goodIn_app (goodIn_of _ (by decide +kernel)) ggL_law_X12_image
set_option maxRecDepth 20000 in
theorem ggL_law_X11_back : GoodIn wsL_law wsX11_back := goodIn_r _ [1083, 40, 1084, 1085, 1086, 39, 1087, 1073, 119, 118, 1016, 262, 263, 264, 120, 121, 1015, 1297, 1298, 1299, 1300, 1301, 1302, 1303, 1304, 1305, 1306, 1401, 1402, 1403, 1404, 1405, 1406, 1362, 1363, 1364, 1365, 1366] (by decide +kernel) (by decide +kernel)
set_option maxRecDepth 20000 in
theorem gL_law_X11_back : GoodIn wsL_law (wsV RL 126 RX11 yX11_back wsX11_back) := goodIn_app (goodIn_of _ (by decide +kernel)) ggL_law_X11_back
set_option maxRecDepth 20000 in
theorem ggL_law_X12_back : GoodIn wsL_law wsX12_back := goodIn_r _ [1091, 1078, 148, 162, 1026, 1027, 1028, 1029, 170, 1307, 1308, 1309, 1310, 1311, 1312, 1313, 1314, 1315, 1316, 1317, 1318, 1319, 1320, 1321, 1322, 1323, 1324, 1325, 1326, 1327, 1328, 1329, 1330, 1331, 1332, 1333, 1334, 1335, 1336, 1337, 1338, 1339, 1340, 1341, 1342, 1343, 1344, 1345, 1346, 1347, 1348, 1349, 1350, 1351, 1352, 1353, 1354, 1355, 1356, 1357, 1358, 1359, 1360, 1361] (by decide +kernel) (by decide +kernel)
set_option maxRecDepth 20000 in
theorem gL_law_X12_back : GoodIn wsL_law (wsV RL 129 RX12 yX12_back wsX12_back) := goodIn_app (goodIn_of _ (by decide +kernel)) ggL_law_X12_back
set_option maxRecDepth 20000 in
theorem ggL_law_X11_undo : GoodIn wsL_law wsX11_undo := goodIn_r _ [1095, 44, 1096, 16, 1097, 1098, 265, 266, 267, 15, 268, 58, 190, 191, 192, 193, 64, 1297, 1298, 1299, 1300, 1301, 1302, 1303, 1304, 1305, 1306, 1407, 1408, 1409, 1410, 1411, 1362, 1363, 1364, 1365, 1366] (by decide +kernel) (by decide +kernel)
set_option maxRecDepth 20000 in
theorem gL_law_X11_undo : GoodIn wsL_law (wsV RL 130 RX11 yX11_undo wsX11_undo) := goodIn_app (goodIn_of _ (by decide +kernel)) ggL_law_X11_undo
set_option maxRecDepth 20000 in
theorem ggL_law_X12_undo : GoodIn wsL_law wsX12_undo := goodIn_r _ [1102, 294, 144, 145, 146, 1307, 1308, 1309, 1310, 1311, 1312, 1313, 1314, 1315, 1316, 1317, 1318, 1319, 1320, 1321, 1322, 1323, 1324, 1325, 1326, 1327, 1328, 1329, 1330, 1331, 1332, 1333, 1334, 1335, 1336, 1337, 1338, 1339, 1340, 1341, 1342, 1343, 1344, 1345, 1346, 1347, 1348, 1349, 1350, 1351, 1352, 1353, 1354, 1355, 1356, 1357, 1358, 1359, 1360, 1361] (by decide +kernel) (by decide +kernel)
set_option maxRecDepth 20000 in
theorem gL_law_X12_undo : GoodIn wsL_law (wsV RL 133 RX12 yX12_undo wsX12_undo) := goodIn_app (goodIn_of _ (by decide +kernel)) ggL_law_X12_undo
set_option maxRecDepth 20000 in
theorem ggL_law_X11_redo : GoodIn wsL_law wsX11_redo := goodIn_r _ [1106, 44, 1096, 1107, 16, 1097, 1108, 265, 266, 267, 15, 268, 58, 190, 191, 192, 193, 64, 1297, 1298, 1299, 1300, 1301, 1302, 1303, 1304, 1305, 1306, 1407, 1408, 1409, 1410, 1411, 1362, 1363, 1364, 1365, 1366] (by decide +kernel) (by decide +kernel)
set_option maxRecDepth 20000 in
theorem gL_law_X11_redo : GoodIn wsL_law (wsV RL 134 RX11 yX11_redo wsX11_redo) := goodIn_app (goodIn_of _ (by decide +kernel)) ggL_law_X11_redo
set_option maxRecDepth 20000 in
theorem ggL_law_X12_redo : GoodIn wsL_law wsX12_redo := goodIn_r _ [1112, 294, 295, 144, 145, 147, 1307, 1308, 1309, 1310, 1311, 1312, 1313, 1314, 1315, 1316, 1317, 1318, 1319, 1320, 1321, 1322, 1323, 1324, 1325, 1326, 1327, 1328, 1329, 1330, 1331, 1332, 1333, 1334, 1335, 1336, 1337, 1338, 1339, 1340, 1341, 1342, 1343, 1344, 1345, 1346, 1347, 1348, 1349, 1350, 1351, 1352, 1353, 1354, 1355, 1356, 1357, 1358, 1359, 1360, 1361] (by decide +kernel) (by decide +kernel)
set_option maxRecDepth 20000 in
theorem gL_law_X12_redo : GoodIn wsL_law (wsV RL 137 RX12 yX12_redo wsX12_redo) := goodIn_app (goodIn_of _ (by decide +kernel)) ggL_law_X12_redo
set_option maxRecDepth 20000 in
theorem ggL_law_X11_body : GoodIn wsL_law wsX11_body := goodIn_r _ [1116, 48, 1117, 1118, 2, 1119, 1120, 1121, 1122, 47, 1123, 1124, 132, 1297, 1298, 1299, 1300, 1301, 1302, 1303, 1304, 1305, 1306, 1412, 1413, 1414, 1415, 1416, 1417] (by decide +kernel) (by decide +kernel)
set_option maxRecDepth 20000 in
theorem gL_law_X11_body : GoodIn wsL_law (wsV RL 138 RX11 yX11_body wsX11_body) := goodIn_app (goodIn_of _ (by decide +kernel)) ggL_law_X11_body
set_option maxRecDepth 20000 in
theorem ggL_law_X12_body : GoodIn wsL_law wsX12_body := goodIn_r _ [1128, 277, 1129, 163, 204, 205, 5, 206, 1307, 1308, 1309, 1310, 1311, 1312, 1313, 1314, 1315, 1316, 1317, 1318, 1319, 1320, 1321, 1322, 1323, 1324, 1325, 1326, 1327, 1328, 1329, 1330, 1331, 1332, 1333, 1334, 1335, 1336, 1337, 1338, 1339, 1340, 1341, 1342, 1343, 1344, 1345, 1346, 1347, 1348, 1349, 1350, 1351, 1352, 1353, 1354, 1355, 1356, 1357, 1358, 1359, 1360, 1361] (by decide +kernel) (by decide +kernel)
set_option maxRecDepth 20000 in
theorem gL_law_X12_body : GoodIn wsL_law (wsV RL 141 RX12 yX12_body wsX12_body) := goodIn_app (goodIn_of _ (by decide +kernel)) ggL_law_X12_body
set_option maxRecDepth 20000 in
theorem ggL_law_X11_act : GoodIn wsL_law wsX11_act := goodIn_r _ [1133, 48, 1134, 1135, 1136, 47, 1137, 1138, 1124, 132, 1139, 1140, 1141, 1142, 1143, 1144, 1145, 133, 1146, 1147, 1148, 1149, 1150, 1151, 1152, 1153, 1297, 1298, 1299, 1300, 1301, 1302, 1303, 1304, 1305, 1306, 1412, 1413, 1414, 1415, 1416, 1417] (by decide +kernel) (by decide +kernel)
set_option maxRecDepth 20000 in
theorem gL_law_X11_act : GoodIn wsL_law (wsV RL 142 RX11 yX11_act wsX11_act) := goodIn_app (goodIn_of _ (by decide +kernel)) ggL_law_X11_act
set_option maxRecDepth 20000 in
theorem ggL_law_X12_act : GoodIn wsL_law wsX12_act := goodIn_r _ [1157, 1158, 163, 1159, 1160, 1161, 1162, 1163, 5, 1164, 1129, 204, 205, 206, 1165, 1166, 1167, 1168, 1169, 1170, 1171, 1172, 164, 1173, 1174, 1175, 1176, 1177, 1178, 1179, 1180, 1181, 1182, 1183, 1184, 1307, 1308, 1309, 1310, 1311, 1312, 1313, 1314, 1315, 1316, 1317, 1318, 1319, 1320, 1321, 1322, 1323, 1324, 1325, 1326, 1327, 1328, 1329, 1330, 1331, 1332, 1333, 1334, 1335, 1336, 1337, 1338, 1339, 1340, 1341, 1342, 1343, 1344, 1345, 1346, 1347, 1348, 1349, 1350, 1351, 1352, 1353, 1354, 1355, 1356, 1357, 1358, 1359, 1360, 1361] (by decide +kernel) (by decide +kernel)
set_option maxRecDepth 20000 in
theorem gL_law_X12_act : GoodIn wsL_law (wsV RL 145 RX12 yX12_act wsX12_act) := goodIn_app (goodIn_of _ (by decide +kernel)) ggL_law_X12_act
set_option maxRecDepth 20000 in
theorem ggL_law_X11_trace : GoodIn wsL_law wsX11_trace := goodIn_r _ [1188, 48, 1189, 982, 470, 467, 471, 1190, 1297, 1298, 1299, 1300, 1301, 1302, 1303, 1304, 1305, 1306, 1412, 1413, 1414, 1415, 1416, 1417] (by decide +kernel) (by decide +kernel)
set_option maxRecDepth 20000 in
theorem gL_law_X11_trace : GoodIn wsL_law (wsV RL 146 RX11 yX11_trace wsX11_trace) := goodIn_app (goodIn_of _ (by decide +kernel)) ggL_law_X11_trace
set_option maxRecDepth 20000 in
theorem ggL_law_X12_trace : GoodIn wsL_law wsX12_trace := goodIn_r _ [1194, 1158, 164, 1307, 1308, 1309, 1310, 1311, 1312, 1313, 1314, 1315, 1316, 1317, 1318, 1319, 1320, 1321, 1322, 1323, 1324, 1325, 1326, 1327, 1328, 1329, 1330, 1331, 1332, 1333, 1334, 1335, 1336, 1337, 1338, 1339, 1340, 1341, 1342, 1343, 1344, 1345, 1346, 1347, 1348, 1349, 1350, 1351, 1352, 1353, 1354, 1355, 1356, 1357, 1358, 1359, 1360, 1361] (by decide +kernel) (by decide +kernel)
set_option maxRecDepth 20000 in
theorem gL_law_X12_trace : GoodIn wsL_law (wsV RL 149 RX12 yX12_trace wsX12_trace) := goodIn_app (goodIn_of _ (by decide +kernel)) ggL_law_X12_trace
set_option maxRecDepth 20000 in
theorem ggL_law_X11_keep : GoodIn wsL_law wsX11_keep := goodIn_r _ [1198, 48, 1199, 50, 216, 217, 2, 218, 1200, 1201, 1202, 52, 1203, 139, 1204, 1297, 1298, 1299, 1300, 1301, 1302, 1303, 1304, 1305, 1306, 1412, 1413, 1414, 1415, 1416, 1417, 1418, 1419, 1420, 1421] (by decide +kernel) (by decide +kernel)
set_option maxRecDepth 20000 in
theorem gL_law_X11_keep : GoodIn wsL_law (wsV RL 150 RX11 yX11_keep wsX11_keep) := goodIn_app (goodIn_of _ (by decide +kernel)) ggL_law_X11_keep
set_option maxRecDepth 20000 in
theorem ggL_law_X12_keep : GoodIn wsL_law wsX12_keep := goodIn_r _ [1208, 165, 166, 238, 239, 5, 240, 241, 204, 205, 206, 1161, 1162, 1163, 1164, 1129, 1307, 1308, 1309, 1310, 1311, 1312, 1313, 1314, 1315, 1316, 1317, 1318, 1319, 1320, 1321, 1322, 1323, 1324, 1325, 1326, 1327, 1328, 1329, 1330, 1331, 1332, 1333, 1334, 1335, 1336, 1337, 1338, 1339, 1340, 1341, 1342, 1343, 1344, 1345, 1346, 1347, 1348, 1349, 1350, 1351, 1352, 1353, 1354, 1355, 1356, 1357, 1358, 1359, 1360, 1361] (by decide +kernel) (by decide +kernel)
set_option maxRecDepth 20000 in
theorem gL_law_X12_keep : GoodIn wsL_law (wsV RL 153 RX12 yX12_keep wsX12_keep) := goodIn_app (goodIn_of _ (by decide +kernel)) ggL_law_X12_keep
set_option maxRecDepth 20000 in
theorem ggL_law_X11_row : GoodIn wsL_law wsX11_row := goodIn_r _ [1212, 50, 216, 217, 2, 218, 1213, 1214, 1215, 52, 1216, 139, 227, 138, 1297, 1298, 1299, 1300, 1301, 1302, 1303, 1304, 1305, 1306, 1418, 1419, 1420, 1421] (by decide +kernel) (by decide +kernel)
set_option maxRecDepth 20000 in
theorem gL_law_X11_row : GoodIn wsL_law (wsV RL 154 RX11 yX11_row wsX11_row) := goodIn_app (goodIn_of _ (by decide +kernel)) ggL_law_X11_row
set_option maxRecDepth 20000 in
theorem ggL_law_X12_row : GoodIn wsL_law wsX12_row := goodIn_r _ [1220, 1221, 165, 166, 167, 238, 239, 5, 240, 241, 204, 205, 206, 1307, 1308, 1309, 1310, 1311, 1312, 1313, 1314, 1315, 1316, 1317, 1318, 1319, 1320, 1321, 1322, 1323, 1324, 1325, 1326, 1327, 1328, 1329, 1330, 1331, 1332, 1333, 1334, 1335, 1336, 1337, 1338, 1339, 1340, 1341, 1342, 1343, 1344, 1345, 1346, 1347, 1348, 1349, 1350, 1351, 1352, 1353, 1354, 1355, 1356, 1357, 1358, 1359, 1360, 1361] (by decide +kernel) (by decide +kernel)
set_option maxRecDepth 20000 in
theorem gL_law_X12_row : GoodIn wsL_law (wsV RL 157 RX12 yX12_row wsX12_row) := goodIn_app (goodIn_of _ (by decide +kernel)) ggL_law_X12_row
set_option maxRecDepth 20000 in
theorem ggL_law_X11_put : GoodIn wsL_law wsX11_put := goodIn_r _ [1225, 50, 232, 1226, 1227, 1228, 2, 1229, 215, 216, 217, 218, 1230, 1231, 1232, 52, 1233, 139, 223, 224, 225, 226, 227, 1234, 1235, 1236, 1237, 1297, 1298, 1299, 1300, 1301, 1302, 1303, 1304, 1305, 1306, 1418, 1419, 1420, 1421] (by decide +kernel) (by decide +kernel)
set_option maxRecDepth 20000 in
theorem gL_law_X11_put : GoodIn wsL_law (wsV RL 160 RX11 yX11_put wsX11_put) := goodIn_app (goodIn_of _ (by decide +kernel)) ggL_law_X11_put
set_option maxRecDepth 20000 in
theorem ggL_law_X12_put : GoodIn wsL_law wsX12_put := goodIn_r _ [1241, 167, 165, 1242, 1243, 1244, 5, 1245, 166, 238, 239, 240, 241, 204, 205, 206, 1246, 1247, 1248, 1307, 1308, 1309, 1310, 1311, 1312, 1313, 1314, 1315, 1316, 1317, 1318, 1319, 1320, 1321, 1322, 1323, 1324, 1325, 1326, 1327, 1328, 1329, 1330, 1331, 1332, 1333, 1334, 1335, 1336, 1337, 1338, 1339, 1340, 1341, 1342, 1343, 1344, 1345, 1346, 1347, 1348, 1349, 1350, 1351, 1352, 1353, 1354, 1355, 1356, 1357, 1358, 1359, 1360, 1361] (by decide +kernel) (by decide +kernel)
set_option maxRecDepth 20000 in
theorem gL_law_X12_put : GoodIn wsL_law (wsV RL 164 RX12 yX12_put wsX12_put) := goodIn_app (goodIn_of _ (by decide +kernel)) ggL_law_X12_put
set_option maxRecDepth 20000 in
theorem ggL_law_X11_element : GoodIn wsL_law wsX11_element := goodIn_r _ [1252, 1253, 50, 232, 1226, 1227, 1228, 2, 1229, 215, 216, 217, 218, 1230, 1231, 1232, 52, 1233, 139, 223, 224, 225, 226, 227, 1297, 1298, 1299, 1300, 1301, 1302, 1303, 1304, 1305, 1306, 1418, 1419, 1420, 1421] (by decide +kernel) (by decide +kernel)
set_option maxRecDepth 20000 in
theorem gL_law_X11_element : GoodIn wsL_law (wsV RL 165 RX11 yX11_element wsX11_element) := goodIn_app (goodIn_of _ (by decide +kernel)) ggL_law_X11_element
set_option maxRecDepth 20000 in
theorem ggL_law_X12_element : GoodIn wsL_law wsX12_element := goodIn_r _ [1257, 1258, 167, 1242, 1243, 1244, 5, 1245, 165, 166, 238, 239, 240, 241, 204, 205, 206, 1307, 1308, 1309, 1310, 1311, 1312, 1313, 1314, 1315, 1316, 1317, 1318, 1319, 1320, 1321, 1322, 1323, 1324, 1325, 1326, 1327, 1328, 1329, 1330, 1331, 1332, 1333, 1334, 1335, 1336, 1337, 1338, 1339, 1340, 1341, 1342, 1343, 1344, 1345, 1346, 1347, 1348, 1349, 1350, 1351, 1352, 1353, 1354, 1355, 1356, 1357, 1358, 1359, 1360, 1361] (by decide +kernel) (by decide +kernel)
set_option maxRecDepth 20000 in
theorem gL_law_X12_element : GoodIn wsL_law (wsV RL 169 RX12 yX12_element wsX12_element) := goodIn_app (goodIn_of _ (by decide +kernel)) ggL_law_X12_element
set_option maxRecDepth 20000 in
theorem ggL_law_X11_shift : GoodIn wsL_law wsX11_shift := goodIn_r _ [1262, 50, 215, 232, 1263, 262, 263, 264, 216, 217, 2, 218, 1230, 1231, 1232, 52, 1233, 139, 223, 224, 225, 226, 227, 1297, 1298, 1299, 1300, 1301, 1302, 1303, 1304, 1305, 1306, 1418, 1419, 1420, 1421] (by decide +kernel) (by decide +kernel)
set_option maxRecDepth 20000 in
theorem gL_law_X11_shift : GoodIn wsL_law (wsV RL 170 RX11 yX11_shift wsX11_shift) := goodIn_app (goodIn_of _ (by decide +kernel)) ggL_law_X11_shift
set_option maxRecDepth 20000 in
theorem ggL_law_X12_shift : GoodIn wsL_law wsX12_shift := goodIn_r _ [1267, 165, 166, 168, 167, 238, 239, 5, 240, 241, 204, 205, 206, 1307, 1308, 1309, 1310, 1311, 1312, 1313, 1314, 1315, 1316, 1317, 1318, 1319, 1320, 1321, 1322, 1323, 1324, 1325, 1326, 1327, 1328, 1329, 1330, 1331, 1332, 1333, 1334, 1335, 1336, 1337, 1338, 1339, 1340, 1341, 1342, 1343, 1344, 1345, 1346, 1347, 1348, 1349, 1350, 1351, 1352, 1353, 1354, 1355, 1356, 1357, 1358, 1359, 1360, 1361] (by decide +kernel) (by decide +kernel)
set_option maxRecDepth 20000 in
theorem gL_law_X12_shift : GoodIn wsL_law (wsV RL 174 RX12 yX12_shift wsX12_shift) := goodIn_app (goodIn_of _ (by decide +kernel)) ggL_law_X12_shift
set_option maxRecDepth 20000 in
theorem ggL_law_X11_taken : GoodIn wsL_law wsX11_taken := goodIn_r _ [1271, 50, 215, 48, 1272, 216, 217, 2, 218, 1117, 1118, 1119, 1273, 1274, 1275, 47, 1276, 132, 1146, 1297, 1298, 1299, 1300, 1301, 1302, 1303, 1304, 1305, 1306, 1418, 1419, 1420, 1421, 1412, 1413, 1414, 1415, 1416, 1417] (by decide +kernel) (by decide +kernel)
set_option maxRecDepth 20000 in
theorem gL_law_X11_taken : GoodIn wsL_law (wsV RL 175 RX11 yX11_taken wsX11_taken) := goodIn_app (goodIn_of _ (by decide +kernel)) ggL_law_X11_taken
set_option maxRecDepth 20000 in
theorem ggL_law_X12_taken : GoodIn wsL_law wsX12_taken := goodIn_r _ [1280, 277, 165, 238, 239, 5, 240, 241, 204, 205, 206, 1281, 1282, 1283, 1284, 163, 1285, 1286, 1287, 1307, 1308, 1309, 1310, 1311, 1312, 1313, 1314, 1315, 1316, 1317, 1318, 1319, 1320, 1321, 1322, 1323, 1324, 1325, 1326, 1327, 1328, 1329, 1330, 1331, 1332, 1333, 1334, 1335, 1336, 1337, 1338, 1339, 1340, 1341, 1342, 1343, 1344, 1345, 1346, 1347, 1348, 1349, 1350, 1351, 1352, 1353, 1354, 1355, 1356, 1357, 1358, 1359, 1360, 1361] (by decide +kernel) (by decide +kernel)
set_option maxRecDepth 20000 in
theorem gL_law_X12_taken : GoodIn wsL_law (wsV RL 178 RX12 yX12_taken wsX12_taken) := goodIn_app (goodIn_of _ (by decide +kernel)) ggL_law_X12_taken
set_option maxRecDepth 20000 in
theorem ggL_law_X11_count : GoodIn wsL_law wsX11_count := goodIn_r _ [1291, 16, 516, 312, 1292, 44, 1096, 48, 1199, 1189, 1297, 1298, 1299, 1300, 1301, 1302, 1303, 1304, 1305, 1306, 1362, 1363, 1364, 1365, 1366, 1422, 1423, 1424, 1425, 1426, 1427, 1428, 1429, 1430, 1431, 1407, 1408, 1409, 1410, 1411, 1412, 1413, 1414, 1415, 1416, 1417] (by decide +kernel) (by decide +kernel)
set_option maxRecDepth 20000 in
theorem gL_law_X11_count : GoodIn wsL_law (wsV RL 179 RX11 yX11_count wsX11_count) := goodIn_app (goodIn_of _ (by decide +kernel)) ggL_law_X11_count
set_option maxRecDepth 20000 in
theorem ggL_law_X12_count : GoodIn wsL_law wsX12_count := goodIn_r _ [1296, 199, 323, 294, 1129, 1158, 1307, 1308, 1309, 1310, 1311, 1312, 1313, 1314, 1315, 1316, 1317, 1318, 1319, 1320, 1321, 1322, 1323, 1324, 1325, 1326, 1327, 1328, 1329, 1330, 1331, 1332, 1333, 1334, 1335, 1336, 1337, 1338, 1339, 1340, 1341, 1342, 1343, 1344, 1345, 1346, 1347, 1348, 1349, 1350, 1351, 1352, 1353, 1354, 1355, 1356, 1357, 1358, 1359, 1360, 1361] (by decide +kernel) (by decide +kernel)
set_option maxRecDepth 20000 in
theorem gL_law_X12_count : GoodIn wsL_law (wsV RL 182 RX12 yX12_count wsX12_count) := goodIn_app (goodIn_of _ (by decide +kernel)) ggL_law_X12_count
theorem dL_law_0 : decode cL_law 0 = .ok (.new 7, 3) := by decide +kernel
theorem dL_law_3 : decode cL_law 3 = .ok (.dup, 1) := by decide +kernel
theorem dL_law_4 : decode cL_law 4 = .ok (.invokespecial 9, 3) := by decide +kernel
theorem dL_law_7 : decode cL_law 7 = .ok (.astore_n 1, 1) := by decide +kernel
theorem dL_law_8 : decode cL_law 8 = .ok (.new 10, 3) := by decide +kernel
theorem dL_law_11 : decode cL_law 11 = .ok (.dup, 1) := by decide +kernel
theorem dL_law_12 : decode cL_law 12 = .ok (.invokespecial 12, 3) := by decide +kernel
theorem dL_law_15 : decode cL_law 15 = .ok (.astore_n 2, 1) := by decide +kernel
theorem dL_law_16 : decode cL_law 16 = .ok (.iconst 0, 1) := by decide +kernel
theorem dL_law_17 : decode cL_law 17 = .ok (.istore_n 3, 1) := by decide +kernel
theorem dL_law_18 : decode cL_law 18 = .ok (.iload_n 3, 1) := by decide +kernel
theorem dL_law_19 : decode cL_law 19 = .ok (.aload_n 0, 1) := by decide +kernel
theorem dL_law_20 : decode cL_law 20 = .ok (.arraylength, 1) := by decide +kernel
theorem dL_law_21 : decode cL_law 21 = .ok (.bipush 6, 2) := by decide +kernel
theorem dL_law_23 : decode cL_law 23 = .ok (.isub, 1) := by decide +kernel
theorem dL_law_24 : decode cL_law 24 = .ok (.if_icmp .gt 1561, 3) := by decide +kernel
theorem dL_law_27 : decode cL_law 27 = .ok (.aload_n 0, 1) := by decide +kernel
theorem dL_law_28 : decode cL_law 28 = .ok (.iload_n 3, 1) := by decide +kernel
theorem dL_law_29 : decode cL_law 29 = .ok (.iaload, 1) := by decide +kernel
theorem dL_law_30 : decode cL_law 30 = .ok (.bipush 63, 2) := by decide +kernel
theorem dL_law_32 : decode cL_law 32 = .ok (.iand, 1) := by decide +kernel
theorem dL_law_33 : decode cL_law 33 = .ok (.tableswitch 1546 0 39 #[175, 208, 251, 294, 327, 350, 363, 406, 449, 492, 525, 568, 611, 644, 687, 730, 773, 796, 839, 882, 925, 958, 1011, 1034, 1067, 1080, 1103, 1116, 1129, 1142, 1155, 1178, 1221, 1244, 1277, 1320, 1393, 1427, 1490, 1523], 175) := by decide +kernel
theorem dL_law_208 : decode cL_law 208 = .ok (.aload_n 1, 1) := by decide +kernel
theorem dL_law_209 : decode cL_law 209 = .ok (.aload_n 0, 1) := by decide +kernel
theorem dL_law_210 : decode cL_law 210 = .ok (.iload_n 3, 1) := by decide +kernel
theorem dL_law_211 : decode cL_law 211 = .ok (.iconst 1, 1) := by decide +kernel
theorem dL_law_212 : decode cL_law 212 = .ok (.iadd, 1) := by decide +kernel
theorem dL_law_213 : decode cL_law 213 = .ok (.iaload, 1) := by decide +kernel
theorem dL_law_214 : decode cL_law 214 = .ok (.aload_n 0, 1) := by decide +kernel
theorem dL_law_215 : decode cL_law 215 = .ok (.iload_n 3, 1) := by decide +kernel
theorem dL_law_216 : decode cL_law 216 = .ok (.iconst 2, 1) := by decide +kernel
theorem dL_law_217 : decode cL_law 217 = .ok (.iadd, 1) := by decide +kernel
theorem dL_law_218 : decode cL_law 218 = .ok (.iaload, 1) := by decide +kernel
theorem dL_law_219 : decode cL_law 219 = .ok (.invokevirtual 13, 3) := by decide +kernel
theorem dL_law_222 : decode cL_law 222 = .ok (.aload_n 2, 1) := by decide +kernel
theorem dL_law_223 : decode cL_law 223 = .ok (.aload_n 0, 1) := by decide +kernel
theorem dL_law_224 : decode cL_law 224 = .ok (.iload_n 3, 1) := by decide +kernel
theorem dL_law_225 : decode cL_law 225 = .ok (.iconst 1, 1) := by decide +kernel
theorem dL_law_226 : decode cL_law 226 = .ok (.iadd, 1) := by decide +kernel
theorem dL_law_227 : decode cL_law 227 = .ok (.iaload, 1) := by decide +kernel
theorem dL_law_228 : decode cL_law 228 = .ok (.aload_n 0, 1) := by decide +kernel
theorem dL_law_229 : decode cL_law 229 = .ok (.iload_n 3, 1) := by decide +kernel
theorem dL_law_230 : decode cL_law 230 = .ok (.iconst 2, 1) := by decide +kernel
theorem dL_law_231 : decode cL_law 231 = .ok (.iadd, 1) := by decide +kernel
theorem dL_law_232 : decode cL_law 232 = .ok (.iaload, 1) := by decide +kernel
theorem dL_law_233 : decode cL_law 233 = .ok (.invokevirtual 17, 3) := by decide +kernel
theorem dL_law_236 : decode cL_law 236 = .ok (.if_icmp .eq 1343, 3) := by decide +kernel
theorem dL_law_241 : decode cL_law 241 = .ok (.aload_n 1, 1) := by decide +kernel
theorem dL_law_242 : decode cL_law 242 = .ok (.aload_n 0, 1) := by decide +kernel
theorem dL_law_243 : decode cL_law 243 = .ok (.iload_n 3, 1) := by decide +kernel
theorem dL_law_244 : decode cL_law 244 = .ok (.iconst 1, 1) := by decide +kernel
theorem dL_law_245 : decode cL_law 245 = .ok (.iadd, 1) := by decide +kernel
theorem dL_law_246 : decode cL_law 246 = .ok (.iaload, 1) := by decide +kernel
theorem dL_law_247 : decode cL_law 247 = .ok (.aload_n 0, 1) := by decide +kernel
theorem dL_law_248 : decode cL_law 248 = .ok (.iload_n 3, 1) := by decide +kernel
theorem dL_law_249 : decode cL_law 249 = .ok (.iconst 2, 1) := by decide +kernel
theorem dL_law_250 : decode cL_law 250 = .ok (.iadd, 1) := by decide +kernel
theorem dL_law_251 : decode cL_law 251 = .ok (.iaload, 1) := by decide +kernel
theorem dL_law_252 : decode cL_law 252 = .ok (.aload_n 0, 1) := by decide +kernel
theorem dL_law_253 : decode cL_law 253 = .ok (.iload_n 3, 1) := by decide +kernel
theorem dL_law_254 : decode cL_law 254 = .ok (.iconst 3, 1) := by decide +kernel
theorem dL_law_255 : decode cL_law 255 = .ok (.iadd, 1) := by decide +kernel
theorem dL_law_256 : decode cL_law 256 = .ok (.iaload, 1) := by decide +kernel
theorem dL_law_257 : decode cL_law 257 = .ok (.invokevirtual 18, 3) := by decide +kernel
theorem dL_law_260 : decode cL_law 260 = .ok (.aload_n 2, 1) := by decide +kernel
theorem dL_law_261 : decode cL_law 261 = .ok (.aload_n 0, 1) := by decide +kernel
theorem dL_law_262 : decode cL_law 262 = .ok (.iload_n 3, 1) := by decide +kernel
theorem dL_law_263 : decode cL_law 263 = .ok (.iconst 1, 1) := by decide +kernel
theorem dL_law_264 : decode cL_law 264 = .ok (.iadd, 1) := by decide +kernel
theorem dL_law_265 : decode cL_law 265 = .ok (.iaload, 1) := by decide +kernel
theorem dL_law_266 : decode cL_law 266 = .ok (.aload_n 0, 1) := by decide +kernel
theorem dL_law_267 : decode cL_law 267 = .ok (.iload_n 3, 1) := by decide +kernel
theorem dL_law_268 : decode cL_law 268 = .ok (.iconst 2, 1) := by decide +kernel
theorem dL_law_269 : decode cL_law 269 = .ok (.iadd, 1) := by decide +kernel
theorem dL_law_270 : decode cL_law 270 = .ok (.iaload, 1) := by decide +kernel
theorem dL_law_271 : decode cL_law 271 = .ok (.aload_n 0, 1) := by decide +kernel
theorem dL_law_272 : decode cL_law 272 = .ok (.iload_n 3, 1) := by decide +kernel
theorem dL_law_273 : decode cL_law 273 = .ok (.iconst 3, 1) := by decide +kernel
theorem dL_law_274 : decode cL_law 274 = .ok (.iadd, 1) := by decide +kernel
theorem dL_law_275 : decode cL_law 275 = .ok (.iaload, 1) := by decide +kernel
theorem dL_law_276 : decode cL_law 276 = .ok (.invokevirtual 22, 3) := by decide +kernel
theorem dL_law_279 : decode cL_law 279 = .ok (.if_icmp .eq 1300, 3) := by decide +kernel
theorem dL_law_284 : decode cL_law 284 = .ok (.aload_n 1, 1) := by decide +kernel
theorem dL_law_285 : decode cL_law 285 = .ok (.aload_n 0, 1) := by decide +kernel
theorem dL_law_286 : decode cL_law 286 = .ok (.iload_n 3, 1) := by decide +kernel
theorem dL_law_287 : decode cL_law 287 = .ok (.iconst 1, 1) := by decide +kernel
theorem dL_law_288 : decode cL_law 288 = .ok (.iadd, 1) := by decide +kernel
theorem dL_law_289 : decode cL_law 289 = .ok (.iaload, 1) := by decide +kernel
theorem dL_law_290 : decode cL_law 290 = .ok (.aload_n 0, 1) := by decide +kernel
theorem dL_law_291 : decode cL_law 291 = .ok (.iload_n 3, 1) := by decide +kernel
theorem dL_law_292 : decode cL_law 292 = .ok (.iconst 2, 1) := by decide +kernel
theorem dL_law_293 : decode cL_law 293 = .ok (.iadd, 1) := by decide +kernel
theorem dL_law_294 : decode cL_law 294 = .ok (.iaload, 1) := by decide +kernel
theorem dL_law_295 : decode cL_law 295 = .ok (.aload_n 0, 1) := by decide +kernel
theorem dL_law_296 : decode cL_law 296 = .ok (.iload_n 3, 1) := by decide +kernel
theorem dL_law_297 : decode cL_law 297 = .ok (.iconst 3, 1) := by decide +kernel
theorem dL_law_298 : decode cL_law 298 = .ok (.iadd, 1) := by decide +kernel
theorem dL_law_299 : decode cL_law 299 = .ok (.iaload, 1) := by decide +kernel
theorem dL_law_300 : decode cL_law 300 = .ok (.invokevirtual 23, 3) := by decide +kernel
theorem dL_law_303 : decode cL_law 303 = .ok (.aload_n 2, 1) := by decide +kernel
theorem dL_law_304 : decode cL_law 304 = .ok (.aload_n 0, 1) := by decide +kernel
theorem dL_law_305 : decode cL_law 305 = .ok (.iload_n 3, 1) := by decide +kernel
theorem dL_law_306 : decode cL_law 306 = .ok (.iconst 1, 1) := by decide +kernel
theorem dL_law_307 : decode cL_law 307 = .ok (.iadd, 1) := by decide +kernel
theorem dL_law_308 : decode cL_law 308 = .ok (.iaload, 1) := by decide +kernel
theorem dL_law_309 : decode cL_law 309 = .ok (.aload_n 0, 1) := by decide +kernel
theorem dL_law_310 : decode cL_law 310 = .ok (.iload_n 3, 1) := by decide +kernel
theorem dL_law_311 : decode cL_law 311 = .ok (.iconst 2, 1) := by decide +kernel
theorem dL_law_312 : decode cL_law 312 = .ok (.iadd, 1) := by decide +kernel
theorem dL_law_313 : decode cL_law 313 = .ok (.iaload, 1) := by decide +kernel
theorem dL_law_314 : decode cL_law 314 = .ok (.aload_n 0, 1) := by decide +kernel
theorem dL_law_315 : decode cL_law 315 = .ok (.iload_n 3, 1) := by decide +kernel
theorem dL_law_316 : decode cL_law 316 = .ok (.iconst 3, 1) := by decide +kernel
theorem dL_law_317 : decode cL_law 317 = .ok (.iadd, 1) := by decide +kernel
theorem dL_law_318 : decode cL_law 318 = .ok (.iaload, 1) := by decide +kernel
theorem dL_law_319 : decode cL_law 319 = .ok (.invokevirtual 26, 3) := by decide +kernel
theorem dL_law_322 : decode cL_law 322 = .ok (.if_icmp .eq 1257, 3) := by decide +kernel
theorem dL_law_327 : decode cL_law 327 = .ok (.aload_n 1, 1) := by decide +kernel
theorem dL_law_328 : decode cL_law 328 = .ok (.aload_n 0, 1) := by decide +kernel
theorem dL_law_329 : decode cL_law 329 = .ok (.iload_n 3, 1) := by decide +kernel
theorem dL_law_330 : decode cL_law 330 = .ok (.iconst 1, 1) := by decide +kernel
theorem dL_law_331 : decode cL_law 331 = .ok (.iadd, 1) := by decide +kernel
theorem dL_law_332 : decode cL_law 332 = .ok (.iaload, 1) := by decide +kernel
theorem dL_law_333 : decode cL_law 333 = .ok (.aload_n 0, 1) := by decide +kernel
theorem dL_law_334 : decode cL_law 334 = .ok (.iload_n 3, 1) := by decide +kernel
theorem dL_law_335 : decode cL_law 335 = .ok (.iconst 2, 1) := by decide +kernel
theorem dL_law_336 : decode cL_law 336 = .ok (.iadd, 1) := by decide +kernel
theorem dL_law_337 : decode cL_law 337 = .ok (.iaload, 1) := by decide +kernel
theorem dL_law_338 : decode cL_law 338 = .ok (.invokevirtual 27, 3) := by decide +kernel
theorem dL_law_341 : decode cL_law 341 = .ok (.aload_n 2, 1) := by decide +kernel
theorem dL_law_342 : decode cL_law 342 = .ok (.aload_n 0, 1) := by decide +kernel
theorem dL_law_343 : decode cL_law 343 = .ok (.iload_n 3, 1) := by decide +kernel
theorem dL_law_344 : decode cL_law 344 = .ok (.iconst 1, 1) := by decide +kernel
theorem dL_law_345 : decode cL_law 345 = .ok (.iadd, 1) := by decide +kernel
theorem dL_law_346 : decode cL_law 346 = .ok (.iaload, 1) := by decide +kernel
theorem dL_law_347 : decode cL_law 347 = .ok (.aload_n 0, 1) := by decide +kernel
theorem dL_law_348 : decode cL_law 348 = .ok (.iload_n 3, 1) := by decide +kernel
theorem dL_law_349 : decode cL_law 349 = .ok (.iconst 2, 1) := by decide +kernel
theorem dL_law_350 : decode cL_law 350 = .ok (.iadd, 1) := by decide +kernel
theorem dL_law_351 : decode cL_law 351 = .ok (.iaload, 1) := by decide +kernel
theorem dL_law_352 : decode cL_law 352 = .ok (.invokevirtual 30, 3) := by decide +kernel
theorem dL_law_355 : decode cL_law 355 = .ok (.if_icmp .eq 1224, 3) := by decide +kernel
theorem dL_law_360 : decode cL_law 360 = .ok (.aload_n 1, 1) := by decide +kernel
theorem dL_law_361 : decode cL_law 361 = .ok (.aload_n 0, 1) := by decide +kernel
theorem dL_law_362 : decode cL_law 362 = .ok (.iload_n 3, 1) := by decide +kernel
theorem dL_law_363 : decode cL_law 363 = .ok (.iconst 1, 1) := by decide +kernel
theorem dL_law_364 : decode cL_law 364 = .ok (.iadd, 1) := by decide +kernel
theorem dL_law_365 : decode cL_law 365 = .ok (.iaload, 1) := by decide +kernel
theorem dL_law_366 : decode cL_law 366 = .ok (.invokevirtual 31, 3) := by decide +kernel
theorem dL_law_369 : decode cL_law 369 = .ok (.aload_n 2, 1) := by decide +kernel
theorem dL_law_370 : decode cL_law 370 = .ok (.aload_n 0, 1) := by decide +kernel
theorem dL_law_371 : decode cL_law 371 = .ok (.iload_n 3, 1) := by decide +kernel
theorem dL_law_372 : decode cL_law 372 = .ok (.iconst 1, 1) := by decide +kernel
theorem dL_law_373 : decode cL_law 373 = .ok (.iadd, 1) := by decide +kernel
theorem dL_law_374 : decode cL_law 374 = .ok (.iaload, 1) := by decide +kernel
theorem dL_law_375 : decode cL_law 375 = .ok (.invokevirtual 35, 3) := by decide +kernel
theorem dL_law_378 : decode cL_law 378 = .ok (.if_icmp .eq 1201, 3) := by decide +kernel
theorem dL_law_383 : decode cL_law 383 = .ok (.aload_n 1, 1) := by decide +kernel
theorem dL_law_384 : decode cL_law 384 = .ok (.invokevirtual 36, 3) := by decide +kernel
theorem dL_law_387 : decode cL_law 387 = .ok (.aload_n 2, 1) := by decide +kernel
theorem dL_law_388 : decode cL_law 388 = .ok (.invokevirtual 40, 3) := by decide +kernel
theorem dL_law_391 : decode cL_law 391 = .ok (.if_icmp .eq 1188, 3) := by decide +kernel
theorem dL_law_396 : decode cL_law 396 = .ok (.aload_n 1, 1) := by decide +kernel
theorem dL_law_397 : decode cL_law 397 = .ok (.aload_n 0, 1) := by decide +kernel
theorem dL_law_398 : decode cL_law 398 = .ok (.iload_n 3, 1) := by decide +kernel
theorem dL_law_399 : decode cL_law 399 = .ok (.iconst 1, 1) := by decide +kernel
theorem dL_law_400 : decode cL_law 400 = .ok (.iadd, 1) := by decide +kernel
theorem dL_law_401 : decode cL_law 401 = .ok (.iaload, 1) := by decide +kernel
theorem dL_law_402 : decode cL_law 402 = .ok (.aload_n 0, 1) := by decide +kernel
theorem dL_law_403 : decode cL_law 403 = .ok (.iload_n 3, 1) := by decide +kernel
theorem dL_law_404 : decode cL_law 404 = .ok (.iconst 2, 1) := by decide +kernel
theorem dL_law_405 : decode cL_law 405 = .ok (.iadd, 1) := by decide +kernel
theorem dL_law_406 : decode cL_law 406 = .ok (.iaload, 1) := by decide +kernel
theorem dL_law_407 : decode cL_law 407 = .ok (.aload_n 0, 1) := by decide +kernel
theorem dL_law_408 : decode cL_law 408 = .ok (.iload_n 3, 1) := by decide +kernel
theorem dL_law_409 : decode cL_law 409 = .ok (.iconst 3, 1) := by decide +kernel
theorem dL_law_410 : decode cL_law 410 = .ok (.iadd, 1) := by decide +kernel
theorem dL_law_411 : decode cL_law 411 = .ok (.iaload, 1) := by decide +kernel
theorem dL_law_412 : decode cL_law 412 = .ok (.invokevirtual 41, 3) := by decide +kernel
theorem dL_law_415 : decode cL_law 415 = .ok (.aload_n 2, 1) := by decide +kernel
theorem dL_law_416 : decode cL_law 416 = .ok (.aload_n 0, 1) := by decide +kernel
theorem dL_law_417 : decode cL_law 417 = .ok (.iload_n 3, 1) := by decide +kernel
theorem dL_law_418 : decode cL_law 418 = .ok (.iconst 1, 1) := by decide +kernel
theorem dL_law_419 : decode cL_law 419 = .ok (.iadd, 1) := by decide +kernel
theorem dL_law_420 : decode cL_law 420 = .ok (.iaload, 1) := by decide +kernel
theorem dL_law_421 : decode cL_law 421 = .ok (.aload_n 0, 1) := by decide +kernel
theorem dL_law_422 : decode cL_law 422 = .ok (.iload_n 3, 1) := by decide +kernel
theorem dL_law_423 : decode cL_law 423 = .ok (.iconst 2, 1) := by decide +kernel
theorem dL_law_424 : decode cL_law 424 = .ok (.iadd, 1) := by decide +kernel
theorem dL_law_425 : decode cL_law 425 = .ok (.iaload, 1) := by decide +kernel
theorem dL_law_426 : decode cL_law 426 = .ok (.aload_n 0, 1) := by decide +kernel
theorem dL_law_427 : decode cL_law 427 = .ok (.iload_n 3, 1) := by decide +kernel
theorem dL_law_428 : decode cL_law 428 = .ok (.iconst 3, 1) := by decide +kernel
theorem dL_law_429 : decode cL_law 429 = .ok (.iadd, 1) := by decide +kernel
theorem dL_law_430 : decode cL_law 430 = .ok (.iaload, 1) := by decide +kernel
theorem dL_law_431 : decode cL_law 431 = .ok (.invokevirtual 44, 3) := by decide +kernel
theorem dL_law_434 : decode cL_law 434 = .ok (.if_icmp .eq 1145, 3) := by decide +kernel
theorem dL_law_439 : decode cL_law 439 = .ok (.aload_n 1, 1) := by decide +kernel
theorem dL_law_440 : decode cL_law 440 = .ok (.aload_n 0, 1) := by decide +kernel
theorem dL_law_441 : decode cL_law 441 = .ok (.iload_n 3, 1) := by decide +kernel
theorem dL_law_442 : decode cL_law 442 = .ok (.iconst 1, 1) := by decide +kernel
theorem dL_law_443 : decode cL_law 443 = .ok (.iadd, 1) := by decide +kernel
theorem dL_law_444 : decode cL_law 444 = .ok (.iaload, 1) := by decide +kernel
theorem dL_law_445 : decode cL_law 445 = .ok (.aload_n 0, 1) := by decide +kernel
theorem dL_law_446 : decode cL_law 446 = .ok (.iload_n 3, 1) := by decide +kernel
theorem dL_law_447 : decode cL_law 447 = .ok (.iconst 2, 1) := by decide +kernel
theorem dL_law_448 : decode cL_law 448 = .ok (.iadd, 1) := by decide +kernel
theorem dL_law_449 : decode cL_law 449 = .ok (.iaload, 1) := by decide +kernel
theorem dL_law_450 : decode cL_law 450 = .ok (.aload_n 0, 1) := by decide +kernel
theorem dL_law_451 : decode cL_law 451 = .ok (.iload_n 3, 1) := by decide +kernel
theorem dL_law_452 : decode cL_law 452 = .ok (.iconst 3, 1) := by decide +kernel
theorem dL_law_453 : decode cL_law 453 = .ok (.iadd, 1) := by decide +kernel
theorem dL_law_454 : decode cL_law 454 = .ok (.iaload, 1) := by decide +kernel
theorem dL_law_455 : decode cL_law 455 = .ok (.invokevirtual 45, 3) := by decide +kernel
theorem dL_law_458 : decode cL_law 458 = .ok (.aload_n 2, 1) := by decide +kernel
theorem dL_law_459 : decode cL_law 459 = .ok (.aload_n 0, 1) := by decide +kernel
theorem dL_law_460 : decode cL_law 460 = .ok (.iload_n 3, 1) := by decide +kernel
theorem dL_law_461 : decode cL_law 461 = .ok (.iconst 1, 1) := by decide +kernel
theorem dL_law_462 : decode cL_law 462 = .ok (.iadd, 1) := by decide +kernel
theorem dL_law_463 : decode cL_law 463 = .ok (.iaload, 1) := by decide +kernel
theorem dL_law_464 : decode cL_law 464 = .ok (.aload_n 0, 1) := by decide +kernel
theorem dL_law_465 : decode cL_law 465 = .ok (.iload_n 3, 1) := by decide +kernel
theorem dL_law_466 : decode cL_law 466 = .ok (.iconst 2, 1) := by decide +kernel
theorem dL_law_467 : decode cL_law 467 = .ok (.iadd, 1) := by decide +kernel
theorem dL_law_468 : decode cL_law 468 = .ok (.iaload, 1) := by decide +kernel
theorem dL_law_469 : decode cL_law 469 = .ok (.aload_n 0, 1) := by decide +kernel
theorem dL_law_470 : decode cL_law 470 = .ok (.iload_n 3, 1) := by decide +kernel
theorem dL_law_471 : decode cL_law 471 = .ok (.iconst 3, 1) := by decide +kernel
theorem dL_law_472 : decode cL_law 472 = .ok (.iadd, 1) := by decide +kernel
theorem dL_law_473 : decode cL_law 473 = .ok (.iaload, 1) := by decide +kernel
theorem dL_law_474 : decode cL_law 474 = .ok (.invokevirtual 48, 3) := by decide +kernel
theorem dL_law_477 : decode cL_law 477 = .ok (.if_icmp .eq 1102, 3) := by decide +kernel
theorem dL_law_482 : decode cL_law 482 = .ok (.aload_n 1, 1) := by decide +kernel
theorem dL_law_483 : decode cL_law 483 = .ok (.aload_n 0, 1) := by decide +kernel
theorem dL_law_484 : decode cL_law 484 = .ok (.iload_n 3, 1) := by decide +kernel
theorem dL_law_485 : decode cL_law 485 = .ok (.iconst 1, 1) := by decide +kernel
theorem dL_law_486 : decode cL_law 486 = .ok (.iadd, 1) := by decide +kernel
theorem dL_law_487 : decode cL_law 487 = .ok (.iaload, 1) := by decide +kernel
theorem dL_law_488 : decode cL_law 488 = .ok (.aload_n 0, 1) := by decide +kernel
theorem dL_law_489 : decode cL_law 489 = .ok (.iload_n 3, 1) := by decide +kernel
theorem dL_law_490 : decode cL_law 490 = .ok (.iconst 2, 1) := by decide +kernel
theorem dL_law_491 : decode cL_law 491 = .ok (.iadd, 1) := by decide +kernel
theorem dL_law_492 : decode cL_law 492 = .ok (.iaload, 1) := by decide +kernel
theorem dL_law_493 : decode cL_law 493 = .ok (.aload_n 0, 1) := by decide +kernel
theorem dL_law_494 : decode cL_law 494 = .ok (.iload_n 3, 1) := by decide +kernel
theorem dL_law_495 : decode cL_law 495 = .ok (.iconst 3, 1) := by decide +kernel
theorem dL_law_496 : decode cL_law 496 = .ok (.iadd, 1) := by decide +kernel
theorem dL_law_497 : decode cL_law 497 = .ok (.iaload, 1) := by decide +kernel
theorem dL_law_498 : decode cL_law 498 = .ok (.invokevirtual 49, 3) := by decide +kernel
theorem dL_law_501 : decode cL_law 501 = .ok (.aload_n 2, 1) := by decide +kernel
theorem dL_law_502 : decode cL_law 502 = .ok (.aload_n 0, 1) := by decide +kernel
theorem dL_law_503 : decode cL_law 503 = .ok (.iload_n 3, 1) := by decide +kernel
theorem dL_law_504 : decode cL_law 504 = .ok (.iconst 1, 1) := by decide +kernel
theorem dL_law_505 : decode cL_law 505 = .ok (.iadd, 1) := by decide +kernel
theorem dL_law_506 : decode cL_law 506 = .ok (.iaload, 1) := by decide +kernel
theorem dL_law_507 : decode cL_law 507 = .ok (.aload_n 0, 1) := by decide +kernel
theorem dL_law_508 : decode cL_law 508 = .ok (.iload_n 3, 1) := by decide +kernel
theorem dL_law_509 : decode cL_law 509 = .ok (.iconst 2, 1) := by decide +kernel
theorem dL_law_510 : decode cL_law 510 = .ok (.iadd, 1) := by decide +kernel
theorem dL_law_511 : decode cL_law 511 = .ok (.iaload, 1) := by decide +kernel
theorem dL_law_512 : decode cL_law 512 = .ok (.aload_n 0, 1) := by decide +kernel
theorem dL_law_513 : decode cL_law 513 = .ok (.iload_n 3, 1) := by decide +kernel
theorem dL_law_514 : decode cL_law 514 = .ok (.iconst 3, 1) := by decide +kernel
theorem dL_law_515 : decode cL_law 515 = .ok (.iadd, 1) := by decide +kernel
theorem dL_law_516 : decode cL_law 516 = .ok (.iaload, 1) := by decide +kernel
theorem dL_law_517 : decode cL_law 517 = .ok (.invokevirtual 52, 3) := by decide +kernel
theorem dL_law_520 : decode cL_law 520 = .ok (.if_icmp .eq 1059, 3) := by decide +kernel
theorem dL_law_525 : decode cL_law 525 = .ok (.aload_n 1, 1) := by decide +kernel
theorem dL_law_526 : decode cL_law 526 = .ok (.aload_n 0, 1) := by decide +kernel
theorem dL_law_527 : decode cL_law 527 = .ok (.iload_n 3, 1) := by decide +kernel
theorem dL_law_528 : decode cL_law 528 = .ok (.iconst 1, 1) := by decide +kernel
theorem dL_law_529 : decode cL_law 529 = .ok (.iadd, 1) := by decide +kernel
theorem dL_law_530 : decode cL_law 530 = .ok (.iaload, 1) := by decide +kernel
theorem dL_law_531 : decode cL_law 531 = .ok (.aload_n 0, 1) := by decide +kernel
theorem dL_law_532 : decode cL_law 532 = .ok (.iload_n 3, 1) := by decide +kernel
theorem dL_law_533 : decode cL_law 533 = .ok (.iconst 2, 1) := by decide +kernel
theorem dL_law_534 : decode cL_law 534 = .ok (.iadd, 1) := by decide +kernel
theorem dL_law_535 : decode cL_law 535 = .ok (.iaload, 1) := by decide +kernel
theorem dL_law_536 : decode cL_law 536 = .ok (.invokevirtual 53, 3) := by decide +kernel
theorem dL_law_539 : decode cL_law 539 = .ok (.aload_n 2, 1) := by decide +kernel
theorem dL_law_540 : decode cL_law 540 = .ok (.aload_n 0, 1) := by decide +kernel
theorem dL_law_541 : decode cL_law 541 = .ok (.iload_n 3, 1) := by decide +kernel
theorem dL_law_542 : decode cL_law 542 = .ok (.iconst 1, 1) := by decide +kernel
theorem dL_law_543 : decode cL_law 543 = .ok (.iadd, 1) := by decide +kernel
theorem dL_law_544 : decode cL_law 544 = .ok (.iaload, 1) := by decide +kernel
theorem dL_law_545 : decode cL_law 545 = .ok (.aload_n 0, 1) := by decide +kernel
theorem dL_law_546 : decode cL_law 546 = .ok (.iload_n 3, 1) := by decide +kernel
theorem dL_law_547 : decode cL_law 547 = .ok (.iconst 2, 1) := by decide +kernel
theorem dL_law_548 : decode cL_law 548 = .ok (.iadd, 1) := by decide +kernel
theorem dL_law_549 : decode cL_law 549 = .ok (.iaload, 1) := by decide +kernel
theorem dL_law_550 : decode cL_law 550 = .ok (.invokevirtual 56, 3) := by decide +kernel
theorem dL_law_553 : decode cL_law 553 = .ok (.if_icmp .eq 1026, 3) := by decide +kernel
theorem dL_law_558 : decode cL_law 558 = .ok (.aload_n 1, 1) := by decide +kernel
theorem dL_law_559 : decode cL_law 559 = .ok (.aload_n 0, 1) := by decide +kernel
theorem dL_law_560 : decode cL_law 560 = .ok (.iload_n 3, 1) := by decide +kernel
theorem dL_law_561 : decode cL_law 561 = .ok (.iconst 1, 1) := by decide +kernel
theorem dL_law_562 : decode cL_law 562 = .ok (.iadd, 1) := by decide +kernel
theorem dL_law_563 : decode cL_law 563 = .ok (.iaload, 1) := by decide +kernel
theorem dL_law_564 : decode cL_law 564 = .ok (.aload_n 0, 1) := by decide +kernel
theorem dL_law_565 : decode cL_law 565 = .ok (.iload_n 3, 1) := by decide +kernel
theorem dL_law_566 : decode cL_law 566 = .ok (.iconst 2, 1) := by decide +kernel
theorem dL_law_567 : decode cL_law 567 = .ok (.iadd, 1) := by decide +kernel
theorem dL_law_568 : decode cL_law 568 = .ok (.iaload, 1) := by decide +kernel
theorem dL_law_569 : decode cL_law 569 = .ok (.aload_n 0, 1) := by decide +kernel
theorem dL_law_570 : decode cL_law 570 = .ok (.iload_n 3, 1) := by decide +kernel
theorem dL_law_571 : decode cL_law 571 = .ok (.iconst 3, 1) := by decide +kernel
theorem dL_law_572 : decode cL_law 572 = .ok (.iadd, 1) := by decide +kernel
theorem dL_law_573 : decode cL_law 573 = .ok (.iaload, 1) := by decide +kernel
theorem dL_law_574 : decode cL_law 574 = .ok (.invokevirtual 57, 3) := by decide +kernel
theorem dL_law_577 : decode cL_law 577 = .ok (.aload_n 2, 1) := by decide +kernel
theorem dL_law_578 : decode cL_law 578 = .ok (.aload_n 0, 1) := by decide +kernel
theorem dL_law_579 : decode cL_law 579 = .ok (.iload_n 3, 1) := by decide +kernel
theorem dL_law_580 : decode cL_law 580 = .ok (.iconst 1, 1) := by decide +kernel
theorem dL_law_581 : decode cL_law 581 = .ok (.iadd, 1) := by decide +kernel
theorem dL_law_582 : decode cL_law 582 = .ok (.iaload, 1) := by decide +kernel
theorem dL_law_583 : decode cL_law 583 = .ok (.aload_n 0, 1) := by decide +kernel
theorem dL_law_584 : decode cL_law 584 = .ok (.iload_n 3, 1) := by decide +kernel
theorem dL_law_585 : decode cL_law 585 = .ok (.iconst 2, 1) := by decide +kernel
theorem dL_law_586 : decode cL_law 586 = .ok (.iadd, 1) := by decide +kernel
theorem dL_law_587 : decode cL_law 587 = .ok (.iaload, 1) := by decide +kernel
theorem dL_law_588 : decode cL_law 588 = .ok (.aload_n 0, 1) := by decide +kernel
theorem dL_law_589 : decode cL_law 589 = .ok (.iload_n 3, 1) := by decide +kernel
theorem dL_law_590 : decode cL_law 590 = .ok (.iconst 3, 1) := by decide +kernel
theorem dL_law_591 : decode cL_law 591 = .ok (.iadd, 1) := by decide +kernel
theorem dL_law_592 : decode cL_law 592 = .ok (.iaload, 1) := by decide +kernel
theorem dL_law_593 : decode cL_law 593 = .ok (.invokevirtual 60, 3) := by decide +kernel
theorem dL_law_596 : decode cL_law 596 = .ok (.if_icmp .eq 983, 3) := by decide +kernel
theorem dL_law_601 : decode cL_law 601 = .ok (.aload_n 1, 1) := by decide +kernel
theorem dL_law_602 : decode cL_law 602 = .ok (.aload_n 0, 1) := by decide +kernel
theorem dL_law_603 : decode cL_law 603 = .ok (.iload_n 3, 1) := by decide +kernel
theorem dL_law_604 : decode cL_law 604 = .ok (.iconst 1, 1) := by decide +kernel
theorem dL_law_605 : decode cL_law 605 = .ok (.iadd, 1) := by decide +kernel
theorem dL_law_606 : decode cL_law 606 = .ok (.iaload, 1) := by decide +kernel
theorem dL_law_607 : decode cL_law 607 = .ok (.aload_n 0, 1) := by decide +kernel
theorem dL_law_608 : decode cL_law 608 = .ok (.iload_n 3, 1) := by decide +kernel
theorem dL_law_609 : decode cL_law 609 = .ok (.iconst 2, 1) := by decide +kernel
theorem dL_law_610 : decode cL_law 610 = .ok (.iadd, 1) := by decide +kernel
theorem dL_law_611 : decode cL_law 611 = .ok (.iaload, 1) := by decide +kernel
theorem dL_law_612 : decode cL_law 612 = .ok (.aload_n 0, 1) := by decide +kernel
theorem dL_law_613 : decode cL_law 613 = .ok (.iload_n 3, 1) := by decide +kernel
theorem dL_law_614 : decode cL_law 614 = .ok (.iconst 3, 1) := by decide +kernel
theorem dL_law_615 : decode cL_law 615 = .ok (.iadd, 1) := by decide +kernel
theorem dL_law_616 : decode cL_law 616 = .ok (.iaload, 1) := by decide +kernel
theorem dL_law_617 : decode cL_law 617 = .ok (.invokevirtual 61, 3) := by decide +kernel
theorem dL_law_620 : decode cL_law 620 = .ok (.aload_n 2, 1) := by decide +kernel
theorem dL_law_621 : decode cL_law 621 = .ok (.aload_n 0, 1) := by decide +kernel
theorem dL_law_622 : decode cL_law 622 = .ok (.iload_n 3, 1) := by decide +kernel
theorem dL_law_623 : decode cL_law 623 = .ok (.iconst 1, 1) := by decide +kernel
theorem dL_law_624 : decode cL_law 624 = .ok (.iadd, 1) := by decide +kernel
theorem dL_law_625 : decode cL_law 625 = .ok (.iaload, 1) := by decide +kernel
theorem dL_law_626 : decode cL_law 626 = .ok (.aload_n 0, 1) := by decide +kernel
theorem dL_law_627 : decode cL_law 627 = .ok (.iload_n 3, 1) := by decide +kernel
theorem dL_law_628 : decode cL_law 628 = .ok (.iconst 2, 1) := by decide +kernel
theorem dL_law_629 : decode cL_law 629 = .ok (.iadd, 1) := by decide +kernel
theorem dL_law_630 : decode cL_law 630 = .ok (.iaload, 1) := by decide +kernel
theorem dL_law_631 : decode cL_law 631 = .ok (.aload_n 0, 1) := by decide +kernel
theorem dL_law_632 : decode cL_law 632 = .ok (.iload_n 3, 1) := by decide +kernel
theorem dL_law_633 : decode cL_law 633 = .ok (.iconst 3, 1) := by decide +kernel
theorem dL_law_634 : decode cL_law 634 = .ok (.iadd, 1) := by decide +kernel
theorem dL_law_635 : decode cL_law 635 = .ok (.iaload, 1) := by decide +kernel
theorem dL_law_636 : decode cL_law 636 = .ok (.invokevirtual 64, 3) := by decide +kernel
theorem dL_law_639 : decode cL_law 639 = .ok (.if_icmp .eq 940, 3) := by decide +kernel
theorem dL_law_644 : decode cL_law 644 = .ok (.aload_n 1, 1) := by decide +kernel
theorem dL_law_645 : decode cL_law 645 = .ok (.aload_n 0, 1) := by decide +kernel
theorem dL_law_646 : decode cL_law 646 = .ok (.iload_n 3, 1) := by decide +kernel
theorem dL_law_647 : decode cL_law 647 = .ok (.iconst 1, 1) := by decide +kernel
theorem dL_law_648 : decode cL_law 648 = .ok (.iadd, 1) := by decide +kernel
theorem dL_law_649 : decode cL_law 649 = .ok (.iaload, 1) := by decide +kernel
theorem dL_law_650 : decode cL_law 650 = .ok (.aload_n 0, 1) := by decide +kernel
theorem dL_law_651 : decode cL_law 651 = .ok (.iload_n 3, 1) := by decide +kernel
theorem dL_law_652 : decode cL_law 652 = .ok (.iconst 2, 1) := by decide +kernel
theorem dL_law_653 : decode cL_law 653 = .ok (.iadd, 1) := by decide +kernel
theorem dL_law_654 : decode cL_law 654 = .ok (.iaload, 1) := by decide +kernel
theorem dL_law_655 : decode cL_law 655 = .ok (.invokevirtual 65, 3) := by decide +kernel
theorem dL_law_658 : decode cL_law 658 = .ok (.aload_n 2, 1) := by decide +kernel
theorem dL_law_659 : decode cL_law 659 = .ok (.aload_n 0, 1) := by decide +kernel
theorem dL_law_660 : decode cL_law 660 = .ok (.iload_n 3, 1) := by decide +kernel
theorem dL_law_661 : decode cL_law 661 = .ok (.iconst 1, 1) := by decide +kernel
theorem dL_law_662 : decode cL_law 662 = .ok (.iadd, 1) := by decide +kernel
theorem dL_law_663 : decode cL_law 663 = .ok (.iaload, 1) := by decide +kernel
theorem dL_law_664 : decode cL_law 664 = .ok (.aload_n 0, 1) := by decide +kernel
theorem dL_law_665 : decode cL_law 665 = .ok (.iload_n 3, 1) := by decide +kernel
theorem dL_law_666 : decode cL_law 666 = .ok (.iconst 2, 1) := by decide +kernel
theorem dL_law_667 : decode cL_law 667 = .ok (.iadd, 1) := by decide +kernel
theorem dL_law_668 : decode cL_law 668 = .ok (.iaload, 1) := by decide +kernel
theorem dL_law_669 : decode cL_law 669 = .ok (.invokevirtual 68, 3) := by decide +kernel
theorem dL_law_672 : decode cL_law 672 = .ok (.if_icmp .eq 907, 3) := by decide +kernel
theorem dL_law_677 : decode cL_law 677 = .ok (.aload_n 1, 1) := by decide +kernel
theorem dL_law_678 : decode cL_law 678 = .ok (.aload_n 0, 1) := by decide +kernel
theorem dL_law_679 : decode cL_law 679 = .ok (.iload_n 3, 1) := by decide +kernel
theorem dL_law_680 : decode cL_law 680 = .ok (.iconst 1, 1) := by decide +kernel
theorem dL_law_681 : decode cL_law 681 = .ok (.iadd, 1) := by decide +kernel
theorem dL_law_682 : decode cL_law 682 = .ok (.iaload, 1) := by decide +kernel
theorem dL_law_683 : decode cL_law 683 = .ok (.aload_n 0, 1) := by decide +kernel
theorem dL_law_684 : decode cL_law 684 = .ok (.iload_n 3, 1) := by decide +kernel
theorem dL_law_685 : decode cL_law 685 = .ok (.iconst 2, 1) := by decide +kernel
theorem dL_law_686 : decode cL_law 686 = .ok (.iadd, 1) := by decide +kernel
theorem dL_law_687 : decode cL_law 687 = .ok (.iaload, 1) := by decide +kernel
theorem dL_law_688 : decode cL_law 688 = .ok (.aload_n 0, 1) := by decide +kernel
theorem dL_law_689 : decode cL_law 689 = .ok (.iload_n 3, 1) := by decide +kernel
theorem dL_law_690 : decode cL_law 690 = .ok (.iconst 3, 1) := by decide +kernel
theorem dL_law_691 : decode cL_law 691 = .ok (.iadd, 1) := by decide +kernel
theorem dL_law_692 : decode cL_law 692 = .ok (.iaload, 1) := by decide +kernel
theorem dL_law_693 : decode cL_law 693 = .ok (.invokevirtual 69, 3) := by decide +kernel
theorem dL_law_696 : decode cL_law 696 = .ok (.aload_n 2, 1) := by decide +kernel
theorem dL_law_697 : decode cL_law 697 = .ok (.aload_n 0, 1) := by decide +kernel
theorem dL_law_698 : decode cL_law 698 = .ok (.iload_n 3, 1) := by decide +kernel
theorem dL_law_699 : decode cL_law 699 = .ok (.iconst 1, 1) := by decide +kernel
theorem dL_law_700 : decode cL_law 700 = .ok (.iadd, 1) := by decide +kernel
theorem dL_law_701 : decode cL_law 701 = .ok (.iaload, 1) := by decide +kernel
theorem dL_law_702 : decode cL_law 702 = .ok (.aload_n 0, 1) := by decide +kernel
theorem dL_law_703 : decode cL_law 703 = .ok (.iload_n 3, 1) := by decide +kernel
theorem dL_law_704 : decode cL_law 704 = .ok (.iconst 2, 1) := by decide +kernel
theorem dL_law_705 : decode cL_law 705 = .ok (.iadd, 1) := by decide +kernel
theorem dL_law_706 : decode cL_law 706 = .ok (.iaload, 1) := by decide +kernel
theorem dL_law_707 : decode cL_law 707 = .ok (.aload_n 0, 1) := by decide +kernel
theorem dL_law_708 : decode cL_law 708 = .ok (.iload_n 3, 1) := by decide +kernel
theorem dL_law_709 : decode cL_law 709 = .ok (.iconst 3, 1) := by decide +kernel
theorem dL_law_710 : decode cL_law 710 = .ok (.iadd, 1) := by decide +kernel
theorem dL_law_711 : decode cL_law 711 = .ok (.iaload, 1) := by decide +kernel
theorem dL_law_712 : decode cL_law 712 = .ok (.invokevirtual 72, 3) := by decide +kernel
theorem dL_law_715 : decode cL_law 715 = .ok (.if_icmp .eq 864, 3) := by decide +kernel
theorem dL_law_720 : decode cL_law 720 = .ok (.aload_n 1, 1) := by decide +kernel
theorem dL_law_721 : decode cL_law 721 = .ok (.aload_n 0, 1) := by decide +kernel
theorem dL_law_722 : decode cL_law 722 = .ok (.iload_n 3, 1) := by decide +kernel
theorem dL_law_723 : decode cL_law 723 = .ok (.iconst 1, 1) := by decide +kernel
theorem dL_law_724 : decode cL_law 724 = .ok (.iadd, 1) := by decide +kernel
theorem dL_law_725 : decode cL_law 725 = .ok (.iaload, 1) := by decide +kernel
theorem dL_law_726 : decode cL_law 726 = .ok (.aload_n 0, 1) := by decide +kernel
theorem dL_law_727 : decode cL_law 727 = .ok (.iload_n 3, 1) := by decide +kernel
theorem dL_law_728 : decode cL_law 728 = .ok (.iconst 2, 1) := by decide +kernel
theorem dL_law_729 : decode cL_law 729 = .ok (.iadd, 1) := by decide +kernel
theorem dL_law_730 : decode cL_law 730 = .ok (.iaload, 1) := by decide +kernel
theorem dL_law_731 : decode cL_law 731 = .ok (.aload_n 0, 1) := by decide +kernel
theorem dL_law_732 : decode cL_law 732 = .ok (.iload_n 3, 1) := by decide +kernel
theorem dL_law_733 : decode cL_law 733 = .ok (.iconst 3, 1) := by decide +kernel
theorem dL_law_734 : decode cL_law 734 = .ok (.iadd, 1) := by decide +kernel
theorem dL_law_735 : decode cL_law 735 = .ok (.iaload, 1) := by decide +kernel
theorem dL_law_736 : decode cL_law 736 = .ok (.invokevirtual 73, 3) := by decide +kernel
theorem dL_law_739 : decode cL_law 739 = .ok (.aload_n 2, 1) := by decide +kernel
theorem dL_law_740 : decode cL_law 740 = .ok (.aload_n 0, 1) := by decide +kernel
theorem dL_law_741 : decode cL_law 741 = .ok (.iload_n 3, 1) := by decide +kernel
theorem dL_law_742 : decode cL_law 742 = .ok (.iconst 1, 1) := by decide +kernel
theorem dL_law_743 : decode cL_law 743 = .ok (.iadd, 1) := by decide +kernel
theorem dL_law_744 : decode cL_law 744 = .ok (.iaload, 1) := by decide +kernel
theorem dL_law_745 : decode cL_law 745 = .ok (.aload_n 0, 1) := by decide +kernel
theorem dL_law_746 : decode cL_law 746 = .ok (.iload_n 3, 1) := by decide +kernel
theorem dL_law_747 : decode cL_law 747 = .ok (.iconst 2, 1) := by decide +kernel
theorem dL_law_748 : decode cL_law 748 = .ok (.iadd, 1) := by decide +kernel
theorem dL_law_749 : decode cL_law 749 = .ok (.iaload, 1) := by decide +kernel
theorem dL_law_750 : decode cL_law 750 = .ok (.aload_n 0, 1) := by decide +kernel
theorem dL_law_751 : decode cL_law 751 = .ok (.iload_n 3, 1) := by decide +kernel
theorem dL_law_752 : decode cL_law 752 = .ok (.iconst 3, 1) := by decide +kernel
theorem dL_law_753 : decode cL_law 753 = .ok (.iadd, 1) := by decide +kernel
theorem dL_law_754 : decode cL_law 754 = .ok (.iaload, 1) := by decide +kernel
theorem dL_law_755 : decode cL_law 755 = .ok (.invokevirtual 76, 3) := by decide +kernel
theorem dL_law_758 : decode cL_law 758 = .ok (.if_icmp .eq 821, 3) := by decide +kernel
theorem dL_law_763 : decode cL_law 763 = .ok (.aload_n 1, 1) := by decide +kernel
theorem dL_law_764 : decode cL_law 764 = .ok (.aload_n 0, 1) := by decide +kernel
theorem dL_law_765 : decode cL_law 765 = .ok (.iload_n 3, 1) := by decide +kernel
theorem dL_law_766 : decode cL_law 766 = .ok (.iconst 1, 1) := by decide +kernel
theorem dL_law_767 : decode cL_law 767 = .ok (.iadd, 1) := by decide +kernel
theorem dL_law_768 : decode cL_law 768 = .ok (.iaload, 1) := by decide +kernel
theorem dL_law_769 : decode cL_law 769 = .ok (.aload_n 0, 1) := by decide +kernel
theorem dL_law_770 : decode cL_law 770 = .ok (.iload_n 3, 1) := by decide +kernel
theorem dL_law_771 : decode cL_law 771 = .ok (.iconst 2, 1) := by decide +kernel
theorem dL_law_772 : decode cL_law 772 = .ok (.iadd, 1) := by decide +kernel
theorem dL_law_773 : decode cL_law 773 = .ok (.iaload, 1) := by decide +kernel
theorem dL_law_774 : decode cL_law 774 = .ok (.aload_n 0, 1) := by decide +kernel
theorem dL_law_775 : decode cL_law 775 = .ok (.iload_n 3, 1) := by decide +kernel
theorem dL_law_776 : decode cL_law 776 = .ok (.iconst 3, 1) := by decide +kernel
theorem dL_law_777 : decode cL_law 777 = .ok (.iadd, 1) := by decide +kernel
theorem dL_law_778 : decode cL_law 778 = .ok (.iaload, 1) := by decide +kernel
theorem dL_law_779 : decode cL_law 779 = .ok (.invokevirtual 77, 3) := by decide +kernel
theorem dL_law_782 : decode cL_law 782 = .ok (.aload_n 2, 1) := by decide +kernel
theorem dL_law_783 : decode cL_law 783 = .ok (.aload_n 0, 1) := by decide +kernel
theorem dL_law_784 : decode cL_law 784 = .ok (.iload_n 3, 1) := by decide +kernel
theorem dL_law_785 : decode cL_law 785 = .ok (.iconst 1, 1) := by decide +kernel
theorem dL_law_786 : decode cL_law 786 = .ok (.iadd, 1) := by decide +kernel
theorem dL_law_787 : decode cL_law 787 = .ok (.iaload, 1) := by decide +kernel
theorem dL_law_788 : decode cL_law 788 = .ok (.aload_n 0, 1) := by decide +kernel
theorem dL_law_789 : decode cL_law 789 = .ok (.iload_n 3, 1) := by decide +kernel
theorem dL_law_790 : decode cL_law 790 = .ok (.iconst 2, 1) := by decide +kernel
theorem dL_law_791 : decode cL_law 791 = .ok (.iadd, 1) := by decide +kernel
theorem dL_law_792 : decode cL_law 792 = .ok (.iaload, 1) := by decide +kernel
theorem dL_law_793 : decode cL_law 793 = .ok (.aload_n 0, 1) := by decide +kernel
theorem dL_law_794 : decode cL_law 794 = .ok (.iload_n 3, 1) := by decide +kernel
theorem dL_law_795 : decode cL_law 795 = .ok (.iconst 3, 1) := by decide +kernel
theorem dL_law_796 : decode cL_law 796 = .ok (.iadd, 1) := by decide +kernel
theorem dL_law_797 : decode cL_law 797 = .ok (.iaload, 1) := by decide +kernel
theorem dL_law_798 : decode cL_law 798 = .ok (.invokevirtual 80, 3) := by decide +kernel
theorem dL_law_801 : decode cL_law 801 = .ok (.if_icmp .eq 778, 3) := by decide +kernel
theorem dL_law_806 : decode cL_law 806 = .ok (.aload_n 1, 1) := by decide +kernel
theorem dL_law_807 : decode cL_law 807 = .ok (.aload_n 0, 1) := by decide +kernel
theorem dL_law_808 : decode cL_law 808 = .ok (.iload_n 3, 1) := by decide +kernel
theorem dL_law_809 : decode cL_law 809 = .ok (.iconst 1, 1) := by decide +kernel
theorem dL_law_810 : decode cL_law 810 = .ok (.iadd, 1) := by decide +kernel
theorem dL_law_811 : decode cL_law 811 = .ok (.iaload, 1) := by decide +kernel
theorem dL_law_812 : decode cL_law 812 = .ok (.invokevirtual 81, 3) := by decide +kernel
theorem dL_law_815 : decode cL_law 815 = .ok (.aload_n 2, 1) := by decide +kernel
theorem dL_law_816 : decode cL_law 816 = .ok (.aload_n 0, 1) := by decide +kernel
theorem dL_law_817 : decode cL_law 817 = .ok (.iload_n 3, 1) := by decide +kernel
theorem dL_law_818 : decode cL_law 818 = .ok (.iconst 1, 1) := by decide +kernel
theorem dL_law_819 : decode cL_law 819 = .ok (.iadd, 1) := by decide +kernel
theorem dL_law_820 : decode cL_law 820 = .ok (.iaload, 1) := by decide +kernel
theorem dL_law_821 : decode cL_law 821 = .ok (.invokevirtual 84, 3) := by decide +kernel
theorem dL_law_824 : decode cL_law 824 = .ok (.if_icmp .eq 755, 3) := by decide +kernel
theorem dL_law_829 : decode cL_law 829 = .ok (.aload_n 1, 1) := by decide +kernel
theorem dL_law_830 : decode cL_law 830 = .ok (.aload_n 0, 1) := by decide +kernel
theorem dL_law_831 : decode cL_law 831 = .ok (.iload_n 3, 1) := by decide +kernel
theorem dL_law_832 : decode cL_law 832 = .ok (.iconst 1, 1) := by decide +kernel
theorem dL_law_833 : decode cL_law 833 = .ok (.iadd, 1) := by decide +kernel
theorem dL_law_834 : decode cL_law 834 = .ok (.iaload, 1) := by decide +kernel
theorem dL_law_835 : decode cL_law 835 = .ok (.aload_n 0, 1) := by decide +kernel
theorem dL_law_836 : decode cL_law 836 = .ok (.iload_n 3, 1) := by decide +kernel
theorem dL_law_837 : decode cL_law 837 = .ok (.iconst 2, 1) := by decide +kernel
theorem dL_law_838 : decode cL_law 838 = .ok (.iadd, 1) := by decide +kernel
theorem dL_law_839 : decode cL_law 839 = .ok (.iaload, 1) := by decide +kernel
theorem dL_law_840 : decode cL_law 840 = .ok (.aload_n 0, 1) := by decide +kernel
theorem dL_law_841 : decode cL_law 841 = .ok (.iload_n 3, 1) := by decide +kernel
theorem dL_law_842 : decode cL_law 842 = .ok (.iconst 3, 1) := by decide +kernel
theorem dL_law_843 : decode cL_law 843 = .ok (.iadd, 1) := by decide +kernel
theorem dL_law_844 : decode cL_law 844 = .ok (.iaload, 1) := by decide +kernel
theorem dL_law_845 : decode cL_law 845 = .ok (.invokevirtual 85, 3) := by decide +kernel
theorem dL_law_848 : decode cL_law 848 = .ok (.aload_n 2, 1) := by decide +kernel
theorem dL_law_849 : decode cL_law 849 = .ok (.aload_n 0, 1) := by decide +kernel
theorem dL_law_850 : decode cL_law 850 = .ok (.iload_n 3, 1) := by decide +kernel
theorem dL_law_851 : decode cL_law 851 = .ok (.iconst 1, 1) := by decide +kernel
theorem dL_law_852 : decode cL_law 852 = .ok (.iadd, 1) := by decide +kernel
theorem dL_law_853 : decode cL_law 853 = .ok (.iaload, 1) := by decide +kernel
theorem dL_law_854 : decode cL_law 854 = .ok (.aload_n 0, 1) := by decide +kernel
theorem dL_law_855 : decode cL_law 855 = .ok (.iload_n 3, 1) := by decide +kernel
theorem dL_law_856 : decode cL_law 856 = .ok (.iconst 2, 1) := by decide +kernel
theorem dL_law_857 : decode cL_law 857 = .ok (.iadd, 1) := by decide +kernel
theorem dL_law_858 : decode cL_law 858 = .ok (.iaload, 1) := by decide +kernel
theorem dL_law_859 : decode cL_law 859 = .ok (.aload_n 0, 1) := by decide +kernel
theorem dL_law_860 : decode cL_law 860 = .ok (.iload_n 3, 1) := by decide +kernel
theorem dL_law_861 : decode cL_law 861 = .ok (.iconst 3, 1) := by decide +kernel
theorem dL_law_862 : decode cL_law 862 = .ok (.iadd, 1) := by decide +kernel
theorem dL_law_863 : decode cL_law 863 = .ok (.iaload, 1) := by decide +kernel
theorem dL_law_864 : decode cL_law 864 = .ok (.invokevirtual 88, 3) := by decide +kernel
theorem dL_law_867 : decode cL_law 867 = .ok (.if_icmp .eq 712, 3) := by decide +kernel
theorem dL_law_872 : decode cL_law 872 = .ok (.aload_n 1, 1) := by decide +kernel
theorem dL_law_873 : decode cL_law 873 = .ok (.aload_n 0, 1) := by decide +kernel
theorem dL_law_874 : decode cL_law 874 = .ok (.iload_n 3, 1) := by decide +kernel
theorem dL_law_875 : decode cL_law 875 = .ok (.iconst 1, 1) := by decide +kernel
theorem dL_law_876 : decode cL_law 876 = .ok (.iadd, 1) := by decide +kernel
theorem dL_law_877 : decode cL_law 877 = .ok (.iaload, 1) := by decide +kernel
theorem dL_law_878 : decode cL_law 878 = .ok (.aload_n 0, 1) := by decide +kernel
theorem dL_law_879 : decode cL_law 879 = .ok (.iload_n 3, 1) := by decide +kernel
theorem dL_law_880 : decode cL_law 880 = .ok (.iconst 2, 1) := by decide +kernel
theorem dL_law_881 : decode cL_law 881 = .ok (.iadd, 1) := by decide +kernel
theorem dL_law_882 : decode cL_law 882 = .ok (.iaload, 1) := by decide +kernel
theorem dL_law_883 : decode cL_law 883 = .ok (.aload_n 0, 1) := by decide +kernel
theorem dL_law_884 : decode cL_law 884 = .ok (.iload_n 3, 1) := by decide +kernel
theorem dL_law_885 : decode cL_law 885 = .ok (.iconst 3, 1) := by decide +kernel
theorem dL_law_886 : decode cL_law 886 = .ok (.iadd, 1) := by decide +kernel
theorem dL_law_887 : decode cL_law 887 = .ok (.iaload, 1) := by decide +kernel
theorem dL_law_888 : decode cL_law 888 = .ok (.invokevirtual 89, 3) := by decide +kernel
theorem dL_law_891 : decode cL_law 891 = .ok (.aload_n 2, 1) := by decide +kernel
theorem dL_law_892 : decode cL_law 892 = .ok (.aload_n 0, 1) := by decide +kernel
theorem dL_law_893 : decode cL_law 893 = .ok (.iload_n 3, 1) := by decide +kernel
theorem dL_law_894 : decode cL_law 894 = .ok (.iconst 1, 1) := by decide +kernel
theorem dL_law_895 : decode cL_law 895 = .ok (.iadd, 1) := by decide +kernel
theorem dL_law_896 : decode cL_law 896 = .ok (.iaload, 1) := by decide +kernel
theorem dL_law_897 : decode cL_law 897 = .ok (.aload_n 0, 1) := by decide +kernel
theorem dL_law_898 : decode cL_law 898 = .ok (.iload_n 3, 1) := by decide +kernel
theorem dL_law_899 : decode cL_law 899 = .ok (.iconst 2, 1) := by decide +kernel
theorem dL_law_900 : decode cL_law 900 = .ok (.iadd, 1) := by decide +kernel
theorem dL_law_901 : decode cL_law 901 = .ok (.iaload, 1) := by decide +kernel
theorem dL_law_902 : decode cL_law 902 = .ok (.aload_n 0, 1) := by decide +kernel
theorem dL_law_903 : decode cL_law 903 = .ok (.iload_n 3, 1) := by decide +kernel
theorem dL_law_904 : decode cL_law 904 = .ok (.iconst 3, 1) := by decide +kernel
theorem dL_law_905 : decode cL_law 905 = .ok (.iadd, 1) := by decide +kernel
theorem dL_law_906 : decode cL_law 906 = .ok (.iaload, 1) := by decide +kernel
theorem dL_law_907 : decode cL_law 907 = .ok (.invokevirtual 92, 3) := by decide +kernel
theorem dL_law_910 : decode cL_law 910 = .ok (.if_icmp .eq 669, 3) := by decide +kernel
theorem dL_law_915 : decode cL_law 915 = .ok (.aload_n 1, 1) := by decide +kernel
theorem dL_law_916 : decode cL_law 916 = .ok (.aload_n 0, 1) := by decide +kernel
theorem dL_law_917 : decode cL_law 917 = .ok (.iload_n 3, 1) := by decide +kernel
theorem dL_law_918 : decode cL_law 918 = .ok (.iconst 1, 1) := by decide +kernel
theorem dL_law_919 : decode cL_law 919 = .ok (.iadd, 1) := by decide +kernel
theorem dL_law_920 : decode cL_law 920 = .ok (.iaload, 1) := by decide +kernel
theorem dL_law_921 : decode cL_law 921 = .ok (.aload_n 0, 1) := by decide +kernel
theorem dL_law_922 : decode cL_law 922 = .ok (.iload_n 3, 1) := by decide +kernel
theorem dL_law_923 : decode cL_law 923 = .ok (.iconst 2, 1) := by decide +kernel
theorem dL_law_924 : decode cL_law 924 = .ok (.iadd, 1) := by decide +kernel
theorem dL_law_925 : decode cL_law 925 = .ok (.iaload, 1) := by decide +kernel
theorem dL_law_926 : decode cL_law 926 = .ok (.aload_n 0, 1) := by decide +kernel
theorem dL_law_927 : decode cL_law 927 = .ok (.iload_n 3, 1) := by decide +kernel
theorem dL_law_928 : decode cL_law 928 = .ok (.iconst 3, 1) := by decide +kernel
theorem dL_law_929 : decode cL_law 929 = .ok (.iadd, 1) := by decide +kernel
theorem dL_law_930 : decode cL_law 930 = .ok (.iaload, 1) := by decide +kernel
theorem dL_law_931 : decode cL_law 931 = .ok (.invokevirtual 93, 3) := by decide +kernel
theorem dL_law_934 : decode cL_law 934 = .ok (.aload_n 2, 1) := by decide +kernel
theorem dL_law_935 : decode cL_law 935 = .ok (.aload_n 0, 1) := by decide +kernel
theorem dL_law_936 : decode cL_law 936 = .ok (.iload_n 3, 1) := by decide +kernel
theorem dL_law_937 : decode cL_law 937 = .ok (.iconst 1, 1) := by decide +kernel
theorem dL_law_938 : decode cL_law 938 = .ok (.iadd, 1) := by decide +kernel
theorem dL_law_939 : decode cL_law 939 = .ok (.iaload, 1) := by decide +kernel
theorem dL_law_940 : decode cL_law 940 = .ok (.aload_n 0, 1) := by decide +kernel
theorem dL_law_941 : decode cL_law 941 = .ok (.iload_n 3, 1) := by decide +kernel
theorem dL_law_942 : decode cL_law 942 = .ok (.iconst 2, 1) := by decide +kernel
theorem dL_law_943 : decode cL_law 943 = .ok (.iadd, 1) := by decide +kernel
theorem dL_law_944 : decode cL_law 944 = .ok (.iaload, 1) := by decide +kernel
theorem dL_law_945 : decode cL_law 945 = .ok (.aload_n 0, 1) := by decide +kernel
theorem dL_law_946 : decode cL_law 946 = .ok (.iload_n 3, 1) := by decide +kernel
theorem dL_law_947 : decode cL_law 947 = .ok (.iconst 3, 1) := by decide +kernel
theorem dL_law_948 : decode cL_law 948 = .ok (.iadd, 1) := by decide +kernel
theorem dL_law_949 : decode cL_law 949 = .ok (.iaload, 1) := by decide +kernel
theorem dL_law_950 : decode cL_law 950 = .ok (.invokevirtual 96, 3) := by decide +kernel
theorem dL_law_953 : decode cL_law 953 = .ok (.if_icmp .eq 626, 3) := by decide +kernel
theorem dL_law_958 : decode cL_law 958 = .ok (.aload_n 1, 1) := by decide +kernel
theorem dL_law_959 : decode cL_law 959 = .ok (.aload_n 0, 1) := by decide +kernel
theorem dL_law_960 : decode cL_law 960 = .ok (.iload_n 3, 1) := by decide +kernel
theorem dL_law_961 : decode cL_law 961 = .ok (.iconst 1, 1) := by decide +kernel
theorem dL_law_962 : decode cL_law 962 = .ok (.iadd, 1) := by decide +kernel
theorem dL_law_963 : decode cL_law 963 = .ok (.iaload, 1) := by decide +kernel
theorem dL_law_964 : decode cL_law 964 = .ok (.aload_n 0, 1) := by decide +kernel
theorem dL_law_965 : decode cL_law 965 = .ok (.iload_n 3, 1) := by decide +kernel
theorem dL_law_966 : decode cL_law 966 = .ok (.iconst 2, 1) := by decide +kernel
theorem dL_law_967 : decode cL_law 967 = .ok (.iadd, 1) := by decide +kernel
theorem dL_law_968 : decode cL_law 968 = .ok (.iaload, 1) := by decide +kernel
theorem dL_law_969 : decode cL_law 969 = .ok (.invokevirtual 97, 3) := by decide +kernel
theorem dL_law_972 : decode cL_law 972 = .ok (.aload_n 2, 1) := by decide +kernel
theorem dL_law_973 : decode cL_law 973 = .ok (.aload_n 0, 1) := by decide +kernel
theorem dL_law_974 : decode cL_law 974 = .ok (.iload_n 3, 1) := by decide +kernel
theorem dL_law_975 : decode cL_law 975 = .ok (.iconst 1, 1) := by decide +kernel
theorem dL_law_976 : decode cL_law 976 = .ok (.iadd, 1) := by decide +kernel
theorem dL_law_977 : decode cL_law 977 = .ok (.iaload, 1) := by decide +kernel
theorem dL_law_978 : decode cL_law 978 = .ok (.aload_n 0, 1) := by decide +kernel
theorem dL_law_979 : decode cL_law 979 = .ok (.iload_n 3, 1) := by decide +kernel
theorem dL_law_980 : decode cL_law 980 = .ok (.iconst 2, 1) := by decide +kernel
theorem dL_law_981 : decode cL_law 981 = .ok (.iadd, 1) := by decide +kernel
theorem dL_law_982 : decode cL_law 982 = .ok (.iaload, 1) := by decide +kernel
theorem dL_law_983 : decode cL_law 983 = .ok (.invokevirtual 100, 3) := by decide +kernel
theorem dL_law_986 : decode cL_law 986 = .ok (.if_icmp .eq 593, 3) := by decide +kernel
theorem dL_law_991 : decode cL_law 991 = .ok (.aload_n 1, 1) := by decide +kernel
theorem dL_law_992 : decode cL_law 992 = .ok (.aload_n 0, 1) := by decide +kernel
theorem dL_law_993 : decode cL_law 993 = .ok (.iload_n 3, 1) := by decide +kernel
theorem dL_law_994 : decode cL_law 994 = .ok (.iconst 1, 1) := by decide +kernel
theorem dL_law_995 : decode cL_law 995 = .ok (.iadd, 1) := by decide +kernel
theorem dL_law_996 : decode cL_law 996 = .ok (.iaload, 1) := by decide +kernel
theorem dL_law_997 : decode cL_law 997 = .ok (.aload_n 0, 1) := by decide +kernel
theorem dL_law_998 : decode cL_law 998 = .ok (.iload_n 3, 1) := by decide +kernel
theorem dL_law_999 : decode cL_law 999 = .ok (.iconst 2, 1) := by decide +kernel
theorem dL_law_1000 : decode cL_law 1000 = .ok (.iadd, 1) := by decide +kernel
theorem dL_law_1001 : decode cL_law 1001 = .ok (.iaload, 1) := by decide +kernel
theorem dL_law_1002 : decode cL_law 1002 = .ok (.aload_n 0, 1) := by decide +kernel
theorem dL_law_1003 : decode cL_law 1003 = .ok (.iload_n 3, 1) := by decide +kernel
theorem dL_law_1004 : decode cL_law 1004 = .ok (.iconst 3, 1) := by decide +kernel
theorem dL_law_1005 : decode cL_law 1005 = .ok (.iadd, 1) := by decide +kernel
theorem dL_law_1006 : decode cL_law 1006 = .ok (.iaload, 1) := by decide +kernel
theorem dL_law_1007 : decode cL_law 1007 = .ok (.aload_n 0, 1) := by decide +kernel
theorem dL_law_1008 : decode cL_law 1008 = .ok (.iload_n 3, 1) := by decide +kernel
theorem dL_law_1009 : decode cL_law 1009 = .ok (.iconst 4, 1) := by decide +kernel
theorem dL_law_1010 : decode cL_law 1010 = .ok (.iadd, 1) := by decide +kernel
theorem dL_law_1011 : decode cL_law 1011 = .ok (.iaload, 1) := by decide +kernel
theorem dL_law_1012 : decode cL_law 1012 = .ok (.invokevirtual 101, 3) := by decide +kernel
theorem dL_law_1015 : decode cL_law 1015 = .ok (.aload_n 2, 1) := by decide +kernel
theorem dL_law_1016 : decode cL_law 1016 = .ok (.aload_n 0, 1) := by decide +kernel
theorem dL_law_1017 : decode cL_law 1017 = .ok (.iload_n 3, 1) := by decide +kernel
theorem dL_law_1018 : decode cL_law 1018 = .ok (.iconst 1, 1) := by decide +kernel
theorem dL_law_1019 : decode cL_law 1019 = .ok (.iadd, 1) := by decide +kernel
theorem dL_law_1020 : decode cL_law 1020 = .ok (.iaload, 1) := by decide +kernel
theorem dL_law_1021 : decode cL_law 1021 = .ok (.aload_n 0, 1) := by decide +kernel
theorem dL_law_1022 : decode cL_law 1022 = .ok (.iload_n 3, 1) := by decide +kernel
theorem dL_law_1023 : decode cL_law 1023 = .ok (.iconst 2, 1) := by decide +kernel
theorem dL_law_1024 : decode cL_law 1024 = .ok (.iadd, 1) := by decide +kernel
theorem dL_law_1025 : decode cL_law 1025 = .ok (.iaload, 1) := by decide +kernel
theorem dL_law_1026 : decode cL_law 1026 = .ok (.aload_n 0, 1) := by decide +kernel
theorem dL_law_1027 : decode cL_law 1027 = .ok (.iload_n 3, 1) := by decide +kernel
theorem dL_law_1028 : decode cL_law 1028 = .ok (.iconst 3, 1) := by decide +kernel
theorem dL_law_1029 : decode cL_law 1029 = .ok (.iadd, 1) := by decide +kernel
theorem dL_law_1030 : decode cL_law 1030 = .ok (.iaload, 1) := by decide +kernel
theorem dL_law_1031 : decode cL_law 1031 = .ok (.aload_n 0, 1) := by decide +kernel
theorem dL_law_1032 : decode cL_law 1032 = .ok (.iload_n 3, 1) := by decide +kernel
theorem dL_law_1033 : decode cL_law 1033 = .ok (.iconst 4, 1) := by decide +kernel
theorem dL_law_1034 : decode cL_law 1034 = .ok (.iadd, 1) := by decide +kernel
theorem dL_law_1035 : decode cL_law 1035 = .ok (.iaload, 1) := by decide +kernel
theorem dL_law_1036 : decode cL_law 1036 = .ok (.invokevirtual 105, 3) := by decide +kernel
theorem dL_law_1039 : decode cL_law 1039 = .ok (.if_icmp .eq 540, 3) := by decide +kernel
theorem dL_law_1044 : decode cL_law 1044 = .ok (.aload_n 1, 1) := by decide +kernel
theorem dL_law_1045 : decode cL_law 1045 = .ok (.aload_n 0, 1) := by decide +kernel
theorem dL_law_1046 : decode cL_law 1046 = .ok (.iload_n 3, 1) := by decide +kernel
theorem dL_law_1047 : decode cL_law 1047 = .ok (.iconst 1, 1) := by decide +kernel
theorem dL_law_1048 : decode cL_law 1048 = .ok (.iadd, 1) := by decide +kernel
theorem dL_law_1049 : decode cL_law 1049 = .ok (.iaload, 1) := by decide +kernel
theorem dL_law_1050 : decode cL_law 1050 = .ok (.invokevirtual 106, 3) := by decide +kernel
theorem dL_law_1053 : decode cL_law 1053 = .ok (.aload_n 2, 1) := by decide +kernel
theorem dL_law_1054 : decode cL_law 1054 = .ok (.aload_n 0, 1) := by decide +kernel
theorem dL_law_1055 : decode cL_law 1055 = .ok (.iload_n 3, 1) := by decide +kernel
theorem dL_law_1056 : decode cL_law 1056 = .ok (.iconst 1, 1) := by decide +kernel
theorem dL_law_1057 : decode cL_law 1057 = .ok (.iadd, 1) := by decide +kernel
theorem dL_law_1058 : decode cL_law 1058 = .ok (.iaload, 1) := by decide +kernel
theorem dL_law_1059 : decode cL_law 1059 = .ok (.invokevirtual 109, 3) := by decide +kernel
theorem dL_law_1062 : decode cL_law 1062 = .ok (.if_icmp .eq 517, 3) := by decide +kernel
theorem dL_law_1067 : decode cL_law 1067 = .ok (.aload_n 1, 1) := by decide +kernel
theorem dL_law_1068 : decode cL_law 1068 = .ok (.aload_n 0, 1) := by decide +kernel
theorem dL_law_1069 : decode cL_law 1069 = .ok (.iload_n 3, 1) := by decide +kernel
theorem dL_law_1070 : decode cL_law 1070 = .ok (.iconst 1, 1) := by decide +kernel
theorem dL_law_1071 : decode cL_law 1071 = .ok (.iadd, 1) := by decide +kernel
theorem dL_law_1072 : decode cL_law 1072 = .ok (.iaload, 1) := by decide +kernel
theorem dL_law_1073 : decode cL_law 1073 = .ok (.aload_n 0, 1) := by decide +kernel
theorem dL_law_1074 : decode cL_law 1074 = .ok (.iload_n 3, 1) := by decide +kernel
theorem dL_law_1075 : decode cL_law 1075 = .ok (.iconst 2, 1) := by decide +kernel
theorem dL_law_1076 : decode cL_law 1076 = .ok (.iadd, 1) := by decide +kernel
theorem dL_law_1077 : decode cL_law 1077 = .ok (.iaload, 1) := by decide +kernel
theorem dL_law_1078 : decode cL_law 1078 = .ok (.invokevirtual 110, 3) := by decide +kernel
theorem dL_law_1081 : decode cL_law 1081 = .ok (.aload_n 2, 1) := by decide +kernel
theorem dL_law_1082 : decode cL_law 1082 = .ok (.aload_n 0, 1) := by decide +kernel
theorem dL_law_1083 : decode cL_law 1083 = .ok (.iload_n 3, 1) := by decide +kernel
theorem dL_law_1084 : decode cL_law 1084 = .ok (.iconst 1, 1) := by decide +kernel
theorem dL_law_1085 : decode cL_law 1085 = .ok (.iadd, 1) := by decide +kernel
theorem dL_law_1086 : decode cL_law 1086 = .ok (.iaload, 1) := by decide +kernel
theorem dL_law_1087 : decode cL_law 1087 = .ok (.aload_n 0, 1) := by decide +kernel
theorem dL_law_1088 : decode cL_law 1088 = .ok (.iload_n 3, 1) := by decide +kernel
theorem dL_law_1089 : decode cL_law 1089 = .ok (.iconst 2, 1) := by decide +kernel
theorem dL_law_1090 : decode cL_law 1090 = .ok (.iadd, 1) := by decide +kernel
theorem dL_law_1091 : decode cL_law 1091 = .ok (.iaload, 1) := by decide +kernel
theorem dL_law_1092 : decode cL_law 1092 = .ok (.invokevirtual 113, 3) := by decide +kernel
theorem dL_law_1095 : decode cL_law 1095 = .ok (.if_icmp .eq 484, 3) := by decide +kernel
theorem dL_law_1100 : decode cL_law 1100 = .ok (.aload_n 1, 1) := by decide +kernel
theorem dL_law_1101 : decode cL_law 1101 = .ok (.invokevirtual 114, 3) := by decide +kernel
theorem dL_law_1104 : decode cL_law 1104 = .ok (.aload_n 2, 1) := by decide +kernel
theorem dL_law_1105 : decode cL_law 1105 = .ok (.invokevirtual 117, 3) := by decide +kernel
theorem dL_law_1108 : decode cL_law 1108 = .ok (.if_icmp .eq 471, 3) := by decide +kernel
theorem dL_law_1113 : decode cL_law 1113 = .ok (.aload_n 1, 1) := by decide +kernel
theorem dL_law_1114 : decode cL_law 1114 = .ok (.aload_n 0, 1) := by decide +kernel
theorem dL_law_1115 : decode cL_law 1115 = .ok (.iload_n 3, 1) := by decide +kernel
theorem dL_law_1116 : decode cL_law 1116 = .ok (.iconst 1, 1) := by decide +kernel
theorem dL_law_1117 : decode cL_law 1117 = .ok (.iadd, 1) := by decide +kernel
theorem dL_law_1118 : decode cL_law 1118 = .ok (.iaload, 1) := by decide +kernel
theorem dL_law_1119 : decode cL_law 1119 = .ok (.invokevirtual 118, 3) := by decide +kernel
theorem dL_law_1122 : decode cL_law 1122 = .ok (.aload_n 2, 1) := by decide +kernel
theorem dL_law_1123 : decode cL_law 1123 = .ok (.aload_n 0, 1) := by decide +kernel
theorem dL_law_1124 : decode cL_law 1124 = .ok (.iload_n 3, 1) := by decide +kernel
theorem dL_law_1125 : decode cL_law 1125 = .ok (.iconst 1, 1) := by decide +kernel
theorem dL_law_1126 : decode cL_law 1126 = .ok (.iadd, 1) := by decide +kernel
theorem dL_law_1127 : decode cL_law 1127 = .ok (.iaload, 1) := by decide +kernel
theorem dL_law_1128 : decode cL_law 1128 = .ok (.invokevirtual 121, 3) := by decide +kernel
theorem dL_law_1131 : decode cL_law 1131 = .ok (.if_icmp .eq 448, 3) := by decide +kernel
theorem dL_law_1136 : decode cL_law 1136 = .ok (.aload_n 1, 1) := by decide +kernel
theorem dL_law_1137 : decode cL_law 1137 = .ok (.invokevirtual 122, 3) := by decide +kernel
theorem dL_law_1140 : decode cL_law 1140 = .ok (.aload_n 2, 1) := by decide +kernel
theorem dL_law_1141 : decode cL_law 1141 = .ok (.invokevirtual 125, 3) := by decide +kernel
theorem dL_law_1144 : decode cL_law 1144 = .ok (.if_icmp .eq 435, 3) := by decide +kernel
theorem dL_law_1149 : decode cL_law 1149 = .ok (.aload_n 1, 1) := by decide +kernel
theorem dL_law_1150 : decode cL_law 1150 = .ok (.invokevirtual 126, 3) := by decide +kernel
theorem dL_law_1153 : decode cL_law 1153 = .ok (.aload_n 2, 1) := by decide +kernel
theorem dL_law_1154 : decode cL_law 1154 = .ok (.invokevirtual 129, 3) := by decide +kernel
theorem dL_law_1157 : decode cL_law 1157 = .ok (.if_icmp .eq 422, 3) := by decide +kernel
theorem dL_law_1162 : decode cL_law 1162 = .ok (.aload_n 1, 1) := by decide +kernel
theorem dL_law_1163 : decode cL_law 1163 = .ok (.invokevirtual 130, 3) := by decide +kernel
theorem dL_law_1166 : decode cL_law 1166 = .ok (.aload_n 2, 1) := by decide +kernel
theorem dL_law_1167 : decode cL_law 1167 = .ok (.invokevirtual 133, 3) := by decide +kernel
theorem dL_law_1170 : decode cL_law 1170 = .ok (.if_icmp .eq 409, 3) := by decide +kernel
theorem dL_law_1175 : decode cL_law 1175 = .ok (.aload_n 1, 1) := by decide +kernel
theorem dL_law_1176 : decode cL_law 1176 = .ok (.invokevirtual 134, 3) := by decide +kernel
theorem dL_law_1179 : decode cL_law 1179 = .ok (.aload_n 2, 1) := by decide +kernel
theorem dL_law_1180 : decode cL_law 1180 = .ok (.invokevirtual 137, 3) := by decide +kernel
theorem dL_law_1183 : decode cL_law 1183 = .ok (.if_icmp .eq 396, 3) := by decide +kernel
theorem dL_law_1188 : decode cL_law 1188 = .ok (.aload_n 1, 1) := by decide +kernel
theorem dL_law_1189 : decode cL_law 1189 = .ok (.aload_n 0, 1) := by decide +kernel
theorem dL_law_1190 : decode cL_law 1190 = .ok (.iload_n 3, 1) := by decide +kernel
theorem dL_law_1191 : decode cL_law 1191 = .ok (.iconst 1, 1) := by decide +kernel
theorem dL_law_1192 : decode cL_law 1192 = .ok (.iadd, 1) := by decide +kernel
theorem dL_law_1193 : decode cL_law 1193 = .ok (.iaload, 1) := by decide +kernel
theorem dL_law_1194 : decode cL_law 1194 = .ok (.invokevirtual 138, 3) := by decide +kernel
theorem dL_law_1197 : decode cL_law 1197 = .ok (.aload_n 2, 1) := by decide +kernel
theorem dL_law_1198 : decode cL_law 1198 = .ok (.aload_n 0, 1) := by decide +kernel
theorem dL_law_1199 : decode cL_law 1199 = .ok (.iload_n 3, 1) := by decide +kernel
theorem dL_law_1200 : decode cL_law 1200 = .ok (.iconst 1, 1) := by decide +kernel
theorem dL_law_1201 : decode cL_law 1201 = .ok (.iadd, 1) := by decide +kernel
theorem dL_law_1202 : decode cL_law 1202 = .ok (.iaload, 1) := by decide +kernel
theorem dL_law_1203 : decode cL_law 1203 = .ok (.invokevirtual 141, 3) := by decide +kernel
theorem dL_law_1206 : decode cL_law 1206 = .ok (.if_icmp .eq 373, 3) := by decide +kernel
theorem dL_law_1211 : decode cL_law 1211 = .ok (.aload_n 1, 1) := by decide +kernel
theorem dL_law_1212 : decode cL_law 1212 = .ok (.aload_n 0, 1) := by decide +kernel
theorem dL_law_1213 : decode cL_law 1213 = .ok (.iload_n 3, 1) := by decide +kernel
theorem dL_law_1214 : decode cL_law 1214 = .ok (.iconst 1, 1) := by decide +kernel
theorem dL_law_1215 : decode cL_law 1215 = .ok (.iadd, 1) := by decide +kernel
theorem dL_law_1216 : decode cL_law 1216 = .ok (.iaload, 1) := by decide +kernel
theorem dL_law_1217 : decode cL_law 1217 = .ok (.aload_n 0, 1) := by decide +kernel
theorem dL_law_1218 : decode cL_law 1218 = .ok (.iload_n 3, 1) := by decide +kernel
theorem dL_law_1219 : decode cL_law 1219 = .ok (.iconst 2, 1) := by decide +kernel
theorem dL_law_1220 : decode cL_law 1220 = .ok (.iadd, 1) := by decide +kernel
theorem dL_law_1221 : decode cL_law 1221 = .ok (.iaload, 1) := by decide +kernel
theorem dL_law_1222 : decode cL_law 1222 = .ok (.aload_n 0, 1) := by decide +kernel
theorem dL_law_1223 : decode cL_law 1223 = .ok (.iload_n 3, 1) := by decide +kernel
theorem dL_law_1224 : decode cL_law 1224 = .ok (.iconst 3, 1) := by decide +kernel
theorem dL_law_1225 : decode cL_law 1225 = .ok (.iadd, 1) := by decide +kernel
theorem dL_law_1226 : decode cL_law 1226 = .ok (.iaload, 1) := by decide +kernel
theorem dL_law_1227 : decode cL_law 1227 = .ok (.invokevirtual 142, 3) := by decide +kernel
theorem dL_law_1230 : decode cL_law 1230 = .ok (.aload_n 2, 1) := by decide +kernel
theorem dL_law_1231 : decode cL_law 1231 = .ok (.aload_n 0, 1) := by decide +kernel
theorem dL_law_1232 : decode cL_law 1232 = .ok (.iload_n 3, 1) := by decide +kernel
theorem dL_law_1233 : decode cL_law 1233 = .ok (.iconst 1, 1) := by decide +kernel
theorem dL_law_1234 : decode cL_law 1234 = .ok (.iadd, 1) := by decide +kernel
theorem dL_law_1235 : decode cL_law 1235 = .ok (.iaload, 1) := by decide +kernel
theorem dL_law_1236 : decode cL_law 1236 = .ok (.aload_n 0, 1) := by decide +kernel
theorem dL_law_1237 : decode cL_law 1237 = .ok (.iload_n 3, 1) := by decide +kernel
theorem dL_law_1238 : decode cL_law 1238 = .ok (.iconst 2, 1) := by decide +kernel
theorem dL_law_1239 : decode cL_law 1239 = .ok (.iadd, 1) := by decide +kernel
theorem dL_law_1240 : decode cL_law 1240 = .ok (.iaload, 1) := by decide +kernel
theorem dL_law_1241 : decode cL_law 1241 = .ok (.aload_n 0, 1) := by decide +kernel
theorem dL_law_1242 : decode cL_law 1242 = .ok (.iload_n 3, 1) := by decide +kernel
theorem dL_law_1243 : decode cL_law 1243 = .ok (.iconst 3, 1) := by decide +kernel
theorem dL_law_1244 : decode cL_law 1244 = .ok (.iadd, 1) := by decide +kernel
theorem dL_law_1245 : decode cL_law 1245 = .ok (.iaload, 1) := by decide +kernel
theorem dL_law_1246 : decode cL_law 1246 = .ok (.invokevirtual 145, 3) := by decide +kernel
theorem dL_law_1249 : decode cL_law 1249 = .ok (.if_icmp .eq 330, 3) := by decide +kernel
theorem dL_law_1254 : decode cL_law 1254 = .ok (.aload_n 1, 1) := by decide +kernel
theorem dL_law_1255 : decode cL_law 1255 = .ok (.aload_n 0, 1) := by decide +kernel
theorem dL_law_1256 : decode cL_law 1256 = .ok (.iload_n 3, 1) := by decide +kernel
theorem dL_law_1257 : decode cL_law 1257 = .ok (.iconst 1, 1) := by decide +kernel
theorem dL_law_1258 : decode cL_law 1258 = .ok (.iadd, 1) := by decide +kernel
theorem dL_law_1259 : decode cL_law 1259 = .ok (.iaload, 1) := by decide +kernel
theorem dL_law_1260 : decode cL_law 1260 = .ok (.invokevirtual 146, 3) := by decide +kernel
theorem dL_law_1263 : decode cL_law 1263 = .ok (.aload_n 2, 1) := by decide +kernel
theorem dL_law_1264 : decode cL_law 1264 = .ok (.aload_n 0, 1) := by decide +kernel
theorem dL_law_1265 : decode cL_law 1265 = .ok (.iload_n 3, 1) := by decide +kernel
theorem dL_law_1266 : decode cL_law 1266 = .ok (.iconst 1, 1) := by decide +kernel
theorem dL_law_1267 : decode cL_law 1267 = .ok (.iadd, 1) := by decide +kernel
theorem dL_law_1268 : decode cL_law 1268 = .ok (.iaload, 1) := by decide +kernel
theorem dL_law_1269 : decode cL_law 1269 = .ok (.invokevirtual 149, 3) := by decide +kernel
theorem dL_law_1272 : decode cL_law 1272 = .ok (.if_icmp .eq 307, 3) := by decide +kernel
theorem dL_law_1277 : decode cL_law 1277 = .ok (.aload_n 1, 1) := by decide +kernel
theorem dL_law_1278 : decode cL_law 1278 = .ok (.aload_n 0, 1) := by decide +kernel
theorem dL_law_1279 : decode cL_law 1279 = .ok (.iload_n 3, 1) := by decide +kernel
theorem dL_law_1280 : decode cL_law 1280 = .ok (.iconst 1, 1) := by decide +kernel
theorem dL_law_1281 : decode cL_law 1281 = .ok (.iadd, 1) := by decide +kernel
theorem dL_law_1282 : decode cL_law 1282 = .ok (.iaload, 1) := by decide +kernel
theorem dL_law_1283 : decode cL_law 1283 = .ok (.aload_n 0, 1) := by decide +kernel
theorem dL_law_1284 : decode cL_law 1284 = .ok (.iload_n 3, 1) := by decide +kernel
theorem dL_law_1285 : decode cL_law 1285 = .ok (.iconst 2, 1) := by decide +kernel
theorem dL_law_1286 : decode cL_law 1286 = .ok (.iadd, 1) := by decide +kernel
theorem dL_law_1287 : decode cL_law 1287 = .ok (.iaload, 1) := by decide +kernel
theorem dL_law_1288 : decode cL_law 1288 = .ok (.invokevirtual 150, 3) := by decide +kernel
theorem dL_law_1291 : decode cL_law 1291 = .ok (.aload_n 2, 1) := by decide +kernel
theorem dL_law_1292 : decode cL_law 1292 = .ok (.aload_n 0, 1) := by decide +kernel
theorem dL_law_1293 : decode cL_law 1293 = .ok (.iload_n 3, 1) := by decide +kernel
theorem dL_law_1294 : decode cL_law 1294 = .ok (.iconst 1, 1) := by decide +kernel
theorem dL_law_1295 : decode cL_law 1295 = .ok (.iadd, 1) := by decide +kernel
theorem dL_law_1296 : decode cL_law 1296 = .ok (.iaload, 1) := by decide +kernel
theorem dL_law_1297 : decode cL_law 1297 = .ok (.aload_n 0, 1) := by decide +kernel
theorem dL_law_1298 : decode cL_law 1298 = .ok (.iload_n 3, 1) := by decide +kernel
theorem dL_law_1299 : decode cL_law 1299 = .ok (.iconst 2, 1) := by decide +kernel
theorem dL_law_1300 : decode cL_law 1300 = .ok (.iadd, 1) := by decide +kernel
theorem dL_law_1301 : decode cL_law 1301 = .ok (.iaload, 1) := by decide +kernel
theorem dL_law_1302 : decode cL_law 1302 = .ok (.invokevirtual 153, 3) := by decide +kernel
theorem dL_law_1305 : decode cL_law 1305 = .ok (.if_icmp .eq 274, 3) := by decide +kernel
theorem dL_law_1310 : decode cL_law 1310 = .ok (.aload_n 1, 1) := by decide +kernel
theorem dL_law_1311 : decode cL_law 1311 = .ok (.aload_n 0, 1) := by decide +kernel
theorem dL_law_1312 : decode cL_law 1312 = .ok (.iload_n 3, 1) := by decide +kernel
theorem dL_law_1313 : decode cL_law 1313 = .ok (.iconst 1, 1) := by decide +kernel
theorem dL_law_1314 : decode cL_law 1314 = .ok (.iadd, 1) := by decide +kernel
theorem dL_law_1315 : decode cL_law 1315 = .ok (.iaload, 1) := by decide +kernel
theorem dL_law_1316 : decode cL_law 1316 = .ok (.aload_n 0, 1) := by decide +kernel
theorem dL_law_1317 : decode cL_law 1317 = .ok (.iload_n 3, 1) := by decide +kernel
theorem dL_law_1318 : decode cL_law 1318 = .ok (.iconst 2, 1) := by decide +kernel
theorem dL_law_1319 : decode cL_law 1319 = .ok (.iadd, 1) := by decide +kernel
theorem dL_law_1320 : decode cL_law 1320 = .ok (.iaload, 1) := by decide +kernel
theorem dL_law_1321 : decode cL_law 1321 = .ok (.aload_n 0, 1) := by decide +kernel
theorem dL_law_1322 : decode cL_law 1322 = .ok (.iload_n 3, 1) := by decide +kernel
theorem dL_law_1323 : decode cL_law 1323 = .ok (.iconst 3, 1) := by decide +kernel
theorem dL_law_1324 : decode cL_law 1324 = .ok (.iadd, 1) := by decide +kernel
theorem dL_law_1325 : decode cL_law 1325 = .ok (.iaload, 1) := by decide +kernel
theorem dL_law_1326 : decode cL_law 1326 = .ok (.invokevirtual 154, 3) := by decide +kernel
theorem dL_law_1329 : decode cL_law 1329 = .ok (.aload_n 2, 1) := by decide +kernel
theorem dL_law_1330 : decode cL_law 1330 = .ok (.aload_n 0, 1) := by decide +kernel
theorem dL_law_1331 : decode cL_law 1331 = .ok (.iload_n 3, 1) := by decide +kernel
theorem dL_law_1332 : decode cL_law 1332 = .ok (.iconst 1, 1) := by decide +kernel
theorem dL_law_1333 : decode cL_law 1333 = .ok (.iadd, 1) := by decide +kernel
theorem dL_law_1334 : decode cL_law 1334 = .ok (.iaload, 1) := by decide +kernel
theorem dL_law_1335 : decode cL_law 1335 = .ok (.aload_n 0, 1) := by decide +kernel
theorem dL_law_1336 : decode cL_law 1336 = .ok (.iload_n 3, 1) := by decide +kernel
theorem dL_law_1337 : decode cL_law 1337 = .ok (.iconst 2, 1) := by decide +kernel
theorem dL_law_1338 : decode cL_law 1338 = .ok (.iadd, 1) := by decide +kernel
theorem dL_law_1339 : decode cL_law 1339 = .ok (.iaload, 1) := by decide +kernel
theorem dL_law_1340 : decode cL_law 1340 = .ok (.aload_n 0, 1) := by decide +kernel
theorem dL_law_1341 : decode cL_law 1341 = .ok (.iload_n 3, 1) := by decide +kernel
theorem dL_law_1342 : decode cL_law 1342 = .ok (.iconst 3, 1) := by decide +kernel
theorem dL_law_1343 : decode cL_law 1343 = .ok (.iadd, 1) := by decide +kernel
theorem dL_law_1344 : decode cL_law 1344 = .ok (.iaload, 1) := by decide +kernel
theorem dL_law_1345 : decode cL_law 1345 = .ok (.invokevirtual 157, 3) := by decide +kernel
theorem dL_law_1348 : decode cL_law 1348 = .ok (.if_icmp .eq 231, 3) := by decide +kernel
theorem dL_law_1353 : decode cL_law 1353 = .ok (.aload_n 1, 1) := by decide +kernel
theorem dL_law_1354 : decode cL_law 1354 = .ok (.aload_n 0, 1) := by decide +kernel
theorem dL_law_1355 : decode cL_law 1355 = .ok (.iload_n 3, 1) := by decide +kernel
theorem dL_law_1356 : decode cL_law 1356 = .ok (.iconst 1, 1) := by decide +kernel
theorem dL_law_1357 : decode cL_law 1357 = .ok (.iadd, 1) := by decide +kernel
theorem dL_law_1358 : decode cL_law 1358 = .ok (.iaload, 1) := by decide +kernel
theorem dL_law_1359 : decode cL_law 1359 = .ok (.aload_n 0, 1) := by decide +kernel
theorem dL_law_1360 : decode cL_law 1360 = .ok (.iload_n 3, 1) := by decide +kernel
theorem dL_law_1361 : decode cL_law 1361 = .ok (.iconst 2, 1) := by decide +kernel
theorem dL_law_1362 : decode cL_law 1362 = .ok (.iadd, 1) := by decide +kernel
theorem dL_law_1363 : decode cL_law 1363 = .ok (.iaload, 1) := by decide +kernel
theorem dL_law_1364 : decode cL_law 1364 = .ok (.aload_n 0, 1) := by decide +kernel
theorem dL_law_1365 : decode cL_law 1365 = .ok (.iload_n 3, 1) := by decide +kernel
theorem dL_law_1366 : decode cL_law 1366 = .ok (.iconst 3, 1) := by decide +kernel
theorem dL_law_1367 : decode cL_law 1367 = .ok (.iadd, 1) := by decide +kernel
theorem dL_law_1368 : decode cL_law 1368 = .ok (.iaload, 1) := by decide +kernel
theorem dL_law_1369 : decode cL_law 1369 = .ok (.i2l, 1) := by decide +kernel
theorem dL_law_1370 : decode cL_law 1370 = .ok (.bipush 32, 2) := by decide +kernel
theorem dL_law_1372 : decode cL_law 1372 = .ok (.lshl, 1) := by decide +kernel
theorem dL_law_1373 : decode cL_law 1373 = .ok (.aload_n 0, 1) := by decide +kernel
theorem dL_law_1374 : decode cL_law 1374 = .ok (.iload_n 3, 1) := by decide +kernel
theorem dL_law_1375 : decode cL_law 1375 = .ok (.iconst 4, 1) := by decide +kernel
theorem dL_law_1376 : decode cL_law 1376 = .ok (.iadd, 1) := by decide +kernel
theorem dL_law_1377 : decode cL_law 1377 = .ok (.iaload, 1) := by decide +kernel
theorem dL_law_1378 : decode cL_law 1378 = .ok (.i2l, 1) := by decide +kernel
theorem dL_law_1379 : decode cL_law 1379 = .ok (.ldc2_w 158, 3) := by decide +kernel
theorem dL_law_1382 : decode cL_law 1382 = .ok (.land, 1) := by decide +kernel
theorem dL_law_1383 : decode cL_law 1383 = .ok (.lor, 1) := by decide +kernel
theorem dL_law_1384 : decode cL_law 1384 = .ok (.invokevirtual 160, 3) := by decide +kernel
theorem dL_law_1387 : decode cL_law 1387 = .ok (.aload_n 2, 1) := by decide +kernel
theorem dL_law_1388 : decode cL_law 1388 = .ok (.aload_n 0, 1) := by decide +kernel
theorem dL_law_1389 : decode cL_law 1389 = .ok (.iload_n 3, 1) := by decide +kernel
theorem dL_law_1390 : decode cL_law 1390 = .ok (.iconst 1, 1) := by decide +kernel
theorem dL_law_1391 : decode cL_law 1391 = .ok (.iadd, 1) := by decide +kernel
theorem dL_law_1392 : decode cL_law 1392 = .ok (.iaload, 1) := by decide +kernel
theorem dL_law_1393 : decode cL_law 1393 = .ok (.aload_n 0, 1) := by decide +kernel
theorem dL_law_1394 : decode cL_law 1394 = .ok (.iload_n 3, 1) := by decide +kernel
theorem dL_law_1395 : decode cL_law 1395 = .ok (.iconst 2, 1) := by decide +kernel
theorem dL_law_1396 : decode cL_law 1396 = .ok (.iadd, 1) := by decide +kernel
theorem dL_law_1397 : decode cL_law 1397 = .ok (.iaload, 1) := by decide +kernel
theorem dL_law_1398 : decode cL_law 1398 = .ok (.aload_n 0, 1) := by decide +kernel
theorem dL_law_1399 : decode cL_law 1399 = .ok (.iload_n 3, 1) := by decide +kernel
theorem dL_law_1400 : decode cL_law 1400 = .ok (.iconst 3, 1) := by decide +kernel
theorem dL_law_1401 : decode cL_law 1401 = .ok (.iadd, 1) := by decide +kernel
theorem dL_law_1402 : decode cL_law 1402 = .ok (.iaload, 1) := by decide +kernel
theorem dL_law_1403 : decode cL_law 1403 = .ok (.i2l, 1) := by decide +kernel
theorem dL_law_1404 : decode cL_law 1404 = .ok (.bipush 32, 2) := by decide +kernel
theorem dL_law_1406 : decode cL_law 1406 = .ok (.lshl, 1) := by decide +kernel
theorem dL_law_1407 : decode cL_law 1407 = .ok (.aload_n 0, 1) := by decide +kernel
theorem dL_law_1408 : decode cL_law 1408 = .ok (.iload_n 3, 1) := by decide +kernel
theorem dL_law_1409 : decode cL_law 1409 = .ok (.iconst 4, 1) := by decide +kernel
theorem dL_law_1410 : decode cL_law 1410 = .ok (.iadd, 1) := by decide +kernel
theorem dL_law_1411 : decode cL_law 1411 = .ok (.iaload, 1) := by decide +kernel
theorem dL_law_1412 : decode cL_law 1412 = .ok (.i2l, 1) := by decide +kernel
theorem dL_law_1413 : decode cL_law 1413 = .ok (.ldc2_w 158, 3) := by decide +kernel
theorem dL_law_1416 : decode cL_law 1416 = .ok (.land, 1) := by decide +kernel
theorem dL_law_1417 : decode cL_law 1417 = .ok (.lor, 1) := by decide +kernel
theorem dL_law_1418 : decode cL_law 1418 = .ok (.invokevirtual 164, 3) := by decide +kernel
theorem dL_law_1421 : decode cL_law 1421 = .ok (.if_icmp .eq 158, 3) := by decide +kernel
theorem dL_law_1426 : decode cL_law 1426 = .ok (.aload_n 1, 1) := by decide +kernel
theorem dL_law_1427 : decode cL_law 1427 = .ok (.aload_n 0, 1) := by decide +kernel
theorem dL_law_1428 : decode cL_law 1428 = .ok (.iload_n 3, 1) := by decide +kernel
theorem dL_law_1429 : decode cL_law 1429 = .ok (.iconst 1, 1) := by decide +kernel
theorem dL_law_1430 : decode cL_law 1430 = .ok (.iadd, 1) := by decide +kernel
theorem dL_law_1431 : decode cL_law 1431 = .ok (.iaload, 1) := by decide +kernel
theorem dL_law_1432 : decode cL_law 1432 = .ok (.aload_n 0, 1) := by decide +kernel
theorem dL_law_1433 : decode cL_law 1433 = .ok (.iload_n 3, 1) := by decide +kernel
theorem dL_law_1434 : decode cL_law 1434 = .ok (.iconst 2, 1) := by decide +kernel
theorem dL_law_1435 : decode cL_law 1435 = .ok (.iadd, 1) := by decide +kernel
theorem dL_law_1436 : decode cL_law 1436 = .ok (.iaload, 1) := by decide +kernel
theorem dL_law_1437 : decode cL_law 1437 = .ok (.invokevirtual 165, 3) := by decide +kernel
theorem dL_law_1440 : decode cL_law 1440 = .ok (.aload_n 2, 1) := by decide +kernel
theorem dL_law_1441 : decode cL_law 1441 = .ok (.aload_n 0, 1) := by decide +kernel
theorem dL_law_1442 : decode cL_law 1442 = .ok (.iload_n 3, 1) := by decide +kernel
theorem dL_law_1443 : decode cL_law 1443 = .ok (.iconst 1, 1) := by decide +kernel
theorem dL_law_1444 : decode cL_law 1444 = .ok (.iadd, 1) := by decide +kernel
theorem dL_law_1445 : decode cL_law 1445 = .ok (.iaload, 1) := by decide +kernel
theorem dL_law_1446 : decode cL_law 1446 = .ok (.aload_n 0, 1) := by decide +kernel
theorem dL_law_1447 : decode cL_law 1447 = .ok (.iload_n 3, 1) := by decide +kernel
theorem dL_law_1448 : decode cL_law 1448 = .ok (.iconst 2, 1) := by decide +kernel
theorem dL_law_1449 : decode cL_law 1449 = .ok (.iadd, 1) := by decide +kernel
theorem dL_law_1450 : decode cL_law 1450 = .ok (.iaload, 1) := by decide +kernel
theorem dL_law_1451 : decode cL_law 1451 = .ok (.invokevirtual 169, 3) := by decide +kernel
theorem dL_law_1454 : decode cL_law 1454 = .ok (.lcmp, 1) := by decide +kernel
theorem dL_law_1455 : decode cL_law 1455 = .ok (.ifCond .eq 124, 3) := by decide +kernel
theorem dL_law_1460 : decode cL_law 1460 = .ok (.aload_n 1, 1) := by decide +kernel
theorem dL_law_1461 : decode cL_law 1461 = .ok (.aload_n 0, 1) := by decide +kernel
theorem dL_law_1462 : decode cL_law 1462 = .ok (.iload_n 3, 1) := by decide +kernel
theorem dL_law_1463 : decode cL_law 1463 = .ok (.iconst 1, 1) := by decide +kernel
theorem dL_law_1464 : decode cL_law 1464 = .ok (.iadd, 1) := by decide +kernel
theorem dL_law_1465 : decode cL_law 1465 = .ok (.iaload, 1) := by decide +kernel
theorem dL_law_1466 : decode cL_law 1466 = .ok (.aload_n 0, 1) := by decide +kernel
theorem dL_law_1467 : decode cL_law 1467 = .ok (.iload_n 3, 1) := by decide +kernel
theorem dL_law_1468 : decode cL_law 1468 = .ok (.iconst 2, 1) := by decide +kernel
theorem dL_law_1469 : decode cL_law 1469 = .ok (.iadd, 1) := by decide +kernel
theorem dL_law_1470 : decode cL_law 1470 = .ok (.iaload, 1) := by decide +kernel
theorem dL_law_1471 : decode cL_law 1471 = .ok (.aload_n 0, 1) := by decide +kernel
theorem dL_law_1472 : decode cL_law 1472 = .ok (.iload_n 3, 1) := by decide +kernel
theorem dL_law_1473 : decode cL_law 1473 = .ok (.iconst 3, 1) := by decide +kernel
theorem dL_law_1474 : decode cL_law 1474 = .ok (.iadd, 1) := by decide +kernel
theorem dL_law_1475 : decode cL_law 1475 = .ok (.iaload, 1) := by decide +kernel
theorem dL_law_1476 : decode cL_law 1476 = .ok (.aload_n 0, 1) := by decide +kernel
theorem dL_law_1477 : decode cL_law 1477 = .ok (.iload_n 3, 1) := by decide +kernel
theorem dL_law_1478 : decode cL_law 1478 = .ok (.iconst 4, 1) := by decide +kernel
theorem dL_law_1479 : decode cL_law 1479 = .ok (.iadd, 1) := by decide +kernel
theorem dL_law_1480 : decode cL_law 1480 = .ok (.iaload, 1) := by decide +kernel
theorem dL_law_1481 : decode cL_law 1481 = .ok (.aload_n 0, 1) := by decide +kernel
theorem dL_law_1482 : decode cL_law 1482 = .ok (.iload_n 3, 1) := by decide +kernel
theorem dL_law_1483 : decode cL_law 1483 = .ok (.iconst 5, 1) := by decide +kernel
theorem dL_law_1484 : decode cL_law 1484 = .ok (.iadd, 1) := by decide +kernel
theorem dL_law_1485 : decode cL_law 1485 = .ok (.iaload, 1) := by decide +kernel
theorem dL_law_1486 : decode cL_law 1486 = .ok (.invokevirtual 170, 3) := by decide +kernel
theorem dL_law_1489 : decode cL_law 1489 = .ok (.aload_n 2, 1) := by decide +kernel
theorem dL_law_1490 : decode cL_law 1490 = .ok (.aload_n 0, 1) := by decide +kernel
theorem dL_law_1491 : decode cL_law 1491 = .ok (.iload_n 3, 1) := by decide +kernel
theorem dL_law_1492 : decode cL_law 1492 = .ok (.iconst 1, 1) := by decide +kernel
theorem dL_law_1493 : decode cL_law 1493 = .ok (.iadd, 1) := by decide +kernel
theorem dL_law_1494 : decode cL_law 1494 = .ok (.iaload, 1) := by decide +kernel
theorem dL_law_1495 : decode cL_law 1495 = .ok (.aload_n 0, 1) := by decide +kernel
theorem dL_law_1496 : decode cL_law 1496 = .ok (.iload_n 3, 1) := by decide +kernel
theorem dL_law_1497 : decode cL_law 1497 = .ok (.iconst 2, 1) := by decide +kernel
theorem dL_law_1498 : decode cL_law 1498 = .ok (.iadd, 1) := by decide +kernel
theorem dL_law_1499 : decode cL_law 1499 = .ok (.iaload, 1) := by decide +kernel
theorem dL_law_1500 : decode cL_law 1500 = .ok (.aload_n 0, 1) := by decide +kernel
theorem dL_law_1501 : decode cL_law 1501 = .ok (.iload_n 3, 1) := by decide +kernel
theorem dL_law_1502 : decode cL_law 1502 = .ok (.iconst 3, 1) := by decide +kernel
theorem dL_law_1503 : decode cL_law 1503 = .ok (.iadd, 1) := by decide +kernel
theorem dL_law_1504 : decode cL_law 1504 = .ok (.iaload, 1) := by decide +kernel
theorem dL_law_1505 : decode cL_law 1505 = .ok (.aload_n 0, 1) := by decide +kernel
theorem dL_law_1506 : decode cL_law 1506 = .ok (.iload_n 3, 1) := by decide +kernel
theorem dL_law_1507 : decode cL_law 1507 = .ok (.iconst 4, 1) := by decide +kernel
theorem dL_law_1508 : decode cL_law 1508 = .ok (.iadd, 1) := by decide +kernel
theorem dL_law_1509 : decode cL_law 1509 = .ok (.iaload, 1) := by decide +kernel
theorem dL_law_1510 : decode cL_law 1510 = .ok (.aload_n 0, 1) := by decide +kernel
theorem dL_law_1511 : decode cL_law 1511 = .ok (.iload_n 3, 1) := by decide +kernel
theorem dL_law_1512 : decode cL_law 1512 = .ok (.iconst 5, 1) := by decide +kernel
theorem dL_law_1513 : decode cL_law 1513 = .ok (.iadd, 1) := by decide +kernel
theorem dL_law_1514 : decode cL_law 1514 = .ok (.iaload, 1) := by decide +kernel
theorem dL_law_1515 : decode cL_law 1515 = .ok (.invokevirtual 174, 3) := by decide +kernel
theorem dL_law_1518 : decode cL_law 1518 = .ok (.if_icmp .eq 61, 3) := by decide +kernel
theorem dL_law_1523 : decode cL_law 1523 = .ok (.aload_n 1, 1) := by decide +kernel
theorem dL_law_1524 : decode cL_law 1524 = .ok (.aload_n 0, 1) := by decide +kernel
theorem dL_law_1525 : decode cL_law 1525 = .ok (.iload_n 3, 1) := by decide +kernel
theorem dL_law_1526 : decode cL_law 1526 = .ok (.iconst 1, 1) := by decide +kernel
theorem dL_law_1527 : decode cL_law 1527 = .ok (.iadd, 1) := by decide +kernel
theorem dL_law_1528 : decode cL_law 1528 = .ok (.iaload, 1) := by decide +kernel
theorem dL_law_1529 : decode cL_law 1529 = .ok (.aload_n 0, 1) := by decide +kernel
theorem dL_law_1530 : decode cL_law 1530 = .ok (.iload_n 3, 1) := by decide +kernel
theorem dL_law_1531 : decode cL_law 1531 = .ok (.iconst 2, 1) := by decide +kernel
theorem dL_law_1532 : decode cL_law 1532 = .ok (.iadd, 1) := by decide +kernel
theorem dL_law_1533 : decode cL_law 1533 = .ok (.iaload, 1) := by decide +kernel
theorem dL_law_1534 : decode cL_law 1534 = .ok (.invokevirtual 175, 3) := by decide +kernel
theorem dL_law_1537 : decode cL_law 1537 = .ok (.aload_n 2, 1) := by decide +kernel
theorem dL_law_1538 : decode cL_law 1538 = .ok (.aload_n 0, 1) := by decide +kernel
theorem dL_law_1539 : decode cL_law 1539 = .ok (.iload_n 3, 1) := by decide +kernel
theorem dL_law_1540 : decode cL_law 1540 = .ok (.iconst 1, 1) := by decide +kernel
theorem dL_law_1541 : decode cL_law 1541 = .ok (.iadd, 1) := by decide +kernel
theorem dL_law_1542 : decode cL_law 1542 = .ok (.iaload, 1) := by decide +kernel
theorem dL_law_1543 : decode cL_law 1543 = .ok (.aload_n 0, 1) := by decide +kernel
theorem dL_law_1544 : decode cL_law 1544 = .ok (.iload_n 3, 1) := by decide +kernel
theorem dL_law_1545 : decode cL_law 1545 = .ok (.iconst 2, 1) := by decide +kernel
theorem dL_law_1546 : decode cL_law 1546 = .ok (.iadd, 1) := by decide +kernel
theorem dL_law_1547 : decode cL_law 1547 = .ok (.iaload, 1) := by decide +kernel
theorem dL_law_1548 : decode cL_law 1548 = .ok (.invokevirtual 178, 3) := by decide +kernel
theorem dL_law_1551 : decode cL_law 1551 = .ok (.if_icmp .eq 28, 3) := by decide +kernel
theorem dL_law_1556 : decode cL_law 1556 = .ok (.aload_n 1, 1) := by decide +kernel
theorem dL_law_1557 : decode cL_law 1557 = .ok (.aload_n 0, 1) := by decide +kernel
theorem dL_law_1558 : decode cL_law 1558 = .ok (.iload_n 3, 1) := by decide +kernel
theorem dL_law_1559 : decode cL_law 1559 = .ok (.iconst 1, 1) := by decide +kernel
theorem dL_law_1560 : decode cL_law 1560 = .ok (.iadd, 1) := by decide +kernel
theorem dL_law_1561 : decode cL_law 1561 = .ok (.iaload, 1) := by decide +kernel
theorem dL_law_1562 : decode cL_law 1562 = .ok (.invokevirtual 179, 3) := by decide +kernel
theorem dL_law_1565 : decode cL_law 1565 = .ok (.aload_n 2, 1) := by decide +kernel
theorem dL_law_1566 : decode cL_law 1566 = .ok (.aload_n 0, 1) := by decide +kernel
theorem dL_law_1567 : decode cL_law 1567 = .ok (.iload_n 3, 1) := by decide +kernel
theorem dL_law_1568 : decode cL_law 1568 = .ok (.iconst 1, 1) := by decide +kernel
theorem dL_law_1569 : decode cL_law 1569 = .ok (.iadd, 1) := by decide +kernel
theorem dL_law_1570 : decode cL_law 1570 = .ok (.iaload, 1) := by decide +kernel
theorem dL_law_1571 : decode cL_law 1571 = .ok (.invokevirtual 182, 3) := by decide +kernel
theorem dL_law_1574 : decode cL_law 1574 = .ok (.if_icmp .eq 5, 3) := by decide +kernel
theorem dL_law_1579 : decode cL_law 1579 = .ok (.iinc 3 6, 3) := by decide +kernel
theorem dL_law_1582 : decode cL_law 1582 = .ok (.goto (-1564), 3) := by decide +kernel
theorem dL_law_1585 : decode cL_law 1585 = .ok (.iconst 1, 1) := by decide +kernel
theorem dL_law_1586 : decode cL_law 1586 = .ok (.ireturn, 1) := by decide +kernel
