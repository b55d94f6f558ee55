/-! contracts of any state. Laid by a program (wip/tool) -/
abbrev WkX5_both_2 : List (Nat × Nat × Option Nat) := [(4, 4, some 6), (4, 4, some 7), (4, 4, some 8), (6, 6, none)]
set_option maxHeartbeats 4000000 in
set_option maxRecDepth 100000 in
theorem kX5_both_2 (l : Launch) (D : va_G) (ca : Nat → ClassId) (za h : Nat → Nat) (hh : sgH 52 h) (f : sg_F) (L : sg_L) (Q : sg_Q) (hI : sgI loX hiX f) (sz : Nat) : Met l yX5_both gwX5_both { frames := 34, cells := 0, slots := 0, locals := 757 } (sgP D vwCl (tyX ca) 52 h (eX ca h) zcX za f L Q sz [.ref (h 4), .int 2]) (sgQv D vwCl 52 h (eX ca h) sz (fun f1 L1 Q1 => ((sgI loX hiX f1 ∧ sgK WkX5_both_2 f f1 ∧ L1 = L ∧ Q1 = Q) ∧ (f1) = sX5_both_2 f L))) 0 0 (sgA 52 h sz) := by
  sorry
abbrev WkX5_either_2 : List (Nat × Nat × Option Nat) := [(4, 4, some 6), (4, 4, some 7), (4, 4, some 8), (6, 6, none)]
set_option maxHeartbeats 4000000 in
set_option maxRecDepth 100000 in
theorem kX5_either_2 (l : Launch) (D : va_G) (ca : Nat → ClassId) (za h : Nat → Nat) (hh : sgH 52 h) (f : sg_F) (L : sg_L) (Q : sg_Q) (hI : sgI loX hiX f) (sz : Nat) : Met l yX5_either gwX5_either { frames := 35, cells := 0, slots := 0, locals := 779 } (sgP D vwCl (tyX ca) 52 h (eX ca h) zcX za f L Q sz [.ref (h 4), .int 2]) (sgQv D vwCl 52 h (eX ca h) sz (fun f1 L1 Q1 => ((sgI loX hiX f1 ∧ sgK WkX5_either_2 f f1 ∧ L1 = L ∧ Q1 = Q) ∧ (f1) = sX5_either_2 f L))) 0 0 (sgA 52 h sz) := by
  sorry
abbrev WkX5_opened_2 : List (Nat × Nat × Option Nat) := [(4, 4, some 6), (4, 4, some 7), (4, 4, some 8), (6, 6, none)]
set_option maxHeartbeats 4000000 in
set_option maxRecDepth 100000 in
theorem kX5_opened_2 (l : Launch) (D : va_G) (ca : Nat → ClassId) (za h : Nat → Nat) (hh : sgH 52 h) (f : sg_F) (L : sg_L) (Q : sg_Q) (hI : sgI loX hiX f) (x0 : Int32) (b0 : 33 ≤ x0.toInt ∧ x0.toInt ≤ 49) (sz : Nat) : Met l yX5_opened gwX5_opened { frames := 36, cells := 0, slots := 0, locals := 801 } (sgP D vwCl (tyX ca) 52 h (eX ca h) zcX za f L Q sz [.ref (h 4), .int x0, .int 2]) (sgQv D vwCl 52 h (eX ca h) sz (fun f1 L1 Q1 => ((sgI loX hiX f1 ∧ sgK WkX5_opened_2 f f1 ∧ L1 = L ∧ Q1 = Q) ∧ (f1) = sX5_opened_2 x0 f L))) 0 0 (sgA 52 h sz) := by
  sorry
abbrev WkX5_operand_1 : List (Nat × Nat × Option Nat) := [(4, 4, some 6), (4, 4, some 7), (4, 4, some 8), (6, 6, none)]
set_option maxHeartbeats 4000000 in
set_option maxRecDepth 100000 in
theorem kX5_operand_1 (l : Launch) (D : va_G) (ca : Nat → ClassId) (za h : Nat → Nat) (hh : sgH 52 h) (f : sg_F) (L : sg_L) (Q : sg_Q) (hI : sgI loX hiX f) (sz : Nat) : Met l yX5_operand gwX5_operand { frames := 37, cells := 0, slots := 0, locals := 823 } (sgP D vwCl (tyX ca) 52 h (eX ca h) zcX za f L Q sz [.ref (h 4), .int 1]) (sgQv D vwCl 52 h (eX ca h) sz (fun f1 L1 Q1 => ((sgI loX hiX f1 ∧ sgK WkX5_operand_1 f f1 ∧ L1 = L ∧ Q1 = Q) ∧ (f1) = sX5_operand_1 f L))) 0 0 (sgA 52 h sz) := by
  sorry
abbrev WkX5_product_1 : List (Nat × Nat × Option Nat) := [(4, 4, some 6), (4, 4, some 7), (4, 4, some 8), (6, 6, none)]
set_option maxHeartbeats 4000000 in
set_option maxRecDepth 100000 in
theorem kX5_product_1 (l : Launch) (D : va_G) (ca : Nat → ClassId) (za h : Nat → Nat) (hh : sgH 52 h) (f : sg_F) (L : sg_L) (Q : sg_Q) (hI : sgI loX hiX f) (sz : Nat) : Met l yX5_product gwX5_product { frames := 38, cells := 0, slots := 0, locals := 845 } (sgP D vwCl (tyX ca) 52 h (eX ca h) zcX za f L Q sz [.ref (h 4), .int 1]) (sgQv D vwCl 52 h (eX ca h) sz (fun f1 L1 Q1 => ((sgI loX hiX f1 ∧ sgK WkX5_product_1 f f1 ∧ L1 = L ∧ Q1 = Q) ∧ (f1) = sX5_product_1 f L))) 0 0 (sgA 52 h sz) := by
  sorry
abbrev WkX5_sum_1 : List (Nat × Nat × Option Nat) := [(4, 4, some 6), (4, 4, some 7), (4, 4, some 8), (6, 6, none)]
set_option maxHeartbeats 4000000 in
set_option maxRecDepth 100000 in
theorem kX5_sum_1 (l : Launch) (D : va_G) (ca : Nat → ClassId) (za h : Nat → Nat) (hh : sgH 52 h) (f : sg_F) (L : sg_L) (Q : sg_Q) (hI : sgI loX hiX f) (sz : Nat) : Met l yX5_sum gwX5_sum { frames := 39, cells := 0, slots := 0, locals := 868 } (sgP D vwCl (tyX ca) 52 h (eX ca h) zcX za f L Q sz [.ref (h 4), .int 1]) (sgQv D vwCl 52 h (eX ca h) sz (fun f1 L1 Q1 => ((sgI loX hiX f1 ∧ sgK WkX5_sum_1 f f1 ∧ L1 = L ∧ Q1 = Q) ∧ (f1) = sX5_sum_1 f L))) 0 0 (sgA 52 h sz) := by
  sorry
abbrev WkX5_compared_1 : List (Nat × Nat × Option Nat) := [(4, 4, some 6), (4, 4, some 7), (4, 4, some 8), (6, 6, none)]
set_option maxHeartbeats 4000000 in
set_option maxRecDepth 100000 in
theorem kX5_compared_1 (l : Launch) (D : va_G) (ca : Nat → ClassId) (za h : Nat → Nat) (hh : sgH 52 h) (f : sg_F) (L : sg_L) (Q : sg_Q) (hI : sgI loX hiX f) (sz : Nat) : Met l yX5_compared gwX5_compared { frames := 40, cells := 0, slots := 0, locals := 891 } (sgP D vwCl (tyX ca) 52 h (eX ca h) zcX za f L Q sz [.ref (h 4), .int 1]) (sgQv D vwCl 52 h (eX ca h) sz (fun f1 L1 Q1 => ((sgI loX hiX f1 ∧ sgK WkX5_compared_1 f f1 ∧ L1 = L ∧ Q1 = Q) ∧ (f1) = sX5_compared_1 f L))) 0 0 (sgA 52 h sz) := by
  sorry
abbrev WkX5_both_1 : List (Nat × Nat × Option Nat) := [(4, 4, some 6), (4, 4, some 7), (4, 4, some 8), (6, 6, none)]
set_option maxHeartbeats 4000000 in
set_option maxRecDepth 100000 in
theorem kX5_both_1 (l : Launch) (D : va_G) (ca : Nat → ClassId) (za h : Nat → Nat) (hh : sgH 52 h) (f : sg_F) (L : sg_L) (Q : sg_Q) (hI : sgI loX hiX f) (sz : Nat) : Met l yX5_both gwX5_both { frames := 41, cells := 0, slots := 0, locals := 913 } (sgP D vwCl (tyX ca) 52 h (eX ca h) zcX za f L Q sz [.ref (h 4), .int 1]) (sgQv D vwCl 52 h (eX ca h) sz (fun f1 L1 Q1 => ((sgI loX hiX f1 ∧ sgK WkX5_both_1 f f1 ∧ L1 = L ∧ Q1 = Q) ∧ (f1) = sX5_both_1 f L))) 0 0 (sgA 52 h sz) := by
  sorry
abbrev WkX5_either_1 : List (Nat × Nat × Option Nat) := [(4, 4, some 6), (4, 4, some 7), (4, 4, some 8), (6, 6, none)]
set_option maxHeartbeats 4000000 in
set_option maxRecDepth 100000 in
theorem kX5_either_1 (l : Launch) (D : va_G) (ca : Nat → ClassId) (za h : Nat → Nat) (hh : sgH 52 h) (f : sg_F) (L : sg_L) (Q : sg_Q) (hI : sgI loX hiX f) (sz : Nat) : Met l yX5_either gwX5_either { frames := 42, cells := 0, slots := 0, locals := 935 } (sgP D vwCl (tyX ca) 52 h (eX ca h) zcX za f L Q sz [.ref (h 4), .int 1]) (sgQv D vwCl 52 h (eX ca h) sz (fun f1 L1 Q1 => ((sgI loX hiX f1 ∧ sgK WkX5_either_1 f f1 ∧ L1 = L ∧ Q1 = Q) ∧ (f1) = sX5_either_1 f L))) 0 0 (sgA 52 h sz) := by
  sorry
abbrev WkX5_opened_1 : List (Nat × Nat × Option Nat) := [(4, 4, some 6), (4, 4, some 7), (4, 4, some 8), (6, 6, none)]
set_option maxHeartbeats 4000000 in
set_option maxRecDepth 100000 in
theorem kX5_opened_1 (l : Launch) (D : va_G) (ca : Nat → ClassId) (za h : Nat → Nat) (hh : sgH 52 h) (f : sg_F) (L : sg_L) (Q : sg_Q) (hI : sgI loX hiX f) (x0 : Int32) (b0 : 33 ≤ x0.toInt ∧ x0.toInt ≤ 49) (sz : Nat) : Met l yX5_opened gwX5_opened { frames := 43, cells := 0, slots := 0, locals := 957 } (sgP D vwCl (tyX ca) 52 h (eX ca h) zcX za f L Q sz [.ref (h 4), .int x0, .int 1]) (sgQv D vwCl 52 h (eX ca h) sz (fun f1 L1 Q1 => ((sgI loX hiX f1 ∧ sgK WkX5_opened_1 f f1 ∧ L1 = L ∧ Q1 = Q) ∧ (f1) = sX5_opened_1 x0 f L))) 0 0 (sgA 52 h sz) := by
  sorry
abbrev WkX5_operand_0 : List (Nat × Nat × Option Nat) := [(4, 4, some 6), (4, 4, some 7), (4, 4, some 8), (6, 6, none)]
set_option maxHeartbeats 4000000 in
set_option maxRecDepth 100000 in
theorem kX5_operand_0 (l : Launch) (D : va_G) (ca : Nat → ClassId) (za h : Nat → Nat) (hh : sgH 52 h) (f : sg_F) (L : sg_L) (Q : sg_Q) (hI : sgI loX hiX f) (sz : Nat) : Met l yX5_operand gwX5_operand { frames := 44, cells := 0, slots := 0, locals := 979 } (sgP D vwCl (tyX ca) 52 h (eX ca h) zcX za f L Q sz [.ref (h 4), .int 0]) (sgQv D vwCl 52 h (eX ca h) sz (fun f1 L1 Q1 => ((sgI loX hiX f1 ∧ sgK WkX5_operand_0 f f1 ∧ L1 = L ∧ Q1 = Q) ∧ (f1) = sX5_operand_0 f L))) 0 0 (sgA 52 h sz) := by
  sorry
abbrev WkX5_product_0 : List (Nat × Nat × Option Nat) := [(4, 4, some 6), (4, 4, some 7), (4, 4, some 8), (6, 6, none)]
set_option maxHeartbeats 4000000 in
set_option maxRecDepth 100000 in
theorem kX5_product_0 (l : Launch) (D : va_G) (ca : Nat → ClassId) (za h : Nat → Nat) (hh : sgH 52 h) (f : sg_F) (L : sg_L) (Q : sg_Q) (hI : sgI loX hiX f) (sz : Nat) : Met l yX5_product gwX5_product { frames := 45, cells := 0, slots := 0, locals := 1001 } (sgP D vwCl (tyX ca) 52 h (eX ca h) zcX za f L Q sz [.ref (h 4), .int 0]) (sgQv D vwCl 52 h (eX ca h) sz (fun f1 L1 Q1 => ((sgI loX hiX f1 ∧ sgK WkX5_product_0 f f1 ∧ L1 = L ∧ Q1 = Q) ∧ (f1) = sX5_product_0 f L))) 0 0 (sgA 52 h sz) := by
  sorry
abbrev WkX5_sum_0 : List (Nat × Nat × Option Nat) := [(4, 4, some 6), (4, 4, some 7), (4, 4, some 8), (6, 6, none)]
set_option maxHeartbeats 4000000 in
set_option maxRecDepth 100000 in
theorem kX5_sum_0 (l : Launch) (D : va_G) (ca : Nat → ClassId) (za h : Nat → Nat) (hh : sgH 52 h) (f : sg_F) (L : sg_L) (Q : sg_Q) (hI : sgI loX hiX f) (sz : Nat) : Met l yX5_sum gwX5_sum { frames := 46, cells := 0, slots := 0, locals := 1024 } (sgP D vwCl (tyX ca) 52 h (eX ca h) zcX za f L Q sz [.ref (h 4), .int 0]) (sgQv D vwCl 52 h (eX ca h) sz (fun f1 L1 Q1 => ((sgI loX hiX f1 ∧ sgK WkX5_sum_0 f f1 ∧ L1 = L ∧ Q1 = Q) ∧ (f1) = sX5_sum_0 f L))) 0 0 (sgA 52 h sz) := by
  sorry
abbrev WkX5_compared_0 : List (Nat × Nat × Option Nat) := [(4, 4, some 6), (4, 4, some 7), (4, 4, some 8), (6, 6, none)]
set_option maxHeartbeats 4000000 in
set_option maxRecDepth 100000 in
theorem kX5_compared_0 (l : Launch) (D : va_G) (ca : Nat → ClassId) (za h : Nat → Nat) (hh : sgH 52 h) (f : sg_F) (L : sg_L) (Q : sg_Q) (hI : sgI loX hiX f) (sz : Nat) : Met l yX5_compared gwX5_compared { frames := 47, cells := 0, slots := 0, locals := 1047 } (sgP D vwCl (tyX ca) 52 h (eX ca h) zcX za f L Q sz [.ref (h 4), .int 0]) (sgQv D vwCl 52 h (eX ca h) sz (fun f1 L1 Q1 => ((sgI loX hiX f1 ∧ sgK WkX5_compared_0 f f1 ∧ L1 = L ∧ Q1 = Q) ∧ (f1) = sX5_compared_0 f L))) 0 0 (sgA 52 h sz) := by
  sorry
abbrev WkX5_both_0 : List (Nat × Nat × Option Nat) := [(4, 4, some 6), (4, 4, some 7), (4, 4, some 8), (6, 6, none)]
set_option maxHeartbeats 4000000 in
set_option maxRecDepth 100000 in
theorem kX5_both_0 (l : Launch) (D : va_G) (ca : Nat → ClassId) (za h : Nat → Nat) (hh : sgH 52 h) (f : sg_F) (L : sg_L) (Q : sg_Q) (hI : sgI loX hiX f) (sz : Nat) : Met l yX5_both gwX5_both { frames := 48, cells := 0, slots := 0, locals := 1069 } (sgP D vwCl (tyX ca) 52 h (eX ca h) zcX za f L Q sz [.ref (h 4), .int 0]) (sgQv D vwCl 52 h (eX ca h) sz (fun f1 L1 Q1 => ((sgI loX hiX f1 ∧ sgK WkX5_both_0 f f1 ∧ L1 = L ∧ Q1 = Q) ∧ (f1) = sX5_both_0 f L))) 0 0 (sgA 52 h sz) := by
  sorry
abbrev WkX5_either_0 : List (Nat × Nat × Option Nat) := [(4, 4, some 6), (4, 4, some 7), (4, 4, some 8), (6, 6, none)]
set_option maxHeartbeats 4000000 in
set_option maxRecDepth 100000 in
theorem kX5_either_0 (l : Launch) (D : va_G) (ca : Nat → ClassId) (za h : Nat → Nat) (hh : sgH 52 h) (f : sg_F) (L : sg_L) (Q : sg_Q) (hI : sgI loX hiX f) (sz : Nat) : Met l yX5_either gwX5_either { frames := 49, cells := 0, slots := 0, locals := 1091 } (sgP D vwCl (tyX ca) 52 h (eX ca h) zcX za f L Q sz [.ref (h 4), .int 0]) (sgQv D vwCl 52 h (eX ca h) sz (fun f1 L1 Q1 => ((sgI loX hiX f1 ∧ sgK WkX5_either_0 f f1 ∧ L1 = L ∧ Q1 = Q) ∧ (f1) = sX5_either_0 f L))) 0 0 (sgA 52 h sz) := by
  sorry
abbrev WkX5_line : List (Nat × Nat × Option Nat) := [(4, 4, some 6), (4, 4, some 7), (4, 4, some 8), (6, 6, none)]
set_option maxHeartbeats 4000000 in
set_option maxRecDepth 100000 in
theorem kX5_line (l : Launch) (D : va_G) (ca : Nat → ClassId) (za h : Nat → Nat) (hh : sgH 52 h) (f : sg_F) (L : sg_L) (Q : sg_Q) (hI : sgI loX hiX f) (sz : Nat) : Met l yX5_line gwX5_line { frames := 50, cells := 0, slots := 0, locals := 1113 } (sgP D vwCl (tyX ca) 52 h (eX ca h) zcX za f L Q sz [.ref (h 4)]) (sgQv D vwCl 52 h (eX ca h) sz (fun f1 L1 Q1 => ((sgI loX hiX f1 ∧ sgK WkX5_line f f1 ∧ L1 = L ∧ Q1 = Q) ∧ (f1) = sX5_line f L))) 0 0 (sgA 52 h sz) := by
  sorry
abbrev WkX5_lines : List (Nat × Nat × Option Nat) := [(4, 4, some 6), (4, 4, some 7), (4, 4, some 8), (6, 6, none)]
set_option maxHeartbeats 4000000 in
set_option maxRecDepth 100000 in
theorem kX5_lines (l : Launch) (D : va_G) (ca : Nat → ClassId) (za h : Nat → Nat) (hh : sgH 52 h) (f : sg_F) (L : sg_L) (Q : sg_Q) (hI : sgI loX hiX f) (sz : Nat) : Met l yX5_lines gwX5_lines { frames := 51, cells := 0, slots := 0, locals := 1133 } (sgP D vwCl (tyX ca) 52 h (eX ca h) zcX za f L Q sz [.ref (h 4)]) (sgQv D vwCl 52 h (eX ca h) sz (fun f1 L1 Q1 => ((sgI loX hiX f1 ∧ sgK WkX5_lines f f1 ∧ L1 = L ∧ Q1 = Q) ∧ (f1) = sX5_lines f L))) 0 0 (sgA 52 h sz) := by
  sorry
abbrev WkX5_isRead : List (Nat × Nat × Option Nat) := [(4, 4, some 1), (4, 4, some 2), (4, 4, some 6), (4, 4, some 7), (4, 4, some 8), (4, 4, some 9), (6, 6, none), (7, 7, none)]
set_option maxHeartbeats 4000000 in
set_option maxRecDepth 100000 in
theorem kX5_isRead (l : Launch) (D : va_G) (ca : Nat → ClassId) (za h : Nat → Nat) (hh : sgH 52 h) (f : sg_F) (L : sg_L) (Q : sg_Q) (hI : sgI loX hiX f) (sz : Nat) : Met l yX5_isRead gwX5_isRead { frames := 52, cells := 0, slots := 0, locals := 1154 } (sgP D vwCl (tyX ca) 52 h (eX ca h) zcX za f L Q sz [.ref (h 4)]) (sgQi D vwCl 52 h (eX ca h) sz (fun r f1 L1 Q1 => ((sgI loX hiX f1 ∧ sgK WkX5_isRead f f1 ∧ L1 = L ∧ Q1 = Q) ∧ ((-220) ≤ r.toInt ∧ r.toInt ≤ 1) ∧ (r, f1) = sX5_isRead f L))) 0 0 (sgA 52 h sz) := by
  sorry
abbrev WkX0_forgetAll : List (Nat × Nat × Option Nat) := [(9, 9, none)]
set_option maxHeartbeats 4000000 in
set_option maxRecDepth 100000 in
theorem kX0_forgetAll (l : Launch) (D : va_G) (ca : Nat → ClassId) (za h : Nat → Nat) (hh : sgH 52 h) (f : sg_F) (L : sg_L) (Q : sg_Q) (hI : sgI loX hiX f) (sz : Nat) : Met l yX0_forgetAll gwX0_forgetAll { frames := 1, cells := 0, slots := 0, locals := 23 } (sgP D vwCl (tyX ca) 52 h (eX ca h) zcX za f L Q sz [.ref (h 1)]) (sgQv D vwCl 52 h (eX ca h) sz (fun f1 L1 Q1 => ((sgI loX hiX f1 ∧ sgK WkX0_forgetAll f f1 ∧ L1 = L ∧ Q1 = Q) ∧ (f1) = sX0_forgetAll f L))) 0 0 (sgA 52 h sz) := by
  sorry
abbrev WkX11_law : List (Nat × Nat × Option Nat) := [(4, 4, some 1), (4, 4, some 2), (4, 4, some 6), (4, 4, some 7), (4, 4, some 8), (4, 4, some 9), (6, 6, none), (7, 7, none), (9, 9, none)]
set_option maxHeartbeats 4000000 in
set_option maxRecDepth 100000 in
theorem kX11_law (l : Launch) (D : va_G) (ca : Nat → ClassId) (za h : Nat → Nat) (hh : sgH 52 h) (f : sg_F) (L : sg_L) (Q : sg_Q) (hI : sgI loX hiX f) (sz : Nat) : Met l yX11_law gwX11_law { frames := 53, cells := 0, slots := 0, locals := 1174 } (sgP D vwCl (tyX ca) 52 h (eX ca h) zcX za f L Q sz [.ref (h 0)]) (sgQi D vwCl 52 h (eX ca h) sz (fun r f1 L1 Q1 => ((sgI loX hiX f1 ∧ sgK WkX11_law f f1 ∧ L1 = L ∧ Q1 = Q) ∧ ((-220) ≤ r.toInt ∧ r.toInt ≤ 1) ∧ (r, f1) = sX11_law f L))) 0 0 (sgA 52 h sz) := by
  sorry
set_option maxHeartbeats 4000000 in
set_option maxRecDepth 100000 in
theorem kX0_has (l : Launch) (D : va_G) (ca : Nat → ClassId) (za h : Nat → Nat) (hh : sgH 52 h) (f : sg_F) (L : sg_L) (Q : sg_Q) (hI : sgI loX hiX f) (x0 : Int32) (sz : Nat) : Met l yX0_has gwX0_has { frames := 0, cells := 0, slots := 0, locals := 0 } (sgP D vwCl (tyX ca) 52 h (eX ca h) zcX za f L Q sz [.ref (h 1), .int x0]) (sgQi D vwCl 52 h (eX ca h) sz (fun r f1 L1 Q1 => ((f1 = f ∧ L1 = L ∧ Q1 = Q) ∧ ((r = 1 ∧ (0 ≤ x0.toInt ∧ x0.toInt < (f 1 3).toInt)) ∨ (r = 0 ∧ (¬ (0 ≤ x0.toInt ∧ x0.toInt < (f 1 3).toInt)))) ∧ (r) = sX0_has x0 f L))) 0 0 (sgA 52 h sz) := by
  sorry
set_option maxHeartbeats 4000000 in
set_option maxRecDepth 100000 in
theorem kX0_numberOf (l : Launch) (D : va_G) (ca : Nat → ClassId) (za h : Nat → Nat) (hh : sgH 52 h) (f : sg_F) (L : sg_L) (Q : sg_Q) (hI : sgI loX hiX f) (x0 : Int32) (x1 : Int32) (b0 : 0 ≤ x0.toInt ∧ x0.toInt ≤ 7) (b1 : 0 ≤ x1.toInt ∧ x1.toInt ≤ 7) (sz : Nat) : Met l yX0_numberOf gwX0_numberOf { frames := 0, cells := 0, slots := 0, locals := 0 } (sgP D vwCl (tyX ca) 52 h (eX ca h) zcX za f L Q sz [.ref (h 1), .int x0, .int x1]) (sgQi D vwCl 52 h (eX ca h) sz (fun r f1 L1 Q1 => ((f1 = f ∧ L1 = L ∧ Q1 = Q) ∧ (0 ≤ r.toInt ∧ r.toInt ≤ 60) ∧ (r) = sX0_numberOf x0 x1 f L))) 0 0 (sgA 52 h sz) := by
  sorry
set_option maxHeartbeats 4000000 in
set_option maxRecDepth 100000 in
theorem kX5_operands (l : Launch) (D : va_G) (ca : Nat → ClassId) (za h : Nat → Nat) (hh : sgH 52 h) (f : sg_F) (L : sg_L) (Q : sg_Q) (hI : sgI loX hiX f) (x0 : Int32) (sz : Nat) : Met l yX5_operands gwX5_operands { frames := 0, cells := 0, slots := 0, locals := 0 } (sgP D vwCl (tyX ca) 52 h (eX ca h) zcX za f L Q sz [.int x0]) (sgQi D vwCl 52 h (eX ca h) sz (fun r f1 L1 Q1 => ((f1 = f ∧ L1 = L ∧ Q1 = Q) ∧ (0 ≤ r.toInt ∧ r.toInt ≤ 2) ∧ (r) = sX5_operands x0 f L))) 0 0 (sgA 52 h sz) := by
  sorry
set_option maxHeartbeats 4000000 in
set_option maxRecDepth 100000 in
theorem kX5_worked (l : Launch) (D : va_G) (ca : Nat → ClassId) (za h : Nat → Nat) (hh : sgH 52 h) (f : sg_F) (L : sg_L) (Q : sg_Q) (hI : sgI loX hiX f) (x0 : Int32) (x1 : Int32) (x2 : Int32) (sz : Nat) : Met l yX5_worked gwX5_worked { frames := 0, cells := 0, slots := 0, locals := 0 } (sgP D vwCl (tyX ca) 52 h (eX ca h) zcX za f L Q sz [.int x0, .int x1, .int x2]) (sgQi D vwCl 52 h (eX ca h) sz (fun r f1 L1 Q1 => ((f1 = f ∧ L1 = L ∧ Q1 = Q) ∧ True ∧ (r) = sX5_worked x0 x1 x2 f L))) 0 0 (sgA 52 h sz) := by
  sorry
set_option maxHeartbeats 4000000 in
set_option maxRecDepth 100000 in
theorem kX5_named (l : Launch) (D : va_G) (ca : Nat → ClassId) (za h : Nat → Nat) (hh : sgH 52 h) (f : sg_F) (L : sg_L) (Q : sg_Q) (hI : sgI loX hiX f) (x0 : Int32) (x1 : Int32) (x2 : Int32) (x3 : Int32) (x4 : Int32) (b1 : 0 ≤ x1.toInt ∧ x1.toInt ≤ 60) (b2 : 0 ≤ x2.toInt ∧ x2.toInt ≤ 60) (b3 : 0 ≤ x3.toInt ∧ x3.toInt ≤ 60) (b4 : 0 ≤ x4.toInt ∧ x4.toInt ≤ 2) (sz : Nat) : Met l yX5_named gwX5_named { frames := 1, cells := 0, slots := 0, locals := 21 } (sgP D vwCl (tyX ca) 52 h (eX ca h) zcX za f L Q sz [.int x0, .int x1, .int x2, .int x3, .int x4]) (sgQi D vwCl 52 h (eX ca h) sz (fun r f1 L1 Q1 => ((f1 = f ∧ L1 = L ∧ Q1 = Q) ∧ True ∧ (r) = sX5_named x0 x1 x2 x3 x4 f L))) 0 0 (sgA 52 h sz) := by
  sorry
abbrev WkX5_valueOf : List (Nat × Nat × Option Nat) := [(8, 8, none)]
set_option maxHeartbeats 4000000 in
set_option maxRecDepth 100000 in
theorem kX5_valueOf (l : Launch) (D : va_G) (ca : Nat → ClassId) (za h : Nat → Nat) (hh : sgH 52 h) (f : sg_F) (L : sg_L) (Q : sg_Q) (hI : sgI loX hiX f) (x0 : Int32) (x1 : Int32) (x2 : Int32) (x3 : Int32) (b0 : 0 ≤ x0.toInt ∧ x0.toInt ≤ 60) (b1 : 0 ≤ x1.toInt ∧ x1.toInt ≤ 60) (b2 : 0 ≤ x2.toInt ∧ x2.toInt ≤ 60) (b3 : 0 ≤ x3.toInt ∧ x3.toInt ≤ 2) (sz : Nat) : Met l yX5_valueOf gwX5_valueOf { frames := 2, cells := 0, slots := 0, locals := 45 } (sgP D vwCl (tyX ca) 52 h (eX ca h) zcX za f L Q sz [.ref (h 4), .int x0, .int x1, .int x2, .int x3]) (sgQi D vwCl 52 h (eX ca h) sz (fun r f1 L1 Q1 => ((sgI loX hiX f1 ∧ sgK WkX5_valueOf f f1 ∧ L1 = L ∧ Q1 = Q) ∧ True ∧ (r, f1) = sX5_valueOf x0 x1 x2 x3 f L))) 0 0 (sgA 52 h sz) := by
  sorry
abbrev WkX0_lossAt : List (Nat × Nat × Option Nat) := [(8, 8, none), (9, 9, none)]
set_option maxHeartbeats 4000000 in
set_option maxRecDepth 100000 in
theorem kX0_lossAt (l : Launch) (D : va_G) (ca : Nat → ClassId) (za h : Nat → Nat) (hh : sgH 52 h) (f : sg_F) (L : sg_L) (Q : sg_Q) (hI : sgI loX hiX f) (x0 : Int32) (x1 : Int32) (x2 : Int32) (b0 : (-1) ≤ x0.toInt ∧ x0.toInt ≤ 7) (b1 : 0 ≤ x1.toInt ∧ x1.toInt ≤ 2) (b2 : 0 ≤ x2.toInt ∧ x2.toInt ≤ 60) (sz : Nat) : Met l yX0_lossAt gwX0_lossAt { frames := 3, cells := 0, slots := 0, locals := 74 } (sgP D vwCl (tyX ca) 52 h (eX ca h) zcX za f L Q sz [.ref (h 1), .int x0, .int x1, .int x2]) (sgQi D vwCl 52 h (eX ca h) sz (fun r f1 L1 Q1 => ((sgI loX hiX f1 ∧ sgK WkX0_lossAt f f1 ∧ L1 = L ∧ Q1 = Q) ∧ (0 ≤ r.toInt ∧ r.toInt ≤ 10000) ∧ (r, f1) = sX0_lossAt x0 x1 x2 f L))) 0 0 (sgA 52 h sz) := by
  sorry
abbrev WkX11_loss : List (Nat × Nat × Option Nat) := [(8, 8, none), (9, 9, none)]
set_option maxHeartbeats 4000000 in
set_option maxRecDepth 100000 in
theorem kX11_loss (l : Launch) (D : va_G) (ca : Nat → ClassId) (za h : Nat → Nat) (hh : sgH 52 h) (f : sg_F) (L : sg_L) (Q : sg_Q) (hI : sgI loX hiX f) (x0 : Int32) (x1 : Int32) (x2 : Int32) (sz : Nat) : Met l yX11_loss gwX11_loss { frames := 4, cells := 0, slots := 0, locals := 102 } (sgP D vwCl (tyX ca) 52 h (eX ca h) zcX za f L Q sz [.ref (h 0), .int x0, .int x1, .int x2]) (sgQi D vwCl 52 h (eX ca h) sz (fun r f1 L1 Q1 => ((sgI loX hiX f1 ∧ sgK WkX11_loss f f1 ∧ L1 = L ∧ Q1 = Q) ∧ ((-1) ≤ r.toInt ∧ r.toInt ≤ 10000) ∧ (r, f1) = sX11_loss x0 x1 x2 f L))) 0 0 (sgA 52 h sz) := by
  sorry
set_option maxHeartbeats 4000000 in
set_option maxRecDepth 100000 in
theorem kX11_refusalOf (l : Launch) (D : va_G) (ca : Nat → ClassId) (za h : Nat → Nat) (hh : sgH 52 h) (f : sg_F) (L : sg_L) (Q : sg_Q) (hI : sgI loX hiX f) (x0 : Int32) (b0 : 0 ≤ x0.toInt ∧ x0.toInt ≤ 5) (sz : Nat) : Met l yX11_refusalOf gwX11_refusalOf { frames := 0, cells := 0, slots := 0, locals := 0 } (sgP D vwCl (tyX ca) 52 h (eX ca h) zcX za f L Q sz [.ref (h 0), .int x0]) (sgQi D vwCl 52 h (eX ca h) sz (fun r f1 L1 Q1 => ((f1 = f ∧ L1 = L ∧ Q1 = Q) ∧ ((-12) ≤ r.toInt ∧ r.toInt ≤ 0) ∧ (r) = sX11_refusalOf x0 f L))) 0 0 (sgA 52 h sz) := by
  sorry
abbrev WkX10_reads : List (Nat × Nat × Option Nat) := [(10, 10, some 2), (10, 10, some 3), (11, 11, none), (12, 12, none)]
set_option maxHeartbeats 4000000 in
set_option maxRecDepth 100000 in
theorem kX10_reads (l : Launch) (D : va_G) (ca : Nat → ClassId) (za h : Nat → Nat) (hh : sgH 52 h) (f : sg_F) (L : sg_L) (Q : sg_Q) (hI : sgI loX hiX f) (t : Nat) (ht_t : t < 6) (x1 : Int32) (b1 : 0 ≤ x1.toInt ∧ x1.toInt ≤ 8) (sz : Nat) : Met l yX10_reads gwX10_reads { frames := 1, cells := 0, slots := 0, locals := 21 } (sgP D vwCl (tyX ca) 52 h (eX ca h) zcX za f L Q sz [.ref (h 10), .ref (h (40 + 2 * t)), .int x1]) (sgQv D vwCl 52 h (eX ca h) sz (fun f1 L1 Q1 => ((sgI loX hiX f1 ∧ sgK WkX10_reads f f1 ∧ L1 = L ∧ Q1 = Q) ∧ (f1) = sX10_reads t x1 f L))) 0 0 (sgA 52 h sz) := by
  sorry
abbrev WkX11_readWeek : List (Nat × Nat × Option Nat) := [(10, 10, some 2), (10, 10, some 3), (11, 11, none), (12, 12, none)]
set_option maxHeartbeats 4000000 in
set_option maxRecDepth 100000 in
theorem kX11_readWeek (l : Launch) (D : va_G) (ca : Nat → ClassId) (za h : Nat → Nat) (hh : sgH 52 h) (f : sg_F) (L : sg_L) (Q : sg_Q) (hI : sgI loX hiX f) (x0 : Int32) (b0 : 0 ≤ x0.toInt ∧ x0.toInt ≤ 5) (sz : Nat) : Met l yX11_readWeek gwX11_readWeek { frames := 2, cells := 0, slots := 0, locals := 45 } (sgP D vwCl (tyX ca) 52 h (eX ca h) zcX za f L Q sz [.ref (h 0), .int x0]) (sgQi D vwCl 52 h (eX ca h) sz (fun r f1 L1 Q1 => ((sgI loX hiX f1 ∧ sgK WkX11_readWeek f f1 ∧ L1 = L ∧ Q1 = Q) ∧ ((-12) ≤ r.toInt ∧ r.toInt ≤ 0) ∧ (r, f1) = sX11_readWeek x0 f L))) 0 0 (sgA 52 h sz) := by
  sorry
abbrev WkX8_allLosses : List (Nat × Nat × Option Nat) := [(8, 8, none), (9, 9, none)]
set_option maxHeartbeats 4000000 in
set_option maxRecDepth 100000 in
theorem kX8_allLosses (l : Launch) (D : va_G) (ca : Nat → ClassId) (za h : Nat → Nat) (hh : sgH 52 h) (f : sg_F) (L : sg_L) (Q : sg_Q) (hI : sgI loX hiX f) (x0 : Int32) (x1 : Int32) (b0 : 0 ≤ x0.toInt ∧ x0.toInt ≤ 2) (b1 : 0 ≤ x1.toInt ∧ x1.toInt ≤ 60) (sz : Nat) : Met l yX8_allLosses gwX8_allLosses { frames := 4, cells := 0, slots := 0, locals := 102 } (sgP D vwCl (tyX ca) 52 h (eX ca h) zcX za f L Q sz [.ref (h 17), .int x0, .int x1]) (sgQi D vwCl 52 h (eX ca h) sz (fun r f1 L1 Q1 => ((sgI loX hiX f1 ∧ sgK WkX8_allLosses f f1 ∧ L1 = L ∧ Q1 = Q) ∧ True ∧ (r, f1) = sX8_allLosses x0 x1 f L))) 0 0 (sgA 52 h sz) := by
  sorry
abbrev WkX11_never : List (Nat × Nat × Option Nat) := [(8, 8, none), (9, 9, none), (10, 10, some 2), (10, 10, some 3), (11, 11, none), (12, 12, none)]
set_option maxHeartbeats 4000000 in
set_option maxRecDepth 100000 in
theorem kX11_never (l : Launch) (D : va_G) (ca : Nat → ClassId) (za h : Nat → Nat) (hh : sgH 52 h) (f : sg_F) (L : sg_L) (Q : sg_Q) (hI : sgI loX hiX f) (x0 : Int32) (x1 : Int32) (x2 : Int32) (sz : Nat) : Met l yX11_never gwX11_never { frames := 5, cells := 0, slots := 0, locals := 126 } (sgP D vwCl (tyX ca) 52 h (eX ca h) zcX za f L Q sz [.ref (h 0), .int x0, .int x1, .int x2]) (sgQi D vwCl 52 h (eX ca h) sz (fun r f1 L1 Q1 => ((sgI loX hiX f1 ∧ sgK WkX11_never f f1 ∧ L1 = L ∧ Q1 = Q) ∧ True ∧ (r, f1) = sX11_never x0 x1 x2 f L))) 0 0 (sgA 52 h sz) := by
  sorry
abbrev WkX8_worstLoss : List (Nat × Nat × Option Nat) := [(8, 8, none), (9, 9, none)]
set_option maxHeartbeats 4000000 in
set_option maxRecDepth 100000 in
theorem kX8_worstLoss (l : Launch) (D : va_G) (ca : Nat → ClassId) (za h : Nat → Nat) (hh : sgH 52 h) (f : sg_F) (L : sg_L) (Q : sg_Q) (hI : sgI loX hiX f) (x0 : Int32) (x1 : Int32) (b0 : 0 ≤ x0.toInt ∧ x0.toInt ≤ 2) (b1 : 0 ≤ x1.toInt ∧ x1.toInt ≤ 60) (sz : Nat) : Met l yX8_worstLoss gwX8_worstLoss { frames := 4, cells := 0, slots := 0, locals := 102 } (sgP D vwCl (tyX ca) 52 h (eX ca h) zcX za f L Q sz [.ref (h 17), .int x0, .int x1]) (sgQi D vwCl 52 h (eX ca h) sz (fun r f1 L1 Q1 => ((sgI loX hiX f1 ∧ sgK WkX8_worstLoss f f1 ∧ L1 = L ∧ Q1 = Q) ∧ (0 ≤ r.toInt ∧ r.toInt ≤ 10000) ∧ (r, f1) = sX8_worstLoss x0 x1 f L))) 0 0 (sgA 52 h sz) := by
  sorry
abbrev WkX8_bestOf : List (Nat × Nat × Option Nat) := [(8, 8, none), (9, 9, none)]
set_option maxHeartbeats 4000000 in
set_option maxRecDepth 100000 in
theorem kX8_bestOf (l : Launch) (D : va_G) (ca : Nat → ClassId) (za h : Nat → Nat) (hh : sgH 52 h) (f : sg_F) (L : sg_L) (Q : sg_Q) (hI : sgI loX hiX f) (x0 : Int32) (x1 : Int32) (b0 : 0 ≤ x0.toInt ∧ x0.toInt ≤ 2) (b1 : 0 ≤ x1.toInt ∧ x1.toInt ≤ 3) (sz : Nat) : Met l yX8_bestOf gwX8_bestOf { frames := 5, cells := 0, slots := 0, locals := 126 } (sgP D vwCl (tyX ca) 52 h (eX ca h) zcX za f L Q sz [.ref (h 17), .int x0, .int x1]) (sgQi D vwCl 52 h (eX ca h) sz (fun r f1 L1 Q1 => ((sgI loX hiX f1 ∧ sgK WkX8_bestOf f f1 ∧ L1 = L ∧ Q1 = Q) ∧ True ∧ (r, f1) = sX8_bestOf x0 x1 f L))) 0 0 (sgA 52 h sz) := by
  sorry
abbrev WkX11_best : List (Nat × Nat × Option Nat) := [(8, 8, none), (9, 9, none), (10, 10, some 2), (10, 10, some 3), (11, 11, none), (12, 12, none)]
set_option maxHeartbeats 4000000 in
set_option maxRecDepth 100000 in
theorem kX11_best (l : Launch) (D : va_G) (ca : Nat → ClassId) (za h : Nat → Nat) (hh : sgH 52 h) (f : sg_F) (L : sg_L) (Q : sg_Q) (hI : sgI loX hiX f) (x0 : Int32) (x1 : Int32) (x2 : Int32) (sz : Nat) : Met l yX11_best gwX11_best { frames := 6, cells := 0, slots := 0, locals := 152 } (sgP D vwCl (tyX ca) 52 h (eX ca h) zcX za f L Q sz [.ref (h 0), .int x0, .int x1, .int x2]) (sgQi D vwCl 52 h (eX ca h) sz (fun r f1 L1 Q1 => ((sgI loX hiX f1 ∧ sgK WkX11_best f f1 ∧ L1 = L ∧ Q1 = Q) ∧ True ∧ (r, f1) = sX11_best x0 x1 x2 f L))) 0 0 (sgA 52 h sz) := by
  sorry
abbrev WkX8_weighWants : List (Nat × Nat × Option Nat) := [(18, 18, none), (19, 19, none)]
set_option maxHeartbeats 4000000 in
set_option maxRecDepth 100000 in
theorem kX8_weighWants (l : Launch) (D : va_G) (ca : Nat → ClassId) (za h : Nat → Nat) (hh : sgH 52 h) (f : sg_F) (L : sg_L) (Q : sg_Q) (hI : sgI loX hiX f) (x0 : Int32) (b0 : 0 ≤ x0.toInt ∧ x0.toInt ≤ 2) (sz : Nat) : Met l yX8_weighWants gwX8_weighWants { frames := 1, cells := 0, slots := 0, locals := 22 } (sgP D vwCl (tyX ca) 52 h (eX ca h) zcX za f L Q sz [.ref (h 17), .int x0]) (sgQi D vwCl 52 h (eX ca h) sz (fun r f1 L1 Q1 => ((sgI loX hiX f1 ∧ sgK WkX8_weighWants f f1 ∧ L1 = L ∧ Q1 = Q) ∧ True ∧ (r, f1) = sX8_weighWants x0 f L))) 0 0 (sgA 52 h sz) := by
  sorry
abbrev WkX8_middleWant : List (Nat × Nat × Option Nat) := [(18, 18, none), (19, 19, none)]
set_option maxHeartbeats 4000000 in
set_option maxRecDepth 100000 in
theorem kX8_middleWant (l : Launch) (D : va_G) (ca : Nat → ClassId) (za h : Nat → Nat) (hh : sgH 52 h) (f : sg_F) (L : sg_L) (Q : sg_Q) (hI : sgI loX hiX f) (x0 : Int32) (b0 : 0 ≤ x0.toInt ∧ x0.toInt ≤ 2) (sz : Nat) : Met l yX8_middleWant gwX8_middleWant { frames := 2, cells := 0, slots := 0, locals := 48 } (sgP D vwCl (tyX ca) 52 h (eX ca h) zcX za f L Q sz [.ref (h 17), .int x0]) (sgQi D vwCl 52 h (eX ca h) sz (fun r f1 L1 Q1 => ((sgI loX hiX f1 ∧ sgK WkX8_middleWant f f1 ∧ L1 = L ∧ Q1 = Q) ∧ ((-2) ≤ r.toInt ∧ r.toInt ≤ 60) ∧ (r, f1) = sX8_middleWant x0 f L))) 0 0 (sgA 52 h sz) := by
  sorry
abbrev WkX11_middle : List (Nat × Nat × Option Nat) := [(10, 10, some 2), (10, 10, some 3), (11, 11, none), (12, 12, none), (18, 18, none), (19, 19, none)]
set_option maxHeartbeats 4000000 in
set_option maxRecDepth 100000 in
theorem kX11_middle (l : Launch) (D : va_G) (ca : Nat → ClassId) (za h : Nat → Nat) (hh : sgH 52 h) (f : sg_F) (L : sg_L) (Q : sg_Q) (hI : sgI loX hiX f) (x0 : Int32) (x1 : Int32) (sz : Nat) : Met l yX11_middle gwX11_middle { frames := 3, cells := 0, slots := 0, locals := 72 } (sgP D vwCl (tyX ca) 52 h (eX ca h) zcX za f L Q sz [.ref (h 0), .int x0, .int x1]) (sgQi D vwCl 52 h (eX ca h) sz (fun r f1 L1 Q1 => ((sgI loX hiX f1 ∧ sgK WkX11_middle f f1 ∧ L1 = L ∧ Q1 = Q) ∧ ((-12) ≤ r.toInt ∧ r.toInt ≤ 60) ∧ (r, f1) = sX11_middle x0 x1 f L))) 0 0 (sgA 52 h sz) := by
  sorry
set_option maxHeartbeats 4000000 in
set_option maxRecDepth 100000 in
theorem kX0_slipped (l : Launch) (D : va_G) (ca : Nat → ClassId) (za h : Nat → Nat) (hh : sgH 52 h) (f : sg_F) (L : sg_L) (Q : sg_Q) (hI : sgI loX hiX f) (x0 : Int32) (x1 : Int32) (b0 : 0 ≤ x0.toInt ∧ x0.toInt ≤ 2) (b1 : 0 ≤ x1.toInt ∧ x1.toInt ≤ 60) (sz : Nat) : Met l yX0_slipped gwX0_slipped { frames := 1, cells := 0, slots := 0, locals := 21 } (sgP D vwCl (tyX ca) 52 h (eX ca h) zcX za f L Q sz [.ref (h 1), .int x0, .int x1]) (sgQi D vwCl 52 h (eX ca h) sz (fun r f1 L1 Q1 => ((f1 = f ∧ L1 = L ∧ Q1 = Q) ∧ (0 ≤ r.toInt ∧ r.toInt ≤ 60) ∧ (r) = sX0_slipped x0 x1 f L))) 0 0 (sgA 52 h sz) := by
  sorry
abbrev WkX9_unturned : List (Nat × Nat × Option Nat) := [(8, 8, none), (9, 9, none)]
set_option maxHeartbeats 4000000 in
set_option maxRecDepth 100000 in
theorem kX9_unturned (l : Launch) (D : va_G) (ca : Nat → ClassId) (za h : Nat → Nat) (hh : sgH 52 h) (f : sg_F) (L : sg_L) (Q : sg_Q) (hI : sgI loX hiX f) (x0 : Int32) (x1 : Int32) (x2 : Int32) (b0 : 0 ≤ x0.toInt ∧ x0.toInt ≤ 2) (b1 : 0 ≤ x1.toInt ∧ x1.toInt ≤ 20) (b2 : 0 ≤ x2.toInt ∧ x2.toInt ≤ 60) (sz : Nat) : Met l yX9_unturned gwX9_unturned { frames := 4, cells := 0, slots := 0, locals := 102 } (sgP D vwCl (tyX ca) 52 h (eX ca h) zcX za f L Q sz [.ref (h 25), .int x0, .int x1, .int x2]) (sgQi D vwCl 52 h (eX ca h) sz (fun r f1 L1 Q1 => ((sgI loX hiX f1 ∧ sgK WkX9_unturned f f1 ∧ L1 = L ∧ Q1 = Q) ∧ True ∧ (r, f1) = sX9_unturned x0 x1 x2 f L))) 0 0 (sgA 52 h sz) := by
  sorry
set_option maxHeartbeats 4000000 in
set_option maxRecDepth 100000 in
theorem kX0_priceOf (l : Launch) (D : va_G) (ca : Nat → ClassId) (za h : Nat → Nat) (hh : sgH 52 h) (f : sg_F) (L : sg_L) (Q : sg_Q) (hI : sgI loX hiX f) (x0 : Int32) (b0 : 0 ≤ x0.toInt ∧ x0.toInt ≤ 2) (sz : Nat) : Met l yX0_priceOf gwX0_priceOf { frames := 0, cells := 0, slots := 0, locals := 0 } (sgP D vwCl (tyX ca) 52 h (eX ca h) zcX za f L Q sz [.ref (h 1), .int x0]) (sgQi D vwCl 52 h (eX ca h) sz (fun r f1 L1 Q1 => ((f1 = f ∧ L1 = L ∧ Q1 = Q) ∧ (0 ≤ r.toInt ∧ r.toInt ≤ 99) ∧ (r) = sX0_priceOf x0 f L))) 0 0 (sgA 52 h sz) := by
  sorry
abbrev WkX9_spread : List (Nat × Nat × Option Nat) := [(26, 26, none)]
set_option maxHeartbeats 4000000 in
set_option maxRecDepth 100000 in
theorem kX9_spread (l : Launch) (D : va_G) (ca : Nat → ClassId) (za h : Nat → Nat) (hh : sgH 52 h) (f : sg_F) (L : sg_L) (Q : sg_Q) (hI : sgI loX hiX f) (x0 : Int32) (x1 : Int32) (b0 : 0 ≤ x0.toInt ∧ x0.toInt ≤ 1220) (b1 : 0 ≤ x1.toInt ∧ x1.toInt ≤ 99) (sz : Nat) : Met l yX9_spread gwX9_spread { frames := 1, cells := 0, slots := 0, locals := 21 } (sgP D vwCl (tyX ca) 52 h (eX ca h) zcX za f L Q sz [.ref (h 25), .int x0, .int x1]) (sgQv D vwCl 52 h (eX ca h) sz (fun f1 L1 Q1 => ((sgI loX hiX f1 ∧ sgK WkX9_spread f f1 ∧ L1 = L ∧ Q1 = Q) ∧ (f1) = sX9_spread x0 x1 f L))) 0 0 (sgA 52 h sz) := by
  sorry
abbrev WkX9_pay : List (Nat × Nat × Option Nat) := [(8, 8, none), (9, 9, none), (26, 26, none)]
set_option maxHeartbeats 4000000 in
set_option maxRecDepth 100000 in
theorem kX9_pay (l : Launch) (D : va_G) (ca : Nat → ClassId) (za h : Nat → Nat) (hh : sgH 52 h) (f : sg_F) (L : sg_L) (Q : sg_Q) (hI : sgI loX hiX f) (x0 : Int32) (x1 : Int32) (b0 : 0 ≤ x0.toInt ∧ x0.toInt ≤ 2) (b1 : 0 ≤ x1.toInt ∧ x1.toInt ≤ 1) (sz : Nat) : Met l yX9_pay gwX9_pay { frames := 5, cells := 0, slots := 0, locals := 126 } (sgP D vwCl (tyX ca) 52 h (eX ca h) zcX za f L Q sz [.ref (h 25), .int x0, .int x1]) (sgQv D vwCl 52 h (eX ca h) sz (fun f1 L1 Q1 => ((sgI loX hiX f1 ∧ sgK WkX9_pay f f1 ∧ L1 = L ∧ Q1 = Q) ∧ (f1) = sX9_pay x0 x1 f L))) 0 0 (sgA 52 h sz) := by
  sorry
abbrev WkX9_leastSetting : List (Nat × Nat × Option Nat) := [(8, 8, none), (9, 9, none)]
set_option maxHeartbeats 4000000 in
set_option maxRecDepth 100000 in
theorem kX9_leastSetting (l : Launch) (D : va_G) (ca : Nat → ClassId) (za h : Nat → Nat) (hh : sgH 52 h) (f : sg_F) (L : sg_L) (Q : sg_Q) (hI : sgI loX hiX f) (x0 : Int32) (x1 : Int32) (x2 : Int32) (b0 : 0 ≤ x0.toInt ∧ x0.toInt ≤ 2) (b1 : 0 ≤ x1.toInt ∧ x1.toInt ≤ 20) (b2 : 0 ≤ x2.toInt ∧ x2.toInt ≤ 60) (sz : Nat) : Met l yX9_leastSetting gwX9_leastSetting { frames := 5, cells := 0, slots := 0, locals := 126 } (sgP D vwCl (tyX ca) 52 h (eX ca h) zcX za f L Q sz [.ref (h 25), .int x0, .int x1, .int x2]) (sgQi D vwCl 52 h (eX ca h) sz (fun r f1 L1 Q1 => ((sgI loX hiX f1 ∧ sgK WkX9_leastSetting f f1 ∧ L1 = L ∧ Q1 = Q) ∧ (0 ≤ r.toInt ∧ r.toInt ≤ 60) ∧ (r, f1) = sX9_leastSetting x0 x1 x2 f L))) 0 0 (sgA 52 h sz) := by
  sorry
abbrev WkX9_shiftByShift : List (Nat × Nat × Option Nat) := [(8, 8, none), (9, 9, none), (26, 26, none)]
set_option maxHeartbeats 4000000 in
set_option maxRecDepth 100000 in
theorem kX9_shiftByShift (l : Launch) (D : va_G) (ca : Nat → ClassId) (za h : Nat → Nat) (hh : sgH 52 h) (f : sg_F) (L : sg_L) (Q : sg_Q) (hI : sgI loX hiX f) (x0 : Int32) (x1 : Int32) (b0 : 0 ≤ x0.toInt ∧ x0.toInt ≤ 2) (b1 : (-1) ≤ x1.toInt ∧ x1.toInt ≤ 20) (sz : Nat) : Met l yX9_shiftByShift gwX9_shiftByShift { frames := 6, cells := 0, slots := 0, locals := 152 } (sgP D vwCl (tyX ca) 52 h (eX ca h) zcX za f L Q sz [.ref (h 25), .int x0, .int x1]) (sgQi D vwCl 52 h (eX ca h) sz (fun r f1 L1 Q1 => ((sgI loX hiX f1 ∧ sgK WkX9_shiftByShift f f1 ∧ L1 = L ∧ Q1 = Q) ∧ True ∧ (r, f1) = sX9_shiftByShift x0 x1 f L))) 0 0 (sgA 52 h sz) := by
  sorry
abbrev WkX11_shifts : List (Nat × Nat × Option Nat) := [(8, 8, none), (9, 9, none), (10, 10, some 2), (10, 10, some 3), (11, 11, none), (12, 12, none), (26, 26, none)]
set_option maxHeartbeats 4000000 in
set_option maxRecDepth 100000 in
theorem kX11_shifts (l : Launch) (D : va_G) (ca : Nat → ClassId) (za h : Nat → Nat) (hh : sgH 52 h) (f : sg_F) (L : sg_L) (Q : sg_Q) (hI : sgI loX hiX f) (x0 : Int32) (x1 : Int32) (x2 : Int32) (sz : Nat) : Met l yX11_shifts gwX11_shifts { frames := 7, cells := 0, slots := 0, locals := 177 } (sgP D vwCl (tyX ca) 52 h (eX ca h) zcX za f L Q sz [.ref (h 0), .int x0, .int x1, .int x2]) (sgQi D vwCl 52 h (eX ca h) sz (fun r f1 L1 Q1 => ((sgI loX hiX f1 ∧ sgK WkX11_shifts f f1 ∧ L1 = L ∧ Q1 = Q) ∧ True ∧ (r, f1) = sX11_shifts x0 x1 x2 f L))) 0 0 (sgA 52 h sz) := by
  sorry
abbrev WkX9_oneTurning : List (Nat × Nat × Option Nat) := [(8, 8, none), (9, 9, none), (26, 26, none)]
set_option maxHeartbeats 4000000 in
set_option maxRecDepth 100000 in
theorem kX9_oneTurning (l : Launch) (D : va_G) (ca : Nat → ClassId) (za h : Nat → Nat) (hh : sgH 52 h) (f : sg_F) (L : sg_L) (Q : sg_Q) (hI : sgI loX hiX f) (x0 : Int32) (x1 : Int32) (b0 : 0 ≤ x0.toInt ∧ x0.toInt ≤ 2) (b1 : 0 ≤ x1.toInt ∧ x1.toInt ≤ 2) (sz : Nat) : Met l yX9_oneTurning gwX9_oneTurning { frames := 6, cells := 0, slots := 0, locals := 151 } (sgP D vwCl (tyX ca) 52 h (eX ca h) zcX za f L Q sz [.ref (h 25), .int x0, .int x1]) (sgQi D vwCl 52 h (eX ca h) sz (fun r f1 L1 Q1 => ((sgI loX hiX f1 ∧ sgK WkX9_oneTurning f f1 ∧ L1 = L ∧ Q1 = Q) ∧ True ∧ (r, f1) = sX9_oneTurning x0 x1 f L))) 0 0 (sgA 52 h sz) := by
  sorry
abbrev WkX11_once : List (Nat × Nat × Option Nat) := [(8, 8, none), (9, 9, none), (10, 10, some 2), (10, 10, some 3), (11, 11, none), (12, 12, none), (26, 26, none)]
set_option maxHeartbeats 4000000 in
set_option maxRecDepth 100000 in
theorem kX11_once (l : Launch) (D : va_G) (ca : Nat → ClassId) (za h : Nat → Nat) (hh : sgH 52 h) (f : sg_F) (L : sg_L) (Q : sg_Q) (hI : sgI loX hiX f) (x0 : Int32) (x1 : Int32) (x2 : Int32) (sz : Nat) : Met l yX11_once gwX11_once { frames := 7, cells := 0, slots := 0, locals := 182 } (sgP D vwCl (tyX ca) 52 h (eX ca h) zcX za f L Q sz [.ref (h 0), .int x0, .int x1, .int x2]) (sgQi D vwCl 52 h (eX ca h) sz (fun r f1 L1 Q1 => ((sgI loX hiX f1 ∧ sgK WkX11_once f f1 ∧ L1 = L ∧ Q1 = Q) ∧ True ∧ (r, f1) = sX11_once x0 x1 x2 f L))) 0 0 (sgA 52 h sz) := by
  sorry
abbrev WkX4_standAsNow : List (Nat × Nat × Option Nat) := [(14, 14, none)]
set_option maxHeartbeats 4000000 in
set_option maxRecDepth 100000 in
theorem kX4_standAsNow (l : Launch) (D : va_G) (ca : Nat → ClassId) (za h : Nat → Nat) (hh : sgH 52 h) (f : sg_F) (L : sg_L) (Q : sg_Q) (hI : sgI loX hiX f) (sz : Nat) : Met l yX4_standAsNow gwX4_standAsNow { frames := 0, cells := 0, slots := 0, locals := 0 } (sgP D vwCl (tyX ca) 52 h (eX ca h) zcX za f L Q sz [.ref (h 13)]) (sgQv D vwCl 52 h (eX ca h) sz (fun f1 L1 Q1 => ((sgI loX hiX f1 ∧ sgK WkX4_standAsNow f f1 ∧ L1 = L ∧ Q1 = Q) ∧ (f1) = sX4_standAsNow f L))) 0 0 (sgA 52 h sz) := by
  sorry
abbrev WkX4_begin : List (Nat × Nat × Option Nat) := [(13, 13, some 5), (13, 13, some 6), (14, 14, none), (15, 15, none), (16, 16, none)]
set_option maxHeartbeats 4000000 in
set_option maxRecDepth 100000 in
theorem kX4_begin (l : Launch) (D : va_G) (ca : Nat → ClassId) (za h : Nat → Nat) (hh : sgH 52 h) (f : sg_F) (L : sg_L) (Q : sg_Q) (hI : sgI loX hiX f) (sz : Nat) : Met l yX4_begin gwX4_begin { frames := 1, cells := 0, slots := 0, locals := 21 } (sgP D vwCl (tyX ca) 52 h (eX ca h) zcX za f L Q sz [.ref (h 13)]) (sgQv D vwCl 52 h (eX ca h) sz (fun f1 L1 Q1 => ((sgI loX hiX f1 ∧ sgK WkX4_begin f f1 ∧ L1 = L ∧ Q1 = Q) ∧ (f1) = sX4_begin f L))) 0 0 (sgA 52 h sz) := by
  sorry
set_option maxHeartbeats 4000000 in
set_option maxRecDepth 100000 in
theorem kX0_turned (l : Launch) (D : va_G) (ca : Nat → ClassId) (za h : Nat → Nat) (hh : sgH 52 h) (f : sg_F) (L : sg_L) (Q : sg_Q) (hI : sgI loX hiX f) (x0 : Int32) (x1 : Int32) (x2 : Int32) (x3 : Int32) (b0 : 0 ≤ x0.toInt ∧ x0.toInt ≤ 7) (b1 : 0 ≤ x1.toInt ∧ x1.toInt ≤ 2) (b2 : 0 ≤ x2.toInt ∧ x2.toInt ≤ 60) (b3 : 0 ≤ x3.toInt ∧ x3.toInt ≤ 60) (sz : Nat) : Met l yX0_turned gwX0_turned { frames := 1, cells := 0, slots := 0, locals := 22 } (sgP D vwCl (tyX ca) 52 h (eX ca h) zcX za f L Q sz [.ref (h 1), .int x0, .int x1, .int x2, .int x3]) (sgQi D vwCl 52 h (eX ca h) sz (fun r f1 L1 Q1 => ((f1 = f ∧ L1 = L ∧ Q1 = Q) ∧ (0 ≤ r.toInt ∧ r.toInt ≤ 60) ∧ (r) = sX0_turned x0 x1 x2 x3 f L))) 0 0 (sgA 52 h sz) := by
  sorry
abbrev WkX4_turnTo : List (Nat × Nat × Option Nat) := [(13, 13, some 6), (14, 14, none), (15, 15, none)]
set_option maxHeartbeats 4000000 in
set_option maxRecDepth 100000 in
theorem kX4_turnTo (l : Launch) (D : va_G) (ca : Nat → ClassId) (za h : Nat → Nat) (hh : sgH 52 h) (f : sg_F) (L : sg_L) (Q : sg_Q) (hI : sgI loX hiX f) (x0 : Int32) (x1 : Int32) (b0 : 0 ≤ x0.toInt ∧ x0.toInt ≤ 2) (b1 : 0 ≤ x1.toInt ∧ x1.toInt ≤ 60) (sz : Nat) : Met l yX4_turnTo gwX4_turnTo { frames := 1, cells := 0, slots := 0, locals := 21 } (sgP D vwCl (tyX ca) 52 h (eX ca h) zcX za f L Q sz [.ref (h 13), .int x0, .int x1]) (sgQi D vwCl 52 h (eX ca h) sz (fun r f1 L1 Q1 => ((sgI loX hiX f1 ∧ sgK WkX4_turnTo f f1 ∧ L1 = L ∧ Q1 = Q) ∧ True ∧ (r, f1) = sX4_turnTo x0 x1 f L))) 0 0 (sgA 52 h sz) := by
  sorry
set_option maxHeartbeats 4000000 in
set_option maxRecDepth 100000 in
theorem kX0_fetch (l : Launch) (D : va_G) (ca : Nat → ClassId) (za h : Nat → Nat) (hh : sgH 52 h) (f : sg_F) (L : sg_L) (Q : sg_Q) (hI : sgI loX hiX f) (sz : Nat) : Met l yX0_fetch gwX0_fetch { frames := 0, cells := 0, slots := 0, locals := 0 } (sgP D vwCl (tyX ca) 52 h (eX ca h) zcX za f L Q sz [.ref (h 1)]) (sgQi D vwCl 52 h (eX ca h) sz (fun r f1 L1 Q1 => ((f1 = f ∧ L1 = L ∧ Q1 = Q) ∧ (0 ≤ r.toInt ∧ r.toInt ≤ 99) ∧ (r) = sX0_fetch f L))) 0 0 (sgA 52 h sz) := by
  sorry
abbrev WkX4_comes : List (Nat × Nat × Option Nat) := [(8, 8, none), (9, 9, none), (13, 13, some 5), (13, 13, some 6), (14, 14, none), (15, 15, none), (16, 16, none)]
set_option maxHeartbeats 4000000 in
set_option maxRecDepth 100000 in
theorem kX4_comes (l : Launch) (D : va_G) (ca : Nat → ClassId) (za h : Nat → Nat) (hh : sgH 52 h) (f : sg_F) (L : sg_L) (Q : sg_Q) (hI : sgI loX hiX f) (x0 : Int32) (b0 : 0 ≤ x0.toInt ∧ x0.toInt ≤ 7) (sz : Nat) : Met l yX4_comes gwX4_comes { frames := 4, cells := 0, slots := 0, locals := 102 } (sgP D vwCl (tyX ca) 52 h (eX ca h) zcX za f L Q sz [.ref (h 13), .int x0]) (sgQv D vwCl 52 h (eX ca h) sz (fun f1 L1 Q1 => ((sgI loX hiX f1 ∧ sgK WkX4_comes f f1 ∧ L1 = L ∧ Q1 = Q) ∧ (f1) = sX4_comes x0 f L))) 0 0 (sgA 52 h sz) := by
  sorry
abbrev WkX4_slip : List (Nat × Nat × Option Nat) := [(14, 14, none)]
set_option maxHeartbeats 4000000 in
set_option maxRecDepth 100000 in
theorem kX4_slip (l : Launch) (D : va_G) (ca : Nat → ClassId) (za h : Nat → Nat) (hh : sgH 52 h) (f : sg_F) (L : sg_L) (Q : sg_Q) (hI : sgI loX hiX f) (sz : Nat) : Met l yX4_slip gwX4_slip { frames := 2, cells := 0, slots := 0, locals := 43 } (sgP D vwCl (tyX ca) 52 h (eX ca h) zcX za f L Q sz [.ref (h 13)]) (sgQv D vwCl 52 h (eX ca h) sz (fun f1 L1 Q1 => ((sgI loX hiX f1 ∧ sgK WkX4_slip f f1 ∧ L1 = L ∧ Q1 = Q) ∧ (f1) = sX4_slip f L))) 0 0 (sgA 52 h sz) := by
  sorry
