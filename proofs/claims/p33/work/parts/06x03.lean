/-! contracts of any state. Laid by a program (wip/tool) -/
abbrev WkX4_leaves : List (Nat × Nat × Option Nat) := [(13, 13, some 6), (14, 14, none), (15, 15, none)]
set_option maxHeartbeats 4000000 in
set_option maxRecDepth 100000 in
theorem kX4_leaves (l : Launch) (D : va_G) (ca : Nat → ClassId) (za h : Nat → Nat) (hh : sgH 52 h) (f : sg_F) (L : sg_L) (Q : sg_Q) (hI : sgI loX hiX f) (sz : Nat) : Met l yX4_leaves gwX4_leaves { frames := 2, cells := 0, slots := 0, locals := 45 } (sgP D vwCl (tyX ca) 52 h (eX ca h) zcX za f L Q sz [.ref (h 13)]) (sgQv D vwCl 52 h (eX ca h) sz (fun f1 L1 Q1 => ((sgI loX hiX f1 ∧ sgK WkX4_leaves f f1 ∧ L1 = L ∧ Q1 = Q) ∧ (f1) = sX4_leaves f L))) 0 0 (sgA 52 h sz) := by
  sorry
abbrev WkX4_pass : List (Nat × Nat × Option Nat) := [(8, 8, none), (9, 9, none), (13, 13, some 5), (13, 13, some 6), (14, 14, none), (15, 15, none), (16, 16, none)]
set_option maxHeartbeats 4000000 in
set_option maxRecDepth 100000 in
theorem kX4_pass (l : Launch) (D : va_G) (ca : Nat → ClassId) (za h : Nat → Nat) (hh : sgH 52 h) (f : sg_F) (L : sg_L) (Q : sg_Q) (hI : sgI loX hiX f) (x0 : Int32) (b0 : (-1) ≤ x0.toInt ∧ x0.toInt ≤ 7) (sz : Nat) : Met l yX4_pass gwX4_pass { frames := 5, cells := 0, slots := 0, locals := 127 } (sgP D vwCl (tyX ca) 52 h (eX ca h) zcX za f L Q sz [.ref (h 13), .int x0]) (sgQv D vwCl 52 h (eX ca h) sz (fun f1 L1 Q1 => ((sgI loX hiX f1 ∧ sgK WkX4_pass f f1 ∧ L1 = L ∧ Q1 = Q) ∧ (f1) = sX4_pass x0 f L))) 0 0 (sgA 52 h sz) := by
  sorry
abbrev WkX4_live : List (Nat × Nat × Option Nat) := [(8, 8, none), (9, 9, none), (13, 13, some 5), (13, 13, some 6), (14, 14, none), (15, 15, none), (16, 16, none)]
set_option maxHeartbeats 4000000 in
set_option maxRecDepth 100000 in
theorem kX4_live (l : Launch) (D : va_G) (ca : Nat → ClassId) (za h : Nat → Nat) (hh : sgH 52 h) (f : sg_F) (L : sg_L) (Q : sg_Q) (hI : sgI loX hiX f) (x0 : Int32) (b0 : 0 ≤ x0.toInt ∧ x0.toInt ≤ 21) (sz : Nat) : Met l yX4_live gwX4_live { frames := 6, cells := 0, slots := 0, locals := 148 } (sgP D vwCl (tyX ca) 52 h (eX ca h) zcX za f L Q sz [.ref (h 13), .int x0]) (sgQv D vwCl 52 h (eX ca h) sz (fun f1 L1 Q1 => ((sgI loX hiX f1 ∧ sgK WkX4_live f f1 ∧ L1 = L ∧ Q1 = Q) ∧ (f1) = sX4_live x0 f L))) 0 0 (sgA 52 h sz) := by
  sorry
set_option maxHeartbeats 4000000 in
set_option maxRecDepth 100000 in
theorem kX4_allTurns (l : Launch) (D : va_G) (ca : Nat → ClassId) (za h : Nat → Nat) (hh : sgH 52 h) (f : sg_F) (L : sg_L) (Q : sg_Q) (hI : sgI loX hiX f) (sz : Nat) : Met l yX4_allTurns gwX4_allTurns { frames := 0, cells := 0, slots := 0, locals := 0 } (sgP D vwCl (tyX ca) 52 h (eX ca h) zcX za f L Q sz [.ref (h 13)]) (sgQi D vwCl 52 h (eX ca h) sz (fun r f1 L1 Q1 => ((f1 = f ∧ L1 = L ∧ Q1 = Q) ∧ True ∧ (r) = sX4_allTurns f L))) 0 0 (sgA 52 h sz) := by
  sorry
abbrev WkX11_week : List (Nat × Nat × Option Nat) := [(8, 8, none), (9, 9, none), (10, 10, some 2), (10, 10, some 3), (11, 11, none), (12, 12, none), (13, 13, some 5), (13, 13, some 6), (14, 14, none), (15, 15, none), (16, 16, none)]
set_option maxHeartbeats 4000000 in
set_option maxRecDepth 100000 in
theorem kX11_week (l : Launch) (D : va_G) (ca : Nat → ClassId) (za h : Nat → Nat) (hh : sgH 52 h) (f : sg_F) (L : sg_L) (Q : sg_Q) (hI : sgI loX hiX f) (x0 : Int32) (x1 : Int32) (sz : Nat) : Met l yX11_week gwX11_week { frames := 7, cells := 0, slots := 0, locals := 170 } (sgP D vwCl (tyX ca) 52 h (eX ca h) zcX za f L Q sz [.ref (h 0), .int x0, .int x1]) (sgQi D vwCl 52 h (eX ca h) sz (fun r f1 L1 Q1 => ((sgI loX hiX f1 ∧ sgK WkX11_week f f1 ∧ L1 = L ∧ Q1 = Q) ∧ True ∧ (r, f1) = sX11_week x0 x1 f L))) 0 0 (sgA 52 h sz) := by
  sorry
abbrev WkX11_stands : List (Nat × Nat × Option Nat) := [(8, 8, none), (9, 9, none), (10, 10, some 2), (10, 10, some 3), (11, 11, none), (12, 12, none), (13, 13, some 5), (13, 13, some 6), (14, 14, none), (15, 15, none), (16, 16, none)]
set_option maxHeartbeats 4000000 in
set_option maxRecDepth 100000 in
theorem kX11_stands (l : Launch) (D : va_G) (ca : Nat → ClassId) (za h : Nat → Nat) (hh : sgH 52 h) (f : sg_F) (L : sg_L) (Q : sg_Q) (hI : sgI loX hiX f) (x0 : Int32) (x1 : Int32) (x2 : Int32) (sz : Nat) : Met l yX11_stands gwX11_stands { frames := 7, cells := 0, slots := 0, locals := 170 } (sgP D vwCl (tyX ca) 52 h (eX ca h) zcX za f L Q sz [.ref (h 0), .int x0, .int x1, .int x2]) (sgQi D vwCl 52 h (eX ca h) sz (fun r f1 L1 Q1 => ((sgI loX hiX f1 ∧ sgK WkX11_stands f f1 ∧ L1 = L ∧ Q1 = Q) ∧ ((-12) ≤ r.toInt ∧ r.toInt ≤ 60) ∧ (r, f1) = sX11_stands x0 x1 x2 f L))) 0 0 (sgA 52 h sz) := by
  sorry
abbrev WkX4_bestNear : List (Nat × Nat × Option Nat) := [(8, 8, none), (9, 9, none), (13, 13, some 5), (13, 13, some 6), (13, 13, some 7), (13, 13, some 8), (14, 14, none), (15, 15, none), (16, 16, none)]
set_option maxHeartbeats 4000000 in
set_option maxRecDepth 100000 in
theorem kX4_bestNear (l : Launch) (D : va_G) (ca : Nat → ClassId) (za h : Nat → Nat) (hh : sgH 52 h) (f : sg_F) (L : sg_L) (Q : sg_Q) (hI : sgI loX hiX f) (x0 : Int32) (x1 : Int32) (b0 : 0 ≤ x0.toInt ∧ x0.toInt ≤ 7) (b1 : 0 ≤ x1.toInt ∧ x1.toInt ≤ 1) (sz : Nat) : Met l yX4_bestNear gwX4_bestNear { frames := 7, cells := 0, slots := 0, locals := 170 } (sgP D vwCl (tyX ca) 52 h (eX ca h) zcX za f L Q sz [.ref (h 13), .int x0, .int x1]) (sgQi D vwCl 52 h (eX ca h) sz (fun r f1 L1 Q1 => ((sgI loX hiX f1 ∧ sgK WkX4_bestNear f f1 ∧ L1 = L ∧ Q1 = Q) ∧ True ∧ (r, f1) = sX4_bestNear x0 x1 f L))) 0 0 (sgA 52 h sz) := by
  sorry
abbrev WkX11_pays : List (Nat × Nat × Option Nat) := [(8, 8, none), (9, 9, none), (10, 10, some 2), (10, 10, some 3), (11, 11, none), (12, 12, none), (13, 13, some 5), (13, 13, some 6), (13, 13, some 7), (13, 13, some 8), (14, 14, none), (15, 15, none), (16, 16, none)]
set_option maxHeartbeats 4000000 in
set_option maxRecDepth 100000 in
theorem kX11_pays (l : Launch) (D : va_G) (ca : Nat → ClassId) (za h : Nat → Nat) (hh : sgH 52 h) (f : sg_F) (L : sg_L) (Q : sg_Q) (hI : sgI loX hiX f) (x0 : Int32) (x1 : Int32) (x2 : Int32) (sz : Nat) : Met l yX11_pays gwX11_pays { frames := 8, cells := 0, slots := 0, locals := 195 } (sgP D vwCl (tyX ca) 52 h (eX ca h) zcX za f L Q sz [.ref (h 0), .int x0, .int x1, .int x2]) (sgQi D vwCl 52 h (eX ca h) sz (fun r f1 L1 Q1 => ((sgI loX hiX f1 ∧ sgK WkX11_pays f f1 ∧ L1 = L ∧ Q1 = Q) ∧ True ∧ (r, f1) = sX11_pays x0 x1 x2 f L))) 0 0 (sgA 52 h sz) := by
  sorry
set_option maxHeartbeats 4000000 in
set_option maxRecDepth 100000 in
theorem kJ6_bitCount_0f7a4 (l : Launch) (D : va_G) (ca : Nat → ClassId) (za h : Nat → Nat) (hh : sgH 52 h) (f : sg_F) (L : sg_L) (Q : sg_Q) (hI : sgI loX hiX f) (x0 : Int32) (b0 : 0 ≤ x0.toInt ∧ x0.toInt ≤ 255) (sz : Nat) : Met l yJ6_bitCount_0f7a4 gwJ6_bitCount_0f7a4 { frames := 0, cells := 0, slots := 0, locals := 0 } (sgP D vwCl (tyX ca) 52 h (eX ca h) zcX za f L Q sz [.int x0]) (sgQi D vwCl 52 h (eX ca h) sz (fun r f1 L1 Q1 => ((f1 = f ∧ L1 = L ∧ Q1 = Q) ∧ True ∧ (r) = sJ6_bitCount_0f7a4 x0 f L))) 0 0 (sgA 52 h sz) := by
  sorry
set_option maxHeartbeats 4000000 in
set_option maxRecDepth 100000 in
theorem kX4_sparedBy (l : Launch) (D : va_G) (ca : Nat → ClassId) (za h : Nat → Nat) (hh : sgH 52 h) (f : sg_F) (L : sg_L) (Q : sg_Q) (hI : sgI loX hiX f) (x0 : Int32) (b0 : 1 ≤ x0.toInt ∧ x0.toInt ≤ 255) (sz : Nat) : Met l yX4_sparedBy gwX4_sparedBy { frames := 0, cells := 0, slots := 0, locals := 0 } (sgP D vwCl (tyX ca) 52 h (eX ca h) zcX za f L Q sz [.ref (h 13), .int x0]) (sgQi D vwCl 52 h (eX ca h) sz (fun r f1 L1 Q1 => ((f1 = f ∧ L1 = L ∧ Q1 = Q) ∧ True ∧ (r) = sX4_sparedBy x0 f L))) 0 0 (sgA 52 h sz) := by
  sorry
abbrev WkX4_bestMemories : List (Nat × Nat × Option Nat) := [(8, 8, none), (9, 9, none), (13, 13, some 5), (13, 13, some 6), (14, 14, none), (15, 15, none), (16, 16, none)]
set_option maxHeartbeats 4000000 in
set_option maxRecDepth 100000 in
theorem kX4_bestMemories (l : Launch) (D : va_G) (ca : Nat → ClassId) (za h : Nat → Nat) (hh : sgH 52 h) (f : sg_F) (L : sg_L) (Q : sg_Q) (hI : sgI loX hiX f) (x0 : Int32) (x1 : Int32) (b0 : 0 ≤ x0.toInt ∧ x0.toInt ≤ 3) (b1 : 0 ≤ x1.toInt ∧ x1.toInt ≤ 1) (sz : Nat) : Met l yX4_bestMemories gwX4_bestMemories { frames := 7, cells := 0, slots := 0, locals := 170 } (sgP D vwCl (tyX ca) 52 h (eX ca h) zcX za f L Q sz [.ref (h 13), .int x0, .int x1]) (sgQi D vwCl 52 h (eX ca h) sz (fun r f1 L1 Q1 => ((sgI loX hiX f1 ∧ sgK WkX4_bestMemories f f1 ∧ L1 = L ∧ Q1 = Q) ∧ True ∧ (r, f1) = sX4_bestMemories x0 x1 f L))) 0 0 (sgA 52 h sz) := by
  sorry
abbrev WkX11_memories : List (Nat × Nat × Option Nat) := [(8, 8, none), (9, 9, none), (10, 10, some 2), (10, 10, some 3), (11, 11, none), (12, 12, none), (13, 13, some 5), (13, 13, some 6), (14, 14, none), (15, 15, none), (16, 16, none)]
set_option maxHeartbeats 4000000 in
set_option maxRecDepth 100000 in
theorem kX11_memories (l : Launch) (D : va_G) (ca : Nat → ClassId) (za h : Nat → Nat) (hh : sgH 52 h) (f : sg_F) (L : sg_L) (Q : sg_Q) (hI : sgI loX hiX f) (x0 : Int32) (x1 : Int32) (x2 : Int32) (sz : Nat) : Met l yX11_memories gwX11_memories { frames := 8, cells := 0, slots := 0, locals := 198 } (sgP D vwCl (tyX ca) 52 h (eX ca h) zcX za f L Q sz [.ref (h 0), .int x0, .int x1, .int x2]) (sgQi D vwCl 52 h (eX ca h) sz (fun r f1 L1 Q1 => ((sgI loX hiX f1 ∧ sgK WkX11_memories f f1 ∧ L1 = L ∧ Q1 = Q) ∧ True ∧ (r, f1) = sX11_memories x0 x1 x2 f L))) 0 0 (sgA 52 h sz) := by
  sorry
abbrev WkX4_savedByMarks : List (Nat × Nat × Option Nat) := [(8, 8, none), (9, 9, none), (13, 13, some 5), (13, 13, some 6), (14, 14, none), (15, 15, none), (16, 16, none)]
set_option maxHeartbeats 4000000 in
set_option maxRecDepth 100000 in
theorem kX4_savedByMarks (l : Launch) (D : va_G) (ca : Nat → ClassId) (za h : Nat → Nat) (hh : sgH 52 h) (f : sg_F) (L : sg_L) (Q : sg_Q) (hI : sgI loX hiX f) (sz : Nat) : Met l yX4_savedByMarks gwX4_savedByMarks { frames := 7, cells := 0, slots := 0, locals := 170 } (sgP D vwCl (tyX ca) 52 h (eX ca h) zcX za f L Q sz [.ref (h 13)]) (sgQi D vwCl 52 h (eX ca h) sz (fun r f1 L1 Q1 => ((sgI loX hiX f1 ∧ sgK WkX4_savedByMarks f f1 ∧ L1 = L ∧ Q1 = Q) ∧ True ∧ (r, f1) = sX4_savedByMarks f L))) 0 0 (sgA 52 h sz) := by
  sorry
abbrev WkX11_marked : List (Nat × Nat × Option Nat) := [(8, 8, none), (9, 9, none), (10, 10, some 2), (10, 10, some 3), (11, 11, none), (12, 12, none), (13, 13, some 5), (13, 13, some 6), (14, 14, none), (15, 15, none), (16, 16, none)]
set_option maxHeartbeats 4000000 in
set_option maxRecDepth 100000 in
theorem kX11_marked (l : Launch) (D : va_G) (ca : Nat → ClassId) (za h : Nat → Nat) (hh : sgH 52 h) (f : sg_F) (L : sg_L) (Q : sg_Q) (hI : sgI loX hiX f) (x0 : Int32) (sz : Nat) : Met l yX11_marked gwX11_marked { frames := 8, cells := 0, slots := 0, locals := 193 } (sgP D vwCl (tyX ca) 52 h (eX ca h) zcX za f L Q sz [.ref (h 0), .int x0]) (sgQi D vwCl 52 h (eX ca h) sz (fun r f1 L1 Q1 => ((sgI loX hiX f1 ∧ sgK WkX11_marked f f1 ∧ L1 = L ∧ Q1 = Q) ∧ True ∧ (r, f1) = sX11_marked x0 f L))) 0 0 (sgA 52 h sz) := by
  sorry
abbrev WkX8_gather : List (Nat × Nat × Option Nat) := [(17, 17, some 9), (20, 20, none)]
set_option maxHeartbeats 4000000 in
set_option maxRecDepth 100000 in
theorem kX8_gather (l : Launch) (D : va_G) (ca : Nat → ClassId) (za h : Nat → Nat) (hh : sgH 52 h) (f : sg_F) (L : sg_L) (Q : sg_Q) (hI : sgI loX hiX f) (sz : Nat) : Met l yX8_gather gwX8_gather { frames := 0, cells := 0, slots := 0, locals := 0 } (sgP D vwCl (tyX ca) 52 h (eX ca h) zcX za f L Q sz [.ref (h 17)]) (sgQv D vwCl 52 h (eX ca h) sz (fun f1 L1 Q1 => ((sgI loX hiX f1 ∧ sgK WkX8_gather f f1 ∧ L1 = L ∧ Q1 = Q) ∧ (f1) = sX8_gather f L))) 0 0 (sgA 52 h sz) := by
  sorry
abbrev WkX8_sumGroupsUpTo_0 : List (Nat × Nat × Option Nat) := [(21, 21, none), (22, 22, none)]
set_option maxHeartbeats 4000000 in
set_option maxRecDepth 100000 in
theorem kX8_sumGroupsUpTo_0 (l : Launch) (D : va_G) (ca : Nat → ClassId) (za h : Nat → Nat) (hh : sgH 52 h) (f : sg_F) (L : sg_L) (Q : sg_Q) (hI : sgI loX hiX f) (x1 : Int32) (x2 : Int32) (b2 : 0 ≤ x2.toInt ∧ x2.toInt ≤ 1) (sz : Nat) : Met l yX8_sumGroupsUpTo gwX8_sumGroupsUpTo { frames := 1, cells := 0, slots := 0, locals := 21 } (sgP D vwCl (tyX ca) 52 h (eX ca h) zcX za f L Q sz [.ref (h 17), .int 0, .int x1, .int x2]) (sgQv D vwCl 52 h (eX ca h) sz (fun f1 L1 Q1 => ((sgI loX hiX f1 ∧ sgK WkX8_sumGroupsUpTo_0 f f1 ∧ L1 = L ∧ Q1 = Q) ∧ (f1) = sX8_sumGroupsUpTo_0 x1 x2 f L))) 0 0 (sgA 52 h sz) := by
  sorry
abbrev WkX8_sumGroupsUpTo_1 : List (Nat × Nat × Option Nat) := [(21, 21, none), (22, 22, none)]
set_option maxHeartbeats 4000000 in
set_option maxRecDepth 100000 in
theorem kX8_sumGroupsUpTo_1 (l : Launch) (D : va_G) (ca : Nat → ClassId) (za h : Nat → Nat) (hh : sgH 52 h) (f : sg_F) (L : sg_L) (Q : sg_Q) (hI : sgI loX hiX f) (x1 : Int32) (x2 : Int32) (b2 : 0 ≤ x2.toInt ∧ x2.toInt ≤ 1) (sz : Nat) : Met l yX8_sumGroupsUpTo gwX8_sumGroupsUpTo { frames := 1, cells := 0, slots := 0, locals := 21 } (sgP D vwCl (tyX ca) 52 h (eX ca h) zcX za f L Q sz [.ref (h 17), .int 1, .int x1, .int x2]) (sgQv D vwCl 52 h (eX ca h) sz (fun f1 L1 Q1 => ((sgI loX hiX f1 ∧ sgK WkX8_sumGroupsUpTo_1 f f1 ∧ L1 = L ∧ Q1 = Q) ∧ (f1) = sX8_sumGroupsUpTo_1 x1 x2 f L))) 0 0 (sgA 52 h sz) := by
  sorry
abbrev WkX8_sumGroupsUpTo_2 : List (Nat × Nat × Option Nat) := [(21, 21, none), (22, 22, none)]
set_option maxHeartbeats 4000000 in
set_option maxRecDepth 100000 in
theorem kX8_sumGroupsUpTo_2 (l : Launch) (D : va_G) (ca : Nat → ClassId) (za h : Nat → Nat) (hh : sgH 52 h) (f : sg_F) (L : sg_L) (Q : sg_Q) (hI : sgI loX hiX f) (x1 : Int32) (x2 : Int32) (b2 : 0 ≤ x2.toInt ∧ x2.toInt ≤ 1) (sz : Nat) : Met l yX8_sumGroupsUpTo gwX8_sumGroupsUpTo { frames := 1, cells := 0, slots := 0, locals := 21 } (sgP D vwCl (tyX ca) 52 h (eX ca h) zcX za f L Q sz [.ref (h 17), .int 2, .int x1, .int x2]) (sgQv D vwCl 52 h (eX ca h) sz (fun f1 L1 Q1 => ((sgI loX hiX f1 ∧ sgK WkX8_sumGroupsUpTo_2 f f1 ∧ L1 = L ∧ Q1 = Q) ∧ (f1) = sX8_sumGroupsUpTo_2 x1 x2 f L))) 0 0 (sgA 52 h sz) := by
  sorry
abbrev WkX8_sumGroupsUpTo_3 : List (Nat × Nat × Option Nat) := [(21, 21, none), (22, 22, none)]
set_option maxHeartbeats 4000000 in
set_option maxRecDepth 100000 in
theorem kX8_sumGroupsUpTo_3 (l : Launch) (D : va_G) (ca : Nat → ClassId) (za h : Nat → Nat) (hh : sgH 52 h) (f : sg_F) (L : sg_L) (Q : sg_Q) (hI : sgI loX hiX f) (x1 : Int32) (x2 : Int32) (b2 : 0 ≤ x2.toInt ∧ x2.toInt ≤ 1) (sz : Nat) : Met l yX8_sumGroupsUpTo gwX8_sumGroupsUpTo { frames := 1, cells := 0, slots := 0, locals := 21 } (sgP D vwCl (tyX ca) 52 h (eX ca h) zcX za f L Q sz [.ref (h 17), .int 3, .int x1, .int x2]) (sgQv D vwCl 52 h (eX ca h) sz (fun f1 L1 Q1 => ((sgI loX hiX f1 ∧ sgK WkX8_sumGroupsUpTo_3 f f1 ∧ L1 = L ∧ Q1 = Q) ∧ (f1) = sX8_sumGroupsUpTo_3 x1 x2 f L))) 0 0 (sgA 52 h sz) := by
  sorry
abbrev WkX8_sumGroupsUpTo_4 : List (Nat × Nat × Option Nat) := [(21, 21, none), (22, 22, none)]
set_option maxHeartbeats 4000000 in
set_option maxRecDepth 100000 in
theorem kX8_sumGroupsUpTo_4 (l : Launch) (D : va_G) (ca : Nat → ClassId) (za h : Nat → Nat) (hh : sgH 52 h) (f : sg_F) (L : sg_L) (Q : sg_Q) (hI : sgI loX hiX f) (x1 : Int32) (x2 : Int32) (b2 : 0 ≤ x2.toInt ∧ x2.toInt ≤ 1) (sz : Nat) : Met l yX8_sumGroupsUpTo gwX8_sumGroupsUpTo { frames := 1, cells := 0, slots := 0, locals := 21 } (sgP D vwCl (tyX ca) 52 h (eX ca h) zcX za f L Q sz [.ref (h 17), .int 4, .int x1, .int x2]) (sgQv D vwCl 52 h (eX ca h) sz (fun f1 L1 Q1 => ((sgI loX hiX f1 ∧ sgK WkX8_sumGroupsUpTo_4 f f1 ∧ L1 = L ∧ Q1 = Q) ∧ (f1) = sX8_sumGroupsUpTo_4 x1 x2 f L))) 0 0 (sgA 52 h sz) := by
  sorry
abbrev WkX8_sumGroupsUpTo_5 : List (Nat × Nat × Option Nat) := [(21, 21, none), (22, 22, none)]
set_option maxHeartbeats 4000000 in
set_option maxRecDepth 100000 in
theorem kX8_sumGroupsUpTo_5 (l : Launch) (D : va_G) (ca : Nat → ClassId) (za h : Nat → Nat) (hh : sgH 52 h) (f : sg_F) (L : sg_L) (Q : sg_Q) (hI : sgI loX hiX f) (x1 : Int32) (x2 : Int32) (b2 : 0 ≤ x2.toInt ∧ x2.toInt ≤ 1) (sz : Nat) : Met l yX8_sumGroupsUpTo gwX8_sumGroupsUpTo { frames := 1, cells := 0, slots := 0, locals := 21 } (sgP D vwCl (tyX ca) 52 h (eX ca h) zcX za f L Q sz [.ref (h 17), .int 5, .int x1, .int x2]) (sgQv D vwCl 52 h (eX ca h) sz (fun f1 L1 Q1 => ((sgI loX hiX f1 ∧ sgK WkX8_sumGroupsUpTo_5 f f1 ∧ L1 = L ∧ Q1 = Q) ∧ (f1) = sX8_sumGroupsUpTo_5 x1 x2 f L))) 0 0 (sgA 52 h sz) := by
  sorry
abbrev WkX8_sumGroupsUpTo_6 : List (Nat × Nat × Option Nat) := [(21, 21, none), (22, 22, none)]
set_option maxHeartbeats 4000000 in
set_option maxRecDepth 100000 in
theorem kX8_sumGroupsUpTo_6 (l : Launch) (D : va_G) (ca : Nat → ClassId) (za h : Nat → Nat) (hh : sgH 52 h) (f : sg_F) (L : sg_L) (Q : sg_Q) (hI : sgI loX hiX f) (x1 : Int32) (x2 : Int32) (b2 : 0 ≤ x2.toInt ∧ x2.toInt ≤ 1) (sz : Nat) : Met l yX8_sumGroupsUpTo gwX8_sumGroupsUpTo { frames := 1, cells := 0, slots := 0, locals := 21 } (sgP D vwCl (tyX ca) 52 h (eX ca h) zcX za f L Q sz [.ref (h 17), .int 6, .int x1, .int x2]) (sgQv D vwCl 52 h (eX ca h) sz (fun f1 L1 Q1 => ((sgI loX hiX f1 ∧ sgK WkX8_sumGroupsUpTo_6 f f1 ∧ L1 = L ∧ Q1 = Q) ∧ (f1) = sX8_sumGroupsUpTo_6 x1 x2 f L))) 0 0 (sgA 52 h sz) := by
  sorry
abbrev WkX8_sumGroupsUpTo_7 : List (Nat × Nat × Option Nat) := [(21, 21, none), (22, 22, none)]
set_option maxHeartbeats 4000000 in
set_option maxRecDepth 100000 in
theorem kX8_sumGroupsUpTo_7 (l : Launch) (D : va_G) (ca : Nat → ClassId) (za h : Nat → Nat) (hh : sgH 52 h) (f : sg_F) (L : sg_L) (Q : sg_Q) (hI : sgI loX hiX f) (x1 : Int32) (x2 : Int32) (b2 : 0 ≤ x2.toInt ∧ x2.toInt ≤ 1) (sz : Nat) : Met l yX8_sumGroupsUpTo gwX8_sumGroupsUpTo { frames := 1, cells := 0, slots := 0, locals := 21 } (sgP D vwCl (tyX ca) 52 h (eX ca h) zcX za f L Q sz [.ref (h 17), .int 7, .int x1, .int x2]) (sgQv D vwCl 52 h (eX ca h) sz (fun f1 L1 Q1 => ((sgI loX hiX f1 ∧ sgK WkX8_sumGroupsUpTo_7 f f1 ∧ L1 = L ∧ Q1 = Q) ∧ (f1) = sX8_sumGroupsUpTo_7 x1 x2 f L))) 0 0 (sgA 52 h sz) := by
  sorry
abbrev WkX8_sumGroups : List (Nat × Nat × Option Nat) := [(8, 8, none), (9, 9, none), (21, 21, none), (22, 22, none)]
set_option maxHeartbeats 4000000 in
set_option maxRecDepth 100000 in
theorem kX8_sumGroups (l : Launch) (D : va_G) (ca : Nat → ClassId) (za h : Nat → Nat) (hh : sgH 52 h) (f : sg_F) (L : sg_L) (Q : sg_Q) (hI : sgI loX hiX f) (x0 : Int32) (b0 : 0 ≤ x0.toInt ∧ x0.toInt ≤ 2) (sz : Nat) : Met l yX8_sumGroups gwX8_sumGroups { frames := 4, cells := 0, slots := 0, locals := 102 } (sgP D vwCl (tyX ca) 52 h (eX ca h) zcX za f L Q sz [.ref (h 17), .int x0]) (sgQv D vwCl 52 h (eX ca h) sz (fun f1 L1 Q1 => ((sgI loX hiX f1 ∧ sgK WkX8_sumGroups f f1 ∧ L1 = L ∧ Q1 = Q) ∧ (f1) = sX8_sumGroups x0 f L))) 0 0 (sgA 52 h sz) := by
  sorry
abbrev WkX8_weigh : List (Nat × Nat × Option Nat) := [(17, 17, some 11), (17, 17, some 12), (24, 24, none)]
set_option maxHeartbeats 4000000 in
set_option maxRecDepth 100000 in
theorem kX8_weigh (l : Launch) (D : va_G) (ca : Nat → ClassId) (za h : Nat → Nat) (hh : sgH 52 h) (f : sg_F) (L : sg_L) (Q : sg_Q) (hI : sgI loX hiX f) (sz : Nat) : Met l yX8_weigh gwX8_weigh { frames := 0, cells := 0, slots := 0, locals := 0 } (sgP D vwCl (tyX ca) 52 h (eX ca h) zcX za f L Q sz [.ref (h 17)]) (sgQv D vwCl 52 h (eX ca h) sz (fun f1 L1 Q1 => ((sgI loX hiX f1 ∧ sgK WkX8_weigh f f1 ∧ L1 = L ∧ Q1 = Q) ∧ (f1) = sX8_weigh f L))) 0 0 (sgA 52 h sz) := by
  sorry
abbrev WkX8_part_8 : List (Nat × Nat × Option Nat) := [(17, 17, some 11), (17, 17, some 12), (24, 24, none)]
set_option maxHeartbeats 4000000 in
set_option maxRecDepth 100000 in
theorem kX8_part_8 (l : Launch) (D : va_G) (ca : Nat → ClassId) (za h : Nat → Nat) (hh : sgH 52 h) (f : sg_F) (L : sg_L) (Q : sg_Q) (hI : sgI loX hiX f) (sz : Nat) : Met l yX8_part gwX8_part { frames := 1, cells := 0, slots := 0, locals := 22 } (sgP D vwCl (tyX ca) 52 h (eX ca h) zcX za f L Q sz [.ref (h 17), .int 8]) (sgQv D vwCl 52 h (eX ca h) sz (fun f1 L1 Q1 => ((sgI loX hiX f1 ∧ sgK WkX8_part_8 f f1 ∧ L1 = L ∧ Q1 = Q) ∧ (f1) = sX8_part_8 f L))) 0 0 (sgA 52 h sz) := by
  sorry
abbrev WkX8_part_7 : List (Nat × Nat × Option Nat) := [(17, 17, some 11), (17, 17, some 12), (23, 23, none), (24, 24, none)]
set_option maxHeartbeats 4000000 in
set_option maxRecDepth 100000 in
theorem kX8_part_7 (l : Launch) (D : va_G) (ca : Nat → ClassId) (za h : Nat → Nat) (hh : sgH 52 h) (f : sg_F) (L : sg_L) (Q : sg_Q) (hI : sgI loX hiX f) (sz : Nat) : Met l yX8_part gwX8_part { frames := 2, cells := 0, slots := 0, locals := 44 } (sgP D vwCl (tyX ca) 52 h (eX ca h) zcX za f L Q sz [.ref (h 17), .int 7]) (sgQv D vwCl 52 h (eX ca h) sz (fun f1 L1 Q1 => ((sgI loX hiX f1 ∧ sgK WkX8_part_7 f f1 ∧ L1 = L ∧ Q1 = Q) ∧ (f1) = sX8_part_7 f L))) 0 0 (sgA 52 h sz) := by
  sorry
abbrev WkX8_part_6 : List (Nat × Nat × Option Nat) := [(17, 17, some 11), (17, 17, some 12), (23, 23, none), (24, 24, none)]
set_option maxHeartbeats 4000000 in
set_option maxRecDepth 100000 in
theorem kX8_part_6 (l : Launch) (D : va_G) (ca : Nat → ClassId) (za h : Nat → Nat) (hh : sgH 52 h) (f : sg_F) (L : sg_L) (Q : sg_Q) (hI : sgI loX hiX f) (sz : Nat) : Met l yX8_part gwX8_part { frames := 3, cells := 0, slots := 0, locals := 66 } (sgP D vwCl (tyX ca) 52 h (eX ca h) zcX za f L Q sz [.ref (h 17), .int 6]) (sgQv D vwCl 52 h (eX ca h) sz (fun f1 L1 Q1 => ((sgI loX hiX f1 ∧ sgK WkX8_part_6 f f1 ∧ L1 = L ∧ Q1 = Q) ∧ (f1) = sX8_part_6 f L))) 0 0 (sgA 52 h sz) := by
  sorry
abbrev WkX8_part_5 : List (Nat × Nat × Option Nat) := [(17, 17, some 11), (17, 17, some 12), (23, 23, none), (24, 24, none)]
set_option maxHeartbeats 4000000 in
set_option maxRecDepth 100000 in
theorem kX8_part_5 (l : Launch) (D : va_G) (ca : Nat → ClassId) (za h : Nat → Nat) (hh : sgH 52 h) (f : sg_F) (L : sg_L) (Q : sg_Q) (hI : sgI loX hiX f) (sz : Nat) : Met l yX8_part gwX8_part { frames := 4, cells := 0, slots := 0, locals := 88 } (sgP D vwCl (tyX ca) 52 h (eX ca h) zcX za f L Q sz [.ref (h 17), .int 5]) (sgQv D vwCl 52 h (eX ca h) sz (fun f1 L1 Q1 => ((sgI loX hiX f1 ∧ sgK WkX8_part_5 f f1 ∧ L1 = L ∧ Q1 = Q) ∧ (f1) = sX8_part_5 f L))) 0 0 (sgA 52 h sz) := by
  sorry
abbrev WkX8_part_4 : List (Nat × Nat × Option Nat) := [(17, 17, some 11), (17, 17, some 12), (23, 23, none), (24, 24, none)]
set_option maxHeartbeats 4000000 in
set_option maxRecDepth 100000 in
theorem kX8_part_4 (l : Launch) (D : va_G) (ca : Nat → ClassId) (za h : Nat → Nat) (hh : sgH 52 h) (f : sg_F) (L : sg_L) (Q : sg_Q) (hI : sgI loX hiX f) (sz : Nat) : Met l yX8_part gwX8_part { frames := 5, cells := 0, slots := 0, locals := 110 } (sgP D vwCl (tyX ca) 52 h (eX ca h) zcX za f L Q sz [.ref (h 17), .int 4]) (sgQv D vwCl 52 h (eX ca h) sz (fun f1 L1 Q1 => ((sgI loX hiX f1 ∧ sgK WkX8_part_4 f f1 ∧ L1 = L ∧ Q1 = Q) ∧ (f1) = sX8_part_4 f L))) 0 0 (sgA 52 h sz) := by
  sorry
abbrev WkX8_part_3 : List (Nat × Nat × Option Nat) := [(17, 17, some 11), (17, 17, some 12), (23, 23, none), (24, 24, none)]
set_option maxHeartbeats 4000000 in
set_option maxRecDepth 100000 in
theorem kX8_part_3 (l : Launch) (D : va_G) (ca : Nat → ClassId) (za h : Nat → Nat) (hh : sgH 52 h) (f : sg_F) (L : sg_L) (Q : sg_Q) (hI : sgI loX hiX f) (sz : Nat) : Met l yX8_part gwX8_part { frames := 6, cells := 0, slots := 0, locals := 132 } (sgP D vwCl (tyX ca) 52 h (eX ca h) zcX za f L Q sz [.ref (h 17), .int 3]) (sgQv D vwCl 52 h (eX ca h) sz (fun f1 L1 Q1 => ((sgI loX hiX f1 ∧ sgK WkX8_part_3 f f1 ∧ L1 = L ∧ Q1 = Q) ∧ (f1) = sX8_part_3 f L))) 0 0 (sgA 52 h sz) := by
  sorry
abbrev WkX8_part_2 : List (Nat × Nat × Option Nat) := [(17, 17, some 11), (17, 17, some 12), (23, 23, none), (24, 24, none)]
set_option maxHeartbeats 4000000 in
set_option maxRecDepth 100000 in
theorem kX8_part_2 (l : Launch) (D : va_G) (ca : Nat → ClassId) (za h : Nat → Nat) (hh : sgH 52 h) (f : sg_F) (L : sg_L) (Q : sg_Q) (hI : sgI loX hiX f) (sz : Nat) : Met l yX8_part gwX8_part { frames := 7, cells := 0, slots := 0, locals := 154 } (sgP D vwCl (tyX ca) 52 h (eX ca h) zcX za f L Q sz [.ref (h 17), .int 2]) (sgQv D vwCl 52 h (eX ca h) sz (fun f1 L1 Q1 => ((sgI loX hiX f1 ∧ sgK WkX8_part_2 f f1 ∧ L1 = L ∧ Q1 = Q) ∧ (f1) = sX8_part_2 f L))) 0 0 (sgA 52 h sz) := by
  sorry
abbrev WkX8_part_1 : List (Nat × Nat × Option Nat) := [(17, 17, some 11), (17, 17, some 12), (23, 23, none), (24, 24, none)]
set_option maxHeartbeats 4000000 in
set_option maxRecDepth 100000 in
theorem kX8_part_1 (l : Launch) (D : va_G) (ca : Nat → ClassId) (za h : Nat → Nat) (hh : sgH 52 h) (f : sg_F) (L : sg_L) (Q : sg_Q) (hI : sgI loX hiX f) (sz : Nat) : Met l yX8_part gwX8_part { frames := 8, cells := 0, slots := 0, locals := 176 } (sgP D vwCl (tyX ca) 52 h (eX ca h) zcX za f L Q sz [.ref (h 17), .int 1]) (sgQv D vwCl 52 h (eX ca h) sz (fun f1 L1 Q1 => ((sgI loX hiX f1 ∧ sgK WkX8_part_1 f f1 ∧ L1 = L ∧ Q1 = Q) ∧ (f1) = sX8_part_1 f L))) 0 0 (sgA 52 h sz) := by
  sorry
abbrev WkX8_part_0 : List (Nat × Nat × Option Nat) := [(17, 17, some 11), (17, 17, some 12), (23, 23, none), (24, 24, none)]
set_option maxHeartbeats 4000000 in
set_option maxRecDepth 100000 in
theorem kX8_part_0 (l : Launch) (D : va_G) (ca : Nat → ClassId) (za h : Nat → Nat) (hh : sgH 52 h) (f : sg_F) (L : sg_L) (Q : sg_Q) (hI : sgI loX hiX f) (sz : Nat) : Met l yX8_part gwX8_part { frames := 9, cells := 0, slots := 0, locals := 198 } (sgP D vwCl (tyX ca) 52 h (eX ca h) zcX za f L Q sz [.ref (h 17), .int 0]) (sgQv D vwCl 52 h (eX ca h) sz (fun f1 L1 Q1 => ((sgI loX hiX f1 ∧ sgK WkX8_part_0 f f1 ∧ L1 = L ∧ Q1 = Q) ∧ (f1) = sX8_part_0 f L))) 0 0 (sgA 52 h sz) := by
  sorry
set_option maxHeartbeats 4000000 in
set_option maxRecDepth 100000 in
theorem kX8_chairOf (l : Launch) (D : va_G) (ca : Nat → ClassId) (za h : Nat → Nat) (hh : sgH 52 h) (f : sg_F) (L : sg_L) (Q : sg_Q) (hI : sgI loX hiX f) (x0 : Int32) (b0 : 0 ≤ x0.toInt ∧ x0.toInt ≤ 7) (sz : Nat) : Met l yX8_chairOf gwX8_chairOf { frames := 0, cells := 0, slots := 0, locals := 0 } (sgP D vwCl (tyX ca) 52 h (eX ca h) zcX za f L Q sz [.ref (h 17), .int x0]) (sgQi D vwCl 52 h (eX ca h) sz (fun r f1 L1 Q1 => ((f1 = f ∧ L1 = L ∧ Q1 = Q) ∧ ((-2) ≤ r.toInt ∧ r.toInt ≤ 2) ∧ (r) = sX8_chairOf x0 f L))) 0 0 (sgA 52 h sz) := by
  sorry
abbrev WkX8_parted : List (Nat × Nat × Option Nat) := [(8, 8, none), (9, 9, none), (17, 17, some 9), (17, 17, some 10), (17, 17, some 11), (17, 17, some 12), (20, 20, none), (21, 21, none), (22, 22, none), (23, 23, none), (24, 24, none)]
set_option maxHeartbeats 4000000 in
set_option maxRecDepth 100000 in
theorem kX8_parted (l : Launch) (D : va_G) (ca : Nat → ClassId) (za h : Nat → Nat) (hh : sgH 52 h) (f : sg_F) (L : sg_L) (Q : sg_Q) (hI : sgI loX hiX f) (x0 : Int32) (x1 : Int32) (x2 : Int32) (b0 : 0 ≤ x0.toInt ∧ x0.toInt ≤ 2) (b1 : 1 ≤ x1.toInt ∧ x1.toInt ≤ 3) (b2 : (-1) ≤ x2.toInt ∧ x2.toInt ≤ 7) (sz : Nat) : Met l yX8_parted gwX8_parted { frames := 10, cells := 0, slots := 0, locals := 220 } (sgP D vwCl (tyX ca) 52 h (eX ca h) zcX za f L Q sz [.ref (h 17), .int x0, .int x1, .int x2]) (sgQi D vwCl 52 h (eX ca h) sz (fun r f1 L1 Q1 => ((sgI loX hiX f1 ∧ sgK WkX8_parted f f1 ∧ L1 = L ∧ Q1 = Q) ∧ True ∧ (r, f1) = sX8_parted x0 x1 x2 f L))) 0 0 (sgA 52 h sz) := by
  sorry
abbrev WkX11_chairs : List (Nat × Nat × Option Nat) := [(8, 8, none), (9, 9, none), (10, 10, some 2), (10, 10, some 3), (11, 11, none), (12, 12, none), (17, 17, some 9), (17, 17, some 10), (17, 17, some 11), (17, 17, some 12), (20, 20, none), (21, 21, none), (22, 22, none), (23, 23, none), (24, 24, none)]
set_option maxHeartbeats 4000000 in
set_option maxRecDepth 100000 in
theorem kX11_chairs (l : Launch) (D : va_G) (ca : Nat → ClassId) (za h : Nat → Nat) (hh : sgH 52 h) (f : sg_F) (L : sg_L) (Q : sg_Q) (hI : sgI loX hiX f) (x0 : Int32) (x1 : Int32) (x2 : Int32) (sz : Nat) : Met l yX11_chairs gwX11_chairs { frames := 11, cells := 0, slots := 0, locals := 243 } (sgP D vwCl (tyX ca) 52 h (eX ca h) zcX za f L Q sz [.ref (h 0), .int x0, .int x1, .int x2]) (sgQi D vwCl 52 h (eX ca h) sz (fun r f1 L1 Q1 => ((sgI loX hiX f1 ∧ sgK WkX11_chairs f f1 ∧ L1 = L ∧ Q1 = Q) ∧ True ∧ (r, f1) = sX11_chairs x0 x1 x2 f L))) 0 0 (sgA 52 h sz) := by
  sorry
abbrev WkX4_moreByWilful : List (Nat × Nat × Option Nat) := [(8, 8, none), (9, 9, none), (13, 13, some 5), (13, 13, some 6), (13, 13, some 9), (13, 13, some 10), (14, 14, none), (15, 15, none), (16, 16, none)]
set_option maxHeartbeats 4000000 in
set_option maxRecDepth 100000 in
theorem kX4_moreByWilful (l : Launch) (D : va_G) (ca : Nat → ClassId) (za h : Nat → Nat) (hh : sgH 52 h) (f : sg_F) (L : sg_L) (Q : sg_Q) (hI : sgI loX hiX f) (x0 : Int32) (x1 : Int32) (b0 : 0 ≤ x0.toInt ∧ x0.toInt ≤ 7) (b1 : 0 ≤ x1.toInt ∧ x1.toInt ≤ 60) (sz : Nat) : Met l yX4_moreByWilful gwX4_moreByWilful { frames := 7, cells := 0, slots := 0, locals := 170 } (sgP D vwCl (tyX ca) 52 h (eX ca h) zcX za f L Q sz [.ref (h 13), .int x0, .int x1]) (sgQi D vwCl 52 h (eX ca h) sz (fun r f1 L1 Q1 => ((sgI loX hiX f1 ∧ sgK WkX4_moreByWilful f f1 ∧ L1 = L ∧ Q1 = Q) ∧ True ∧ (r, f1) = sX4_moreByWilful x0 x1 f L))) 0 0 (sgA 52 h sz) := by
  sorry
abbrev WkX11_wilful : List (Nat × Nat × Option Nat) := [(8, 8, none), (9, 9, none), (10, 10, some 2), (10, 10, some 3), (11, 11, none), (12, 12, none), (13, 13, some 5), (13, 13, some 6), (13, 13, some 9), (13, 13, some 10), (14, 14, none), (15, 15, none), (16, 16, none)]
set_option maxHeartbeats 4000000 in
set_option maxRecDepth 100000 in
theorem kX11_wilful (l : Launch) (D : va_G) (ca : Nat → ClassId) (za h : Nat → Nat) (hh : sgH 52 h) (f : sg_F) (L : sg_L) (Q : sg_Q) (hI : sgI loX hiX f) (x0 : Int32) (x1 : Int32) (x2 : Int32) (sz : Nat) : Met l yX11_wilful gwX11_wilful { frames := 8, cells := 0, slots := 0, locals := 193 } (sgP D vwCl (tyX ca) 52 h (eX ca h) zcX za f L Q sz [.ref (h 0), .int x0, .int x1, .int x2]) (sgQi D vwCl 52 h (eX ca h) sz (fun r f1 L1 Q1 => ((sgI loX hiX f1 ∧ sgK WkX11_wilful f f1 ∧ L1 = L ∧ Q1 = Q) ∧ True ∧ (r, f1) = sX11_wilful x0 x1 x2 f L))) 0 0 (sgA 52 h sz) := by
  sorry
set_option maxHeartbeats 4000000 in
set_option maxRecDepth 100000 in
theorem kX6_behindShift (l : Launch) (D : va_G) (ca : Nat → ClassId) (za h : Nat → Nat) (hh : sgH 52 h) (f : sg_F) (L : sg_L) (Q : sg_Q) (hI : sgI loX hiX f) (x0 : Int32) (x1 : Int32) (b0 : (-1) ≤ x0.toInt ∧ x0.toInt ≤ 7) (b1 : 0 ≤ x1.toInt ∧ x1.toInt ≤ 60) (sz : Nat) : Met l yX6_behindShift gwX6_behindShift { frames := 2, cells := 0, slots := 0, locals := 47 } (sgP D vwCl (tyX ca) 52 h (eX ca h) zcX za f L Q sz [.ref (h 27), .int x0, .int x1]) (sgQi D vwCl 52 h (eX ca h) sz (fun r f1 L1 Q1 => ((f1 = f ∧ L1 = L ∧ Q1 = Q) ∧ (0 ≤ r.toInt ∧ r.toInt ≤ 60) ∧ (r) = sX6_behindShift x0 x1 f L))) 0 0 (sgA 52 h sz) := by
  sorry
set_option maxHeartbeats 4000000 in
set_option maxRecDepth 100000 in
theorem kX6_allBehind (l : Launch) (D : va_G) (ca : Nat → ClassId) (za h : Nat → Nat) (hh : sgH 52 h) (f : sg_F) (L : sg_L) (Q : sg_Q) (hI : sgI loX hiX f) (x0 : Int64) (x1 : Int32) (b1 : (-1) ≤ x1.toInt ∧ x1.toInt ≤ 7) (sz : Nat) : Met l yX6_allBehind gwX6_allBehind { frames := 3, cells := 0, slots := 0, locals := 69 } (sgP D vwCl (tyX ca) 52 h (eX ca h) zcX za f L Q sz [.ref (h 27), .long x0, .int x1]) (sgQl D vwCl 52 h (eX ca h) sz (fun r f1 L1 Q1 => ((f1 = f ∧ L1 = L ∧ Q1 = Q) ∧ True ∧ (r) = sX6_allBehind x0 x1 f L))) 0 0 (sgA 52 h sz) := by
  sorry
set_option maxHeartbeats 4000000 in
set_option maxRecDepth 100000 in
theorem kX6_asSeen (l : Launch) (D : va_G) (ca : Nat → ClassId) (za h : Nat → Nat) (hh : sgH 52 h) (f : sg_F) (L : sg_L) (Q : sg_Q) (hI : sgI loX hiX f) (x0 : Int32) (t : Nat) (ht_t : t < 6) (hq27 : Q 27 1 = some (h (40 + 2 * t))) (b0 : 0 ≤ x0.toInt ∧ x0.toInt ≤ 11) (sz : Nat) : Met l yX6_asSeen gwX6_asSeen { frames := 0, cells := 0, slots := 0, locals := 0 } (sgP D vwCl (tyX ca) 52 h (eX ca h) zcX za f L Q sz [.ref (h 27), .int x0]) (sgQl D vwCl 52 h (eX ca h) sz (fun r f1 L1 Q1 => ((f1 = f ∧ L1 = L ∧ Q1 = Q) ∧ True ∧ (r) = sX6_asSeen x0 t f L))) 0 0 (sgA 52 h sz) := by
  sorry
set_option maxHeartbeats 4000000 in
set_option maxRecDepth 100000 in
theorem kX6_reachedAhead (l : Launch) (D : va_G) (ca : Nat → ClassId) (za h : Nat → Nat) (hh : sgH 52 h) (f : sg_F) (L : sg_L) (Q : sg_Q) (hI : sgI loX hiX f) (x0 : Int32) (t : Nat) (ht_t : t < 6) (hq27 : Q 27 1 = some (h (40 + 2 * t))) (b0 : 0 ≤ x0.toInt ∧ x0.toInt ≤ 11) (sz : Nat) : Met l yX6_reachedAhead gwX6_reachedAhead { frames := 4, cells := 0, slots := 0, locals := 95 } (sgP D vwCl (tyX ca) 52 h (eX ca h) zcX za f L Q sz [.ref (h 27), .int x0]) (sgQl D vwCl 52 h (eX ca h) sz (fun r f1 L1 Q1 => ((f1 = f ∧ L1 = L ∧ Q1 = Q) ∧ True ∧ (r) = sX6_reachedAhead x0 t f L))) 0 0 (sgA 52 h sz) := by
  sorry
set_option maxHeartbeats 4000000 in
set_option maxRecDepth 100000 in
theorem kX6_allAhead (l : Launch) (D : va_G) (ca : Nat → ClassId) (za h : Nat → Nat) (hh : sgH 52 h) (f : sg_F) (L : sg_L) (Q : sg_Q) (hI : sgI loX hiX f) (x0 : Int64) (sz : Nat) : Met l yX6_allAhead gwX6_allAhead { frames := 3, cells := 0, slots := 0, locals := 69 } (sgP D vwCl (tyX ca) 52 h (eX ca h) zcX za f L Q sz [.ref (h 27), .long x0]) (sgQl D vwCl 52 h (eX ca h) sz (fun r f1 L1 Q1 => ((f1 = f ∧ L1 = L ∧ Q1 = Q) ∧ True ∧ (r) = sX6_allAhead x0 f L))) 0 0 (sgA 52 h sz) := by
  sorry
set_option maxHeartbeats 4000000 in
set_option maxRecDepth 100000 in
theorem kX6_fittingBehind (l : Launch) (D : va_G) (ca : Nat → ClassId) (za h : Nat → Nat) (hh : sgH 52 h) (f : sg_F) (L : sg_L) (Q : sg_Q) (hI : sgI loX hiX f) (x0 : Int32) (t : Nat) (ht_t : t < 6) (hq27 : Q 27 1 = some (h (40 + 2 * t))) (b0 : 0 ≤ x0.toInt ∧ x0.toInt ≤ 11) (sz : Nat) : Met l yX6_fittingBehind gwX6_fittingBehind { frames := 4, cells := 0, slots := 0, locals := 95 } (sgP D vwCl (tyX ca) 52 h (eX ca h) zcX za f L Q sz [.ref (h 27), .int x0]) (sgQl D vwCl 52 h (eX ca h) sz (fun r f1 L1 Q1 => ((f1 = f ∧ L1 = L ∧ Q1 = Q) ∧ True ∧ (r) = sX6_fittingBehind x0 t f L))) 0 0 (sgA 52 h sz) := by
  sorry
abbrev WkX6_mayHaveSat : List (Nat × Nat × Option Nat) := [(27, 27, some 2)]
set_option maxHeartbeats 4000000 in
set_option maxRecDepth 100000 in
theorem kX6_mayHaveSat (l : Launch) (D : va_G) (ca : Nat → ClassId) (za h : Nat → Nat) (hh : sgH 52 h) (f : sg_F) (L : sg_L) (Q : sg_Q) (hI : sgI loX hiX f) (t : Nat) (ht_t : t < 6) (x1 : Int32) (x2 : Int32) (b1 : 0 ≤ x1.toInt ∧ x1.toInt ≤ 2) (b2 : 0 ≤ x2.toInt ∧ x2.toInt ≤ 11) (sz : Nat) : Met l yX6_mayHaveSat gwX6_mayHaveSat { frames := 5, cells := 0, slots := 0, locals := 122 } (sgP D vwCl (tyX ca) 52 h (eX ca h) zcX za f L Q sz [.ref (h 27), .ref (h (40 + 2 * t)), .int x1, .int x2]) (sgQi D vwCl 52 h (eX ca h) sz (fun r f1 L1 Q1 => ((sgI loX hiX f1 ∧ sgK WkX6_mayHaveSat f f1 ∧ L1 = L ∧ True) ∧ True ∧ (r, f1) = sX6_mayHaveSat t x1 x2 f L))) 0 0 (sgA 52 h sz) := by
  sorry
abbrev WkX11_who : List (Nat × Nat × Option Nat) := [(27, 27, some 2)]
set_option maxHeartbeats 4000000 in
set_option maxRecDepth 100000 in
theorem kX11_who (l : Launch) (D : va_G) (ca : Nat → ClassId) (za h : Nat → Nat) (hh : sgH 52 h) (f : sg_F) (L : sg_L) (Q : sg_Q) (hI : sgI loX hiX f) (x0 : Int32) (x1 : Int32) (x2 : Int32) (sz : Nat) : Met l yX11_who gwX11_who { frames := 6, cells := 0, slots := 0, locals := 151 } (sgP D vwCl (tyX ca) 52 h (eX ca h) zcX za f L Q sz [.ref (h 0), .int x0, .int x1, .int x2]) (sgQi D vwCl 52 h (eX ca h) sz (fun r f1 L1 Q1 => ((sgI loX hiX f1 ∧ sgK WkX11_who f f1 ∧ L1 = L ∧ True) ∧ True ∧ (r, f1) = sX11_who x0 x1 x2 f L))) 0 0 (sgA 52 h sz) := by
  sorry
abbrev WkX11_firstUnlike : List (Nat × Nat × Option Nat) := [(8, 8, none), (9, 9, none), (13, 13, some 5), (13, 13, some 6), (14, 14, none), (15, 15, none), (16, 16, none)]
set_option maxHeartbeats 4000000 in
set_option maxRecDepth 100000 in
theorem kX11_firstUnlike (l : Launch) (D : va_G) (ca : Nat → ClassId) (za h : Nat → Nat) (hh : sgH 52 h) (f : sg_F) (L : sg_L) (Q : sg_Q) (hI : sgI loX hiX f) (t : Nat) (ht_t : t < 6) (x1 : Int32) (b1 : 0 ≤ x1.toInt ∧ x1.toInt ≤ 2) (sz : Nat) : Met l yX11_firstUnlike gwX11_firstUnlike { frames := 6, cells := 0, slots := 0, locals := 148 } (sgP D vwCl (tyX ca) 52 h (eX ca h) zcX za f L Q sz [.ref (h 0), .ref (h (40 + 2 * t)), .int x1]) (sgQi D vwCl 52 h (eX ca h) sz (fun r f1 L1 Q1 => ((sgI loX hiX f1 ∧ sgK WkX11_firstUnlike f f1 ∧ L1 = L ∧ Q1 = Q) ∧ ((-2) ≤ r.toInt ∧ r.toInt ≤ 20) ∧ (r, f1) = sX11_firstUnlike t x1 f L))) 0 0 (sgA 52 h sz) := by
  sorry
abbrev WkX11_judge : List (Nat × Nat × Option Nat) := [(8, 8, none), (9, 9, none), (10, 10, some 2), (10, 10, some 3), (11, 11, none), (12, 12, none), (13, 13, some 5), (13, 13, some 6), (14, 14, none), (15, 15, none), (16, 16, none)]
set_option maxHeartbeats 4000000 in
set_option maxRecDepth 100000 in
theorem kX11_judge (l : Launch) (D : va_G) (ca : Nat → ClassId) (za h : Nat → Nat) (hh : sgH 52 h) (f : sg_F) (L : sg_L) (Q : sg_Q) (hI : sgI loX hiX f) (x0 : Int32) (x1 : Int32) (sz : Nat) : Met l yX11_judge gwX11_judge { frames := 7, cells := 0, slots := 0, locals := 172 } (sgP D vwCl (tyX ca) 52 h (eX ca h) zcX za f L Q sz [.ref (h 0), .int x0, .int x1]) (sgQi D vwCl 52 h (eX ca h) sz (fun r f1 L1 Q1 => ((sgI loX hiX f1 ∧ sgK WkX11_judge f f1 ∧ L1 = L ∧ Q1 = Q) ∧ ((-12) ≤ r.toInt ∧ r.toInt ≤ 20) ∧ (r, f1) = sX11_judge x0 x1 f L))) 0 0 (sgA 52 h sz) := by
  sorry
abbrev WkX4_drawWeeks : List (Nat × Nat × Option Nat) := [(8, 8, none), (9, 9, none), (13, 13, some 5), (13, 13, some 6), (14, 14, none), (15, 15, none), (16, 16, none)]
set_option maxHeartbeats 4000000 in
set_option maxRecDepth 100000 in
theorem kX4_drawWeeks (l : Launch) (D : va_G) (ca : Nat → ClassId) (za h : Nat → Nat) (hh : sgH 52 h) (f : sg_F) (L : sg_L) (Q : sg_Q) (hI : sgI loX hiX f) (x0 : Int32) (x1 : Int32) (b1 : 1 ≤ x1.toInt ∧ x1.toInt ≤ 20) (sz : Nat) : Met l yX4_drawWeeks gwX4_drawWeeks { frames := 6, cells := 0, slots := 0, locals := 148 } (sgP D vwCl (tyX ca) 52 h (eX ca h) zcX za f L Q sz [.ref (h 13), .int x0, .int x1]) (sgQi D vwCl 52 h (eX ca h) sz (fun r f1 L1 Q1 => ((sgI loX hiX f1 ∧ sgK WkX4_drawWeeks f f1 ∧ L1 = L ∧ Q1 = Q) ∧ True ∧ (r, f1) = sX4_drawWeeks x0 x1 f L))) 0 0 (sgA 52 h sz) := by
  sorry
abbrev WkX11_drawn : List (Nat × Nat × Option Nat) := [(8, 8, none), (9, 9, none), (10, 10, some 2), (10, 10, some 3), (11, 11, none), (12, 12, none), (13, 13, some 5), (13, 13, some 6), (14, 14, none), (15, 15, none), (16, 16, none)]
set_option maxHeartbeats 4000000 in
set_option maxRecDepth 100000 in
theorem kX11_drawn (l : Launch) (D : va_G) (ca : Nat → ClassId) (za h : Nat → Nat) (hh : sgH 52 h) (f : sg_F) (L : sg_L) (Q : sg_Q) (hI : sgI loX hiX f) (x0 : Int32) (x1 : Int32) (x2 : Int32) (x3 : Int32) (sz : Nat) : Met l yX11_drawn gwX11_drawn { frames := 7, cells := 0, slots := 0, locals := 175 } (sgP D vwCl (tyX ca) 52 h (eX ca h) zcX za f L Q sz [.ref (h 0), .int x0, .int x1, .int x2, .int x3]) (sgQi D vwCl 52 h (eX ca h) sz (fun r f1 L1 Q1 => ((sgI loX hiX f1 ∧ sgK WkX11_drawn f f1 ∧ L1 = L ∧ Q1 = Q) ∧ True ∧ (r, f1) = sX11_drawn x0 x1 x2 x3 f L))) 0 0 (sgA 52 h sz) := by
  sorry
abbrev WkX2_comes : List (Nat × Nat × Option Nat) := [(3, 3, none), (8, 8, none), (9, 9, none), (13, 13, some 5), (13, 13, some 6), (14, 14, none), (15, 15, none), (16, 16, none), (29, 29, none)]
set_option maxHeartbeats 4000000 in
set_option maxRecDepth 100000 in
theorem kX2_comes (l : Launch) (D : va_G) (ca : Nat → ClassId) (za h : Nat → Nat) (hh : sgH 52 h) (f : sg_F) (L : sg_L) (Q : sg_Q) (hI : sgI loX hiX f) (x0 : Int32) (b0 : 0 ≤ x0.toInt ∧ x0.toInt ≤ 7) (sz : Nat) : Met l yX2_comes gwX2_comes { frames := 5, cells := 0, slots := 0, locals := 127 } (sgP D vwCl (tyX ca) 52 h (eX ca h) zcX za f L Q sz [.ref (h 28), .int x0]) (sgQi D vwCl 52 h (eX ca h) sz (fun r f1 L1 Q1 => ((sgI loX hiX f1 ∧ sgK WkX2_comes f f1 ∧ L1 = L ∧ Q1 = Q) ∧ True ∧ (r, f1) = sX2_comes x0 f L))) 0 0 (sgA 52 h sz) := by
  sorry
abbrev WkX11_sit : List (Nat × Nat × Option Nat) := [(3, 3, none), (8, 8, none), (9, 9, none), (13, 13, some 5), (13, 13, some 6), (14, 14, none), (15, 15, none), (16, 16, none), (29, 29, none)]
set_option maxHeartbeats 4000000 in
set_option maxRecDepth 100000 in
theorem kX11_sit (l : Launch) (D : va_G) (ca : Nat → ClassId) (za h : Nat → Nat) (hh : sgH 52 h) (f : sg_F) (L : sg_L) (Q : sg_Q) (hI : sgI loX hiX f) (x0 : Int32) (sz : Nat) : Met l yX11_sit gwX11_sit { frames := 6, cells := 0, slots := 0, locals := 148 } (sgP D vwCl (tyX ca) 52 h (eX ca h) zcX za f L Q sz [.ref (h 0), .int x0]) (sgQi D vwCl 52 h (eX ca h) sz (fun r f1 L1 Q1 => ((sgI loX hiX f1 ∧ sgK WkX11_sit f f1 ∧ L1 = L ∧ Q1 = Q) ∧ True ∧ (r, f1) = sX11_sit x0 f L))) 0 0 (sgA 52 h sz) := by
  sorry
abbrev WkX2_turns : List (Nat × Nat × Option Nat) := [(3, 3, none), (29, 29, none)]
set_option maxHeartbeats 4000000 in
set_option maxRecDepth 100000 in
theorem kX2_turns (l : Launch) (D : va_G) (ca : Nat → ClassId) (za h : Nat → Nat) (hh : sgH 52 h) (f : sg_F) (L : sg_L) (Q : sg_Q) (hI : sgI loX hiX f) (x0 : Int32) (x1 : Int32) (b0 : 0 ≤ x0.toInt ∧ x0.toInt ≤ 2) (b1 : 0 ≤ x1.toInt ∧ x1.toInt ≤ 60) (sz : Nat) : Met l yX2_turns gwX2_turns { frames := 1, cells := 0, slots := 0, locals := 21 } (sgP D vwCl (tyX ca) 52 h (eX ca h) zcX za f L Q sz [.ref (h 28), .int x0, .int x1]) (sgQi D vwCl 52 h (eX ca h) sz (fun r f1 L1 Q1 => ((sgI loX hiX f1 ∧ sgK WkX2_turns f f1 ∧ L1 = L ∧ Q1 = Q) ∧ (0 ≤ r.toInt ∧ r.toInt ≤ 60) ∧ (r, f1) = sX2_turns x0 x1 f L))) 0 0 (sgA 52 h sz) := by
  sorry
abbrev WkX11_set : List (Nat × Nat × Option Nat) := [(3, 3, none), (29, 29, none)]
set_option maxHeartbeats 4000000 in
set_option maxRecDepth 100000 in
theorem kX11_set (l : Launch) (D : va_G) (ca : Nat → ClassId) (za h : Nat → Nat) (hh : sgH 52 h) (f : sg_F) (L : sg_L) (Q : sg_Q) (hI : sgI loX hiX f) (x0 : Int32) (x1 : Int32) (sz : Nat) : Met l yX11_set gwX11_set { frames := 2, cells := 0, slots := 0, locals := 44 } (sgP D vwCl (tyX ca) 52 h (eX ca h) zcX za f L Q sz [.ref (h 0), .int x0, .int x1]) (sgQi D vwCl 52 h (eX ca h) sz (fun r f1 L1 Q1 => ((sgI loX hiX f1 ∧ sgK WkX11_set f f1 ∧ L1 = L ∧ Q1 = Q) ∧ ((-1) ≤ r.toInt ∧ r.toInt ≤ 60) ∧ (r, f1) = sX11_set x0 x1 f L))) 0 0 (sgA 52 h sz) := by
  sorry
abbrev WkX2_allSlip : List (Nat × Nat × Option Nat) := [(3, 3, none)]
set_option maxHeartbeats 4000000 in
set_option maxRecDepth 100000 in
theorem kX2_allSlip (l : Launch) (D : va_G) (ca : Nat → ClassId) (za h : Nat → Nat) (hh : sgH 52 h) (f : sg_F) (L : sg_L) (Q : sg_Q) (hI : sgI loX hiX f) (sz : Nat) : Met l yX2_allSlip gwX2_allSlip { frames := 2, cells := 0, slots := 0, locals := 43 } (sgP D vwCl (tyX ca) 52 h (eX ca h) zcX za f L Q sz [.ref (h 28)]) (sgQi D vwCl 52 h (eX ca h) sz (fun r f1 L1 Q1 => ((sgI loX hiX f1 ∧ sgK WkX2_allSlip f f1 ∧ L1 = L ∧ Q1 = Q) ∧ True ∧ (r, f1) = sX2_allSlip f L))) 0 0 (sgA 52 h sz) := by
  sorry
abbrev WkX11_night : List (Nat × Nat × Option Nat) := [(3, 3, none)]
set_option maxHeartbeats 4000000 in
set_option maxRecDepth 100000 in
theorem kX11_night (l : Launch) (D : va_G) (ca : Nat → ClassId) (za h : Nat → Nat) (hh : sgH 52 h) (f : sg_F) (L : sg_L) (Q : sg_Q) (hI : sgI loX hiX f) (sz : Nat) : Met l yX11_night gwX11_night { frames := 3, cells := 0, slots := 0, locals := 66 } (sgP D vwCl (tyX ca) 52 h (eX ca h) zcX za f L Q sz [.ref (h 0)]) (sgQi D vwCl 52 h (eX ca h) sz (fun r f1 L1 Q1 => ((sgI loX hiX f1 ∧ sgK WkX11_night f f1 ∧ L1 = L ∧ Q1 = Q) ∧ True ∧ (r, f1) = sX11_night f L))) 0 0 (sgA 52 h sz) := by
  sorry
set_option maxHeartbeats 4000000 in
set_option maxRecDepth 100000 in
theorem kX11_led (l : Launch) (D : va_G) (ca : Nat → ClassId) (za h : Nat → Nat) (hh : sgH 52 h) (f : sg_F) (L : sg_L) (Q : sg_Q) (hI : sgI loX hiX f) (x0 : Int32) (sz : Nat) : Met l yX11_led gwX11_led { frames := 0, cells := 0, slots := 0, locals := 0 } (sgP D vwCl (tyX ca) 52 h (eX ca h) zcX za f L Q sz [.ref (h 0), .int x0]) (sgQi D vwCl 52 h (eX ca h) sz (fun r f1 L1 Q1 => ((f1 = f ∧ L1 = L ∧ Q1 = Q) ∧ True ∧ (r) = sX11_led x0 f L))) 0 0 (sgA 52 h sz) := by
  sorry
abbrev WkX2_keepImage : List (Nat × Nat × Option Nat) := [(28, 28, some 5), (30, 30, none), (31, 31, none)]
set_option maxHeartbeats 4000000 in
set_option maxRecDepth 100000 in
theorem kX2_keepImage (l : Launch) (D : va_G) (ca : Nat → ClassId) (za h : Nat → Nat) (hh : sgH 52 h) (f : sg_F) (L : sg_L) (Q : sg_Q) (hI : sgI loX hiX f) (sz : Nat) : Met l yX2_keepImage gwX2_keepImage { frames := 1, cells := 0, slots := 0, locals := 64 } (sgP D vwCl (tyX ca) 52 h (eX ca h) zcX za f L Q sz [.ref (h 28)]) (sgQi D vwCl 52 h (eX ca h) sz (fun r f1 L1 Q1 => ((sgI loX hiX f1 ∧ sgK WkX2_keepImage f f1 ∧ L1 = L ∧ Q1 = Q) ∧ True ∧ (r, f1) = sX2_keepImage f L))) 0 0 (sgA 52 h sz) := by
  sorry
abbrev WkX11_image : List (Nat × Nat × Option Nat) := [(28, 28, some 5), (30, 30, none), (31, 31, none)]
set_option maxHeartbeats 4000000 in
set_option maxRecDepth 100000 in
theorem kX11_image (l : Launch) (D : va_G) (ca : Nat → ClassId) (za h : Nat → Nat) (hh : sgH 52 h) (f : sg_F) (L : sg_L) (Q : sg_Q) (hI : sgI loX hiX f) (sz : Nat) : Met l yX11_image gwX11_image { frames := 2, cells := 0, slots := 0, locals := 84 } (sgP D vwCl (tyX ca) 52 h (eX ca h) zcX za f L Q sz [.ref (h 0)]) (sgQi D vwCl 52 h (eX ca h) sz (fun r f1 L1 Q1 => ((sgI loX hiX f1 ∧ sgK WkX11_image f f1 ∧ L1 = L ∧ Q1 = Q) ∧ True ∧ (r, f1) = sX11_image f L))) 0 0 (sgA 52 h sz) := by
  sorry
abbrev WkX2_layBack : List (Nat × Nat × Option Nat) := [(3, 3, none), (29, 29, none)]
set_option maxHeartbeats 4000000 in
set_option maxRecDepth 100000 in
theorem kX2_layBack (l : Launch) (D : va_G) (ca : Nat → ClassId) (za h : Nat → Nat) (hh : sgH 52 h) (f : sg_F) (L : sg_L) (Q : sg_Q) (hI : sgI loX hiX f) (sz : Nat) : Met l yX2_layBack gwX2_layBack { frames := 1, cells := 0, slots := 0, locals := 64 } (sgP D vwCl (tyX ca) 52 h (eX ca h) zcX za f L Q sz [.ref (h 28)]) (sgQi D vwCl 52 h (eX ca h) sz (fun r f1 L1 Q1 => ((sgI loX hiX f1 ∧ sgK WkX2_layBack f f1 ∧ L1 = L ∧ Q1 = Q) ∧ True ∧ (r, f1) = sX2_layBack f L))) 0 0 (sgA 52 h sz) := by
  sorry
abbrev WkX11_back : List (Nat × Nat × Option Nat) := [(3, 3, none), (29, 29, none)]
set_option maxHeartbeats 4000000 in
set_option maxRecDepth 100000 in
theorem kX11_back (l : Launch) (D : va_G) (ca : Nat → ClassId) (za h : Nat → Nat) (hh : sgH 52 h) (f : sg_F) (L : sg_L) (Q : sg_Q) (hI : sgI loX hiX f) (sz : Nat) : Met l yX11_back gwX11_back { frames := 2, cells := 0, slots := 0, locals := 84 } (sgP D vwCl (tyX ca) 52 h (eX ca h) zcX za f L Q sz [.ref (h 0)]) (sgQi D vwCl 52 h (eX ca h) sz (fun r f1 L1 Q1 => ((sgI loX hiX f1 ∧ sgK WkX11_back f f1 ∧ L1 = L ∧ Q1 = Q) ∧ True ∧ (r, f1) = sX11_back f L))) 0 0 (sgA 52 h sz) := by
  sorry
abbrev WkX11_undo : List (Nat × Nat × Option Nat) := [(2, 2, none), (9, 9, none), (32, 32, some 3)]
set_option maxHeartbeats 4000000 in
set_option maxRecDepth 100000 in
theorem kX11_undo (l : Launch) (D : va_G) (ca : Nat → ClassId) (za h : Nat → Nat) (hh : sgH 52 h) (f : sg_F) (L : sg_L) (Q : sg_Q) (hI : sgI loX hiX f) (hJ : JX f) (sz : Nat) : Met l yX11_undo gwX11_undo { frames := 2, cells := 0, slots := 0, locals := 45 } (sgP D vwCl (tyX ca) 52 h (eX ca h) zcX za f L Q sz [.ref (h 0)]) (sgQi D vwCl 52 h (eX ca h) sz (fun r f1 L1 Q1 => ((sgI loX hiX f1 ∧ sgK WkX11_undo f f1 ∧ L1 = L ∧ Q1 = Q ∧ JX f1) ∧ ((-5) ≤ r.toInt ∧ r.toInt ≤ 39) ∧ (r, f1) = sX11_undo f L))) 0 0 (sgA 52 h sz) := by
  sorry
abbrev WkX11_redo : List (Nat × Nat × Option Nat) := [(2, 2, none), (9, 9, none), (32, 32, some 3)]
set_option maxHeartbeats 4000000 in
set_option maxRecDepth 100000 in
theorem kX11_redo (l : Launch) (D : va_G) (ca : Nat → ClassId) (za h : Nat → Nat) (hh : sgH 52 h) (f : sg_F) (L : sg_L) (Q : sg_Q) (hI : sgI loX hiX f) (hJ : JX f) (sz : Nat) : Met l yX11_redo gwX11_redo { frames := 2, cells := 0, slots := 0, locals := 45 } (sgP D vwCl (tyX ca) 52 h (eX ca h) zcX za f L Q sz [.ref (h 0)]) (sgQi D vwCl 52 h (eX ca h) sz (fun r f1 L1 Q1 => ((sgI loX hiX f1 ∧ sgK WkX11_redo f f1 ∧ L1 = L ∧ Q1 = Q ∧ JX f1) ∧ ((-100) ≤ r.toInt ∧ r.toInt ≤ 39) ∧ (r, f1) = sX11_redo f L))) 0 0 (sgA 52 h sz) := by
  sorry
set_option maxHeartbeats 4000000 in
set_option maxRecDepth 100000 in
theorem kX11_isKind (l : Launch) (D : va_G) (ca : Nat → ClassId) (za h : Nat → Nat) (hh : sgH 52 h) (f : sg_F) (L : sg_L) (Q : sg_Q) (hI : sgI loX hiX f) (x0 : Int32) (sz : Nat) : Met l yX11_isKind gwX11_isKind { frames := 0, cells := 0, slots := 0, locals := 0 } (sgP D vwCl (tyX ca) 52 h (eX ca h) zcX za f L Q sz [.int x0]) (sgQi D vwCl 52 h (eX ca h) sz (fun r f1 L1 Q1 => ((f1 = f ∧ L1 = L ∧ Q1 = Q) ∧ ((r = 1 ∧ (0 ≤ x0.toInt ∧ x0.toInt ≤ 7)) ∨ (r = 0 ∧ (¬ (0 ≤ x0.toInt ∧ x0.toInt ≤ 7)))) ∧ (r) = sX11_isKind x0 f L))) 0 0 (sgA 52 h sz) := by
  sorry
abbrev WkX3_comes : List (Nat × Nat × Option Nat) := [(36, 36, some 2), (37, 37, none)]
set_option maxHeartbeats 4000000 in
set_option maxRecDepth 100000 in
theorem kX3_comes (l : Launch) (D : va_G) (ca : Nat → ClassId) (za h : Nat → Nat) (hh : sgH 52 h) (f : sg_F) (L : sg_L) (Q : sg_Q) (hI : sgI loX hiX f) (x0 : Int32) (b0 : 0 ≤ x0.toInt ∧ x0.toInt ≤ 7) (sz : Nat) : Met l yX3_comes gwX3_comes { frames := 0, cells := 0, slots := 0, locals := 0 } (sgP D vwCl (tyX ca) 52 h (eX ca h) zcX za f L Q sz [.ref (h 36), .int x0]) (sgQi D vwCl 52 h (eX ca h) sz (fun r f1 L1 Q1 => ((sgI loX hiX f1 ∧ sgK WkX3_comes f f1 ∧ L1 = L ∧ Q1 = Q) ∧ ((-3) ≤ r.toInt ∧ r.toInt ≤ 49) ∧ (r, f1) = sX3_comes x0 f L))) 0 0 (sgA 52 h sz) := by
  sorry
