/-! contracts of any state. Laid by a program (wip/tool) -/
abbrev WkX12_compared_4 : List (Nat × Nat × Option Nat) := [(0, 0, some 13), (0, 0, some 15), (0, 0, some 16)]
set_option maxHeartbeats 4000000 in
set_option maxRecDepth 100000 in
theorem kX12_compared_4 (l : Launch) (D : va_G) (ca : Nat → ClassId) (za h : Nat → Nat) (hh : sgH 26 h) (f : sg_F) (L : sg_L) (Q : sg_Q) (hI : sgI loM hiM f) (p0 : 4 ≤ (f 0 16).toInt) (p1 : 0 ≤ (f 0 15).toInt ∨ (f 0 16).toInt = 4) (sz : Nat) : Met l yX12_compared gwX12_compared { frames := 16, cells := 0, slots := 0, locals := 364 } (sgP D vwCl (tyX ca) 26 h (eM ca h) zcM za f L Q sz [.ref (h 0)]) (sgQi D vwCl 26 h (eM ca h) sz (fun r f1 L1 Q1 => ((sgI loM hiM f1 ∧ sgK WkX12_compared_4 f f1 ∧ L1 = L ∧ Q1 = Q) ∧ True ∧ ((f 0 13).toInt ≤ (f1 0 13).toInt) ∧ (4 ≤ (f1 0 16).toInt) ∧ (0 ≤ (f1 0 15).toInt ∨ (f1 0 16).toInt = 4) ∧ (r, f1) = sX12_compared_4 f L))) 0 0 (sgA 26 h sz) := by
  sorry
abbrev WkX12_both_4 : List (Nat × Nat × Option Nat) := [(0, 0, some 13), (0, 0, some 15), (0, 0, some 16)]
set_option maxHeartbeats 4000000 in
set_option maxRecDepth 100000 in
theorem kX12_both_4 (l : Launch) (D : va_G) (ca : Nat → ClassId) (za h : Nat → Nat) (hh : sgH 26 h) (f : sg_F) (L : sg_L) (Q : sg_Q) (hI : sgI loM hiM f) (p0 : 4 ≤ (f 0 16).toInt) (p1 : 0 ≤ (f 0 15).toInt ∨ (f 0 16).toInt = 4) (sz : Nat) : Met l yX12_both gwX12_both { frames := 17, cells := 0, slots := 0, locals := 387 } (sgP D vwCl (tyX ca) 26 h (eM ca h) zcM za f L Q sz [.ref (h 0)]) (sgQi D vwCl 26 h (eM ca h) sz (fun r f1 L1 Q1 => ((sgI loM hiM f1 ∧ sgK WkX12_both_4 f f1 ∧ L1 = L ∧ Q1 = Q) ∧ True ∧ ((f 0 13).toInt ≤ (f1 0 13).toInt) ∧ (4 ≤ (f1 0 16).toInt) ∧ (0 ≤ (f1 0 15).toInt ∨ (f1 0 16).toInt = 4) ∧ (r, f1) = sX12_both_4 f L))) 0 0 (sgA 26 h sz) := by
  sorry
abbrev WkX12_either_4 : List (Nat × Nat × Option Nat) := [(0, 0, some 13), (0, 0, some 15), (0, 0, some 16)]
set_option maxHeartbeats 4000000 in
set_option maxRecDepth 100000 in
theorem kX12_either_4 (l : Launch) (D : va_G) (ca : Nat → ClassId) (za h : Nat → Nat) (hh : sgH 26 h) (f : sg_F) (L : sg_L) (Q : sg_Q) (hI : sgI loM hiM f) (p0 : 4 ≤ (f 0 16).toInt) (p1 : 0 ≤ (f 0 15).toInt ∨ (f 0 16).toInt = 4) (sz : Nat) : Met l yX12_either gwX12_either { frames := 18, cells := 0, slots := 0, locals := 409 } (sgP D vwCl (tyX ca) 26 h (eM ca h) zcM za f L Q sz [.ref (h 0)]) (sgQi D vwCl 26 h (eM ca h) sz (fun r f1 L1 Q1 => ((sgI loM hiM f1 ∧ sgK WkX12_either_4 f f1 ∧ L1 = L ∧ Q1 = Q) ∧ True ∧ ((f 0 13).toInt ≤ (f1 0 13).toInt) ∧ (4 ≤ (f1 0 16).toInt) ∧ (0 ≤ (f1 0 15).toInt ∨ (f1 0 16).toInt = 4) ∧ (r, f1) = sX12_either_4 f L))) 0 0 (sgA 26 h sz) := by
  sorry
abbrev WkX12_one_3 : List (Nat × Nat × Option Nat) := [(0, 0, some 13), (0, 0, some 15), (0, 0, some 16)]
set_option maxHeartbeats 4000000 in
set_option maxRecDepth 100000 in
theorem kX12_one_3 (l : Launch) (D : va_G) (ca : Nat → ClassId) (za h : Nat → Nat) (hh : sgH 26 h) (f : sg_F) (L : sg_L) (Q : sg_Q) (hI : sgI loM hiM f) (p0 : 3 ≤ (f 0 16).toInt) (p1 : 0 ≤ (f 0 15).toInt ∨ (f 0 16).toInt = 3) (sz : Nat) : Met l yX12_one gwX12_one { frames := 19, cells := 0, slots := 0, locals := 431 } (sgP D vwCl (tyX ca) 26 h (eM ca h) zcM za f L Q sz [.ref (h 0)]) (sgQi D vwCl 26 h (eM ca h) sz (fun r f1 L1 Q1 => ((sgI loM hiM f1 ∧ sgK WkX12_one_3 f f1 ∧ L1 = L ∧ Q1 = Q) ∧ True ∧ ((f 0 13).toInt ≤ (f1 0 13).toInt) ∧ (3 ≤ (f1 0 16).toInt) ∧ (0 ≤ (f1 0 15).toInt ∨ (f1 0 16).toInt = 3) ∧ (r, f1) = sX12_one_3 f L))) 0 0 (sgA 26 h sz) := by
  sorry
abbrev WkX12_product_3 : List (Nat × Nat × Option Nat) := [(0, 0, some 13), (0, 0, some 15), (0, 0, some 16)]
set_option maxHeartbeats 4000000 in
set_option maxRecDepth 100000 in
theorem kX12_product_3 (l : Launch) (D : va_G) (ca : Nat → ClassId) (za h : Nat → Nat) (hh : sgH 26 h) (f : sg_F) (L : sg_L) (Q : sg_Q) (hI : sgI loM hiM f) (p0 : 3 ≤ (f 0 16).toInt) (p1 : 0 ≤ (f 0 15).toInt ∨ (f 0 16).toInt = 3) (sz : Nat) : Met l yX12_product gwX12_product { frames := 20, cells := 0, slots := 0, locals := 455 } (sgP D vwCl (tyX ca) 26 h (eM ca h) zcM za f L Q sz [.ref (h 0)]) (sgQi D vwCl 26 h (eM ca h) sz (fun r f1 L1 Q1 => ((sgI loM hiM f1 ∧ sgK WkX12_product_3 f f1 ∧ L1 = L ∧ Q1 = Q) ∧ True ∧ ((f 0 13).toInt ≤ (f1 0 13).toInt) ∧ (3 ≤ (f1 0 16).toInt) ∧ (0 ≤ (f1 0 15).toInt ∨ (f1 0 16).toInt = 3) ∧ (r, f1) = sX12_product_3 f L))) 0 0 (sgA 26 h sz) := by
  sorry
abbrev WkX12_sums_3 : List (Nat × Nat × Option Nat) := [(0, 0, some 13), (0, 0, some 15), (0, 0, some 16)]
set_option maxHeartbeats 4000000 in
set_option maxRecDepth 100000 in
theorem kX12_sums_3 (l : Launch) (D : va_G) (ca : Nat → ClassId) (za h : Nat → Nat) (hh : sgH 26 h) (f : sg_F) (L : sg_L) (Q : sg_Q) (hI : sgI loM hiM f) (p0 : 3 ≤ (f 0 16).toInt) (p1 : 0 ≤ (f 0 15).toInt ∨ (f 0 16).toInt = 3) (sz : Nat) : Met l yX12_sums gwX12_sums { frames := 21, cells := 0, slots := 0, locals := 478 } (sgP D vwCl (tyX ca) 26 h (eM ca h) zcM za f L Q sz [.ref (h 0)]) (sgQi D vwCl 26 h (eM ca h) sz (fun r f1 L1 Q1 => ((sgI loM hiM f1 ∧ sgK WkX12_sums_3 f f1 ∧ L1 = L ∧ Q1 = Q) ∧ True ∧ ((f 0 13).toInt ≤ (f1 0 13).toInt) ∧ (3 ≤ (f1 0 16).toInt) ∧ (0 ≤ (f1 0 15).toInt ∨ (f1 0 16).toInt = 3) ∧ (r, f1) = sX12_sums_3 f L))) 0 0 (sgA 26 h sz) := by
  sorry
abbrev WkX12_compared_3 : List (Nat × Nat × Option Nat) := [(0, 0, some 13), (0, 0, some 15), (0, 0, some 16)]
set_option maxHeartbeats 4000000 in
set_option maxRecDepth 100000 in
theorem kX12_compared_3 (l : Launch) (D : va_G) (ca : Nat → ClassId) (za h : Nat → Nat) (hh : sgH 26 h) (f : sg_F) (L : sg_L) (Q : sg_Q) (hI : sgI loM hiM f) (p0 : 3 ≤ (f 0 16).toInt) (p1 : 0 ≤ (f 0 15).toInt ∨ (f 0 16).toInt = 3) (sz : Nat) : Met l yX12_compared gwX12_compared { frames := 22, cells := 0, slots := 0, locals := 501 } (sgP D vwCl (tyX ca) 26 h (eM ca h) zcM za f L Q sz [.ref (h 0)]) (sgQi D vwCl 26 h (eM ca h) sz (fun r f1 L1 Q1 => ((sgI loM hiM f1 ∧ sgK WkX12_compared_3 f f1 ∧ L1 = L ∧ Q1 = Q) ∧ True ∧ ((f 0 13).toInt ≤ (f1 0 13).toInt) ∧ (3 ≤ (f1 0 16).toInt) ∧ (0 ≤ (f1 0 15).toInt ∨ (f1 0 16).toInt = 3) ∧ (r, f1) = sX12_compared_3 f L))) 0 0 (sgA 26 h sz) := by
  sorry
abbrev WkX12_both_3 : List (Nat × Nat × Option Nat) := [(0, 0, some 13), (0, 0, some 15), (0, 0, some 16)]
set_option maxHeartbeats 4000000 in
set_option maxRecDepth 100000 in
theorem kX12_both_3 (l : Launch) (D : va_G) (ca : Nat → ClassId) (za h : Nat → Nat) (hh : sgH 26 h) (f : sg_F) (L : sg_L) (Q : sg_Q) (hI : sgI loM hiM f) (p0 : 3 ≤ (f 0 16).toInt) (p1 : 0 ≤ (f 0 15).toInt ∨ (f 0 16).toInt = 3) (sz : Nat) : Met l yX12_both gwX12_both { frames := 23, cells := 0, slots := 0, locals := 524 } (sgP D vwCl (tyX ca) 26 h (eM ca h) zcM za f L Q sz [.ref (h 0)]) (sgQi D vwCl 26 h (eM ca h) sz (fun r f1 L1 Q1 => ((sgI loM hiM f1 ∧ sgK WkX12_both_3 f f1 ∧ L1 = L ∧ Q1 = Q) ∧ True ∧ ((f 0 13).toInt ≤ (f1 0 13).toInt) ∧ (3 ≤ (f1 0 16).toInt) ∧ (0 ≤ (f1 0 15).toInt ∨ (f1 0 16).toInt = 3) ∧ (r, f1) = sX12_both_3 f L))) 0 0 (sgA 26 h sz) := by
  sorry
abbrev WkX12_either_3 : List (Nat × Nat × Option Nat) := [(0, 0, some 13), (0, 0, some 15), (0, 0, some 16)]
set_option maxHeartbeats 4000000 in
set_option maxRecDepth 100000 in
theorem kX12_either_3 (l : Launch) (D : va_G) (ca : Nat → ClassId) (za h : Nat → Nat) (hh : sgH 26 h) (f : sg_F) (L : sg_L) (Q : sg_Q) (hI : sgI loM hiM f) (p0 : 3 ≤ (f 0 16).toInt) (p1 : 0 ≤ (f 0 15).toInt ∨ (f 0 16).toInt = 3) (sz : Nat) : Met l yX12_either gwX12_either { frames := 24, cells := 0, slots := 0, locals := 546 } (sgP D vwCl (tyX ca) 26 h (eM ca h) zcM za f L Q sz [.ref (h 0)]) (sgQi D vwCl 26 h (eM ca h) sz (fun r f1 L1 Q1 => ((sgI loM hiM f1 ∧ sgK WkX12_either_3 f f1 ∧ L1 = L ∧ Q1 = Q) ∧ True ∧ ((f 0 13).toInt ≤ (f1 0 13).toInt) ∧ (3 ≤ (f1 0 16).toInt) ∧ (0 ≤ (f1 0 15).toInt ∨ (f1 0 16).toInt = 3) ∧ (r, f1) = sX12_either_3 f L))) 0 0 (sgA 26 h sz) := by
  sorry
abbrev WkX12_one_2 : List (Nat × Nat × Option Nat) := [(0, 0, some 13), (0, 0, some 15), (0, 0, some 16)]
set_option maxHeartbeats 4000000 in
set_option maxRecDepth 100000 in
theorem kX12_one_2 (l : Launch) (D : va_G) (ca : Nat → ClassId) (za h : Nat → Nat) (hh : sgH 26 h) (f : sg_F) (L : sg_L) (Q : sg_Q) (hI : sgI loM hiM f) (p0 : 2 ≤ (f 0 16).toInt) (p1 : 0 ≤ (f 0 15).toInt ∨ (f 0 16).toInt = 2) (sz : Nat) : Met l yX12_one gwX12_one { frames := 25, cells := 0, slots := 0, locals := 568 } (sgP D vwCl (tyX ca) 26 h (eM ca h) zcM za f L Q sz [.ref (h 0)]) (sgQi D vwCl 26 h (eM ca h) sz (fun r f1 L1 Q1 => ((sgI loM hiM f1 ∧ sgK WkX12_one_2 f f1 ∧ L1 = L ∧ Q1 = Q) ∧ True ∧ ((f 0 13).toInt ≤ (f1 0 13).toInt) ∧ (2 ≤ (f1 0 16).toInt) ∧ (0 ≤ (f1 0 15).toInt ∨ (f1 0 16).toInt = 2) ∧ (r, f1) = sX12_one_2 f L))) 0 0 (sgA 26 h sz) := by
  sorry
abbrev WkX12_product_2 : List (Nat × Nat × Option Nat) := [(0, 0, some 13), (0, 0, some 15), (0, 0, some 16)]
set_option maxHeartbeats 4000000 in
set_option maxRecDepth 100000 in
theorem kX12_product_2 (l : Launch) (D : va_G) (ca : Nat → ClassId) (za h : Nat → Nat) (hh : sgH 26 h) (f : sg_F) (L : sg_L) (Q : sg_Q) (hI : sgI loM hiM f) (p0 : 2 ≤ (f 0 16).toInt) (p1 : 0 ≤ (f 0 15).toInt ∨ (f 0 16).toInt = 2) (sz : Nat) : Met l yX12_product gwX12_product { frames := 26, cells := 0, slots := 0, locals := 592 } (sgP D vwCl (tyX ca) 26 h (eM ca h) zcM za f L Q sz [.ref (h 0)]) (sgQi D vwCl 26 h (eM ca h) sz (fun r f1 L1 Q1 => ((sgI loM hiM f1 ∧ sgK WkX12_product_2 f f1 ∧ L1 = L ∧ Q1 = Q) ∧ True ∧ ((f 0 13).toInt ≤ (f1 0 13).toInt) ∧ (2 ≤ (f1 0 16).toInt) ∧ (0 ≤ (f1 0 15).toInt ∨ (f1 0 16).toInt = 2) ∧ (r, f1) = sX12_product_2 f L))) 0 0 (sgA 26 h sz) := by
  sorry
abbrev WkX12_sums_2 : List (Nat × Nat × Option Nat) := [(0, 0, some 13), (0, 0, some 15), (0, 0, some 16)]
set_option maxHeartbeats 4000000 in
set_option maxRecDepth 100000 in
theorem kX12_sums_2 (l : Launch) (D : va_G) (ca : Nat → ClassId) (za h : Nat → Nat) (hh : sgH 26 h) (f : sg_F) (L : sg_L) (Q : sg_Q) (hI : sgI loM hiM f) (p0 : 2 ≤ (f 0 16).toInt) (p1 : 0 ≤ (f 0 15).toInt ∨ (f 0 16).toInt = 2) (sz : Nat) : Met l yX12_sums gwX12_sums { frames := 27, cells := 0, slots := 0, locals := 615 } (sgP D vwCl (tyX ca) 26 h (eM ca h) zcM za f L Q sz [.ref (h 0)]) (sgQi D vwCl 26 h (eM ca h) sz (fun r f1 L1 Q1 => ((sgI loM hiM f1 ∧ sgK WkX12_sums_2 f f1 ∧ L1 = L ∧ Q1 = Q) ∧ True ∧ ((f 0 13).toInt ≤ (f1 0 13).toInt) ∧ (2 ≤ (f1 0 16).toInt) ∧ (0 ≤ (f1 0 15).toInt ∨ (f1 0 16).toInt = 2) ∧ (r, f1) = sX12_sums_2 f L))) 0 0 (sgA 26 h sz) := by
  sorry
abbrev WkX12_compared_2 : List (Nat × Nat × Option Nat) := [(0, 0, some 13), (0, 0, some 15), (0, 0, some 16)]
set_option maxHeartbeats 4000000 in
set_option maxRecDepth 100000 in
theorem kX12_compared_2 (l : Launch) (D : va_G) (ca : Nat → ClassId) (za h : Nat → Nat) (hh : sgH 26 h) (f : sg_F) (L : sg_L) (Q : sg_Q) (hI : sgI loM hiM f) (p0 : 2 ≤ (f 0 16).toInt) (p1 : 0 ≤ (f 0 15).toInt ∨ (f 0 16).toInt = 2) (sz : Nat) : Met l yX12_compared gwX12_compared { frames := 28, cells := 0, slots := 0, locals := 638 } (sgP D vwCl (tyX ca) 26 h (eM ca h) zcM za f L Q sz [.ref (h 0)]) (sgQi D vwCl 26 h (eM ca h) sz (fun r f1 L1 Q1 => ((sgI loM hiM f1 ∧ sgK WkX12_compared_2 f f1 ∧ L1 = L ∧ Q1 = Q) ∧ True ∧ ((f 0 13).toInt ≤ (f1 0 13).toInt) ∧ (2 ≤ (f1 0 16).toInt) ∧ (0 ≤ (f1 0 15).toInt ∨ (f1 0 16).toInt = 2) ∧ (r, f1) = sX12_compared_2 f L))) 0 0 (sgA 26 h sz) := by
  sorry
abbrev WkX12_both_2 : List (Nat × Nat × Option Nat) := [(0, 0, some 13), (0, 0, some 15), (0, 0, some 16)]
set_option maxHeartbeats 4000000 in
set_option maxRecDepth 100000 in
theorem kX12_both_2 (l : Launch) (D : va_G) (ca : Nat → ClassId) (za h : Nat → Nat) (hh : sgH 26 h) (f : sg_F) (L : sg_L) (Q : sg_Q) (hI : sgI loM hiM f) (p0 : 2 ≤ (f 0 16).toInt) (p1 : 0 ≤ (f 0 15).toInt ∨ (f 0 16).toInt = 2) (sz : Nat) : Met l yX12_both gwX12_both { frames := 29, cells := 0, slots := 0, locals := 661 } (sgP D vwCl (tyX ca) 26 h (eM ca h) zcM za f L Q sz [.ref (h 0)]) (sgQi D vwCl 26 h (eM ca h) sz (fun r f1 L1 Q1 => ((sgI loM hiM f1 ∧ sgK WkX12_both_2 f f1 ∧ L1 = L ∧ Q1 = Q) ∧ True ∧ ((f 0 13).toInt ≤ (f1 0 13).toInt) ∧ (2 ≤ (f1 0 16).toInt) ∧ (0 ≤ (f1 0 15).toInt ∨ (f1 0 16).toInt = 2) ∧ (r, f1) = sX12_both_2 f L))) 0 0 (sgA 26 h sz) := by
  sorry
abbrev WkX12_either_2 : List (Nat × Nat × Option Nat) := [(0, 0, some 13), (0, 0, some 15), (0, 0, some 16)]
set_option maxHeartbeats 4000000 in
set_option maxRecDepth 100000 in
theorem kX12_either_2 (l : Launch) (D : va_G) (ca : Nat → ClassId) (za h : Nat → Nat) (hh : sgH 26 h) (f : sg_F) (L : sg_L) (Q : sg_Q) (hI : sgI loM hiM f) (p0 : 2 ≤ (f 0 16).toInt) (p1 : 0 ≤ (f 0 15).toInt ∨ (f 0 16).toInt = 2) (sz : Nat) : Met l yX12_either gwX12_either { frames := 30, cells := 0, slots := 0, locals := 683 } (sgP D vwCl (tyX ca) 26 h (eM ca h) zcM za f L Q sz [.ref (h 0)]) (sgQi D vwCl 26 h (eM ca h) sz (fun r f1 L1 Q1 => ((sgI loM hiM f1 ∧ sgK WkX12_either_2 f f1 ∧ L1 = L ∧ Q1 = Q) ∧ True ∧ ((f 0 13).toInt ≤ (f1 0 13).toInt) ∧ (2 ≤ (f1 0 16).toInt) ∧ (0 ≤ (f1 0 15).toInt ∨ (f1 0 16).toInt = 2) ∧ (r, f1) = sX12_either_2 f L))) 0 0 (sgA 26 h sz) := by
  sorry
abbrev WkX12_one_1 : List (Nat × Nat × Option Nat) := [(0, 0, some 13), (0, 0, some 15), (0, 0, some 16)]
set_option maxHeartbeats 4000000 in
set_option maxRecDepth 100000 in
theorem kX12_one_1 (l : Launch) (D : va_G) (ca : Nat → ClassId) (za h : Nat → Nat) (hh : sgH 26 h) (f : sg_F) (L : sg_L) (Q : sg_Q) (hI : sgI loM hiM f) (p0 : 1 ≤ (f 0 16).toInt) (p1 : 0 ≤ (f 0 15).toInt ∨ (f 0 16).toInt = 1) (sz : Nat) : Met l yX12_one gwX12_one { frames := 31, cells := 0, slots := 0, locals := 705 } (sgP D vwCl (tyX ca) 26 h (eM ca h) zcM za f L Q sz [.ref (h 0)]) (sgQi D vwCl 26 h (eM ca h) sz (fun r f1 L1 Q1 => ((sgI loM hiM f1 ∧ sgK WkX12_one_1 f f1 ∧ L1 = L ∧ Q1 = Q) ∧ True ∧ ((f 0 13).toInt ≤ (f1 0 13).toInt) ∧ (1 ≤ (f1 0 16).toInt) ∧ (0 ≤ (f1 0 15).toInt ∨ (f1 0 16).toInt = 1) ∧ (r, f1) = sX12_one_1 f L))) 0 0 (sgA 26 h sz) := by
  sorry
abbrev WkX12_product_1 : List (Nat × Nat × Option Nat) := [(0, 0, some 13), (0, 0, some 15), (0, 0, some 16)]
set_option maxHeartbeats 4000000 in
set_option maxRecDepth 100000 in
theorem kX12_product_1 (l : Launch) (D : va_G) (ca : Nat → ClassId) (za h : Nat → Nat) (hh : sgH 26 h) (f : sg_F) (L : sg_L) (Q : sg_Q) (hI : sgI loM hiM f) (p0 : 1 ≤ (f 0 16).toInt) (p1 : 0 ≤ (f 0 15).toInt ∨ (f 0 16).toInt = 1) (sz : Nat) : Met l yX12_product gwX12_product { frames := 32, cells := 0, slots := 0, locals := 729 } (sgP D vwCl (tyX ca) 26 h (eM ca h) zcM za f L Q sz [.ref (h 0)]) (sgQi D vwCl 26 h (eM ca h) sz (fun r f1 L1 Q1 => ((sgI loM hiM f1 ∧ sgK WkX12_product_1 f f1 ∧ L1 = L ∧ Q1 = Q) ∧ True ∧ ((f 0 13).toInt ≤ (f1 0 13).toInt) ∧ (1 ≤ (f1 0 16).toInt) ∧ (0 ≤ (f1 0 15).toInt ∨ (f1 0 16).toInt = 1) ∧ (r, f1) = sX12_product_1 f L))) 0 0 (sgA 26 h sz) := by
  sorry
abbrev WkX12_sums_1 : List (Nat × Nat × Option Nat) := [(0, 0, some 13), (0, 0, some 15), (0, 0, some 16)]
set_option maxHeartbeats 4000000 in
set_option maxRecDepth 100000 in
theorem kX12_sums_1 (l : Launch) (D : va_G) (ca : Nat → ClassId) (za h : Nat → Nat) (hh : sgH 26 h) (f : sg_F) (L : sg_L) (Q : sg_Q) (hI : sgI loM hiM f) (p0 : 1 ≤ (f 0 16).toInt) (p1 : 0 ≤ (f 0 15).toInt ∨ (f 0 16).toInt = 1) (sz : Nat) : Met l yX12_sums gwX12_sums { frames := 33, cells := 0, slots := 0, locals := 752 } (sgP D vwCl (tyX ca) 26 h (eM ca h) zcM za f L Q sz [.ref (h 0)]) (sgQi D vwCl 26 h (eM ca h) sz (fun r f1 L1 Q1 => ((sgI loM hiM f1 ∧ sgK WkX12_sums_1 f f1 ∧ L1 = L ∧ Q1 = Q) ∧ True ∧ ((f 0 13).toInt ≤ (f1 0 13).toInt) ∧ (1 ≤ (f1 0 16).toInt) ∧ (0 ≤ (f1 0 15).toInt ∨ (f1 0 16).toInt = 1) ∧ (r, f1) = sX12_sums_1 f L))) 0 0 (sgA 26 h sz) := by
  sorry
abbrev WkX12_compared_1 : List (Nat × Nat × Option Nat) := [(0, 0, some 13), (0, 0, some 15), (0, 0, some 16)]
set_option maxHeartbeats 4000000 in
set_option maxRecDepth 100000 in
theorem kX12_compared_1 (l : Launch) (D : va_G) (ca : Nat → ClassId) (za h : Nat → Nat) (hh : sgH 26 h) (f : sg_F) (L : sg_L) (Q : sg_Q) (hI : sgI loM hiM f) (p0 : 1 ≤ (f 0 16).toInt) (p1 : 0 ≤ (f 0 15).toInt ∨ (f 0 16).toInt = 1) (sz : Nat) : Met l yX12_compared gwX12_compared { frames := 34, cells := 0, slots := 0, locals := 775 } (sgP D vwCl (tyX ca) 26 h (eM ca h) zcM za f L Q sz [.ref (h 0)]) (sgQi D vwCl 26 h (eM ca h) sz (fun r f1 L1 Q1 => ((sgI loM hiM f1 ∧ sgK WkX12_compared_1 f f1 ∧ L1 = L ∧ Q1 = Q) ∧ True ∧ ((f 0 13).toInt ≤ (f1 0 13).toInt) ∧ (1 ≤ (f1 0 16).toInt) ∧ (0 ≤ (f1 0 15).toInt ∨ (f1 0 16).toInt = 1) ∧ (r, f1) = sX12_compared_1 f L))) 0 0 (sgA 26 h sz) := by
  sorry
abbrev WkX12_both_1 : List (Nat × Nat × Option Nat) := [(0, 0, some 13), (0, 0, some 15), (0, 0, some 16)]
set_option maxHeartbeats 4000000 in
set_option maxRecDepth 100000 in
theorem kX12_both_1 (l : Launch) (D : va_G) (ca : Nat → ClassId) (za h : Nat → Nat) (hh : sgH 26 h) (f : sg_F) (L : sg_L) (Q : sg_Q) (hI : sgI loM hiM f) (p0 : 1 ≤ (f 0 16).toInt) (p1 : 0 ≤ (f 0 15).toInt ∨ (f 0 16).toInt = 1) (sz : Nat) : Met l yX12_both gwX12_both { frames := 35, cells := 0, slots := 0, locals := 798 } (sgP D vwCl (tyX ca) 26 h (eM ca h) zcM za f L Q sz [.ref (h 0)]) (sgQi D vwCl 26 h (eM ca h) sz (fun r f1 L1 Q1 => ((sgI loM hiM f1 ∧ sgK WkX12_both_1 f f1 ∧ L1 = L ∧ Q1 = Q) ∧ True ∧ ((f 0 13).toInt ≤ (f1 0 13).toInt) ∧ (1 ≤ (f1 0 16).toInt) ∧ (0 ≤ (f1 0 15).toInt ∨ (f1 0 16).toInt = 1) ∧ (r, f1) = sX12_both_1 f L))) 0 0 (sgA 26 h sz) := by
  sorry
abbrev WkX12_either_1 : List (Nat × Nat × Option Nat) := [(0, 0, some 13), (0, 0, some 15), (0, 0, some 16)]
set_option maxHeartbeats 4000000 in
set_option maxRecDepth 100000 in
theorem kX12_either_1 (l : Launch) (D : va_G) (ca : Nat → ClassId) (za h : Nat → Nat) (hh : sgH 26 h) (f : sg_F) (L : sg_L) (Q : sg_Q) (hI : sgI loM hiM f) (p0 : 1 ≤ (f 0 16).toInt) (p1 : 0 ≤ (f 0 15).toInt ∨ (f 0 16).toInt = 1) (sz : Nat) : Met l yX12_either gwX12_either { frames := 36, cells := 0, slots := 0, locals := 820 } (sgP D vwCl (tyX ca) 26 h (eM ca h) zcM za f L Q sz [.ref (h 0)]) (sgQi D vwCl 26 h (eM ca h) sz (fun r f1 L1 Q1 => ((sgI loM hiM f1 ∧ sgK WkX12_either_1 f f1 ∧ L1 = L ∧ Q1 = Q) ∧ True ∧ ((f 0 13).toInt ≤ (f1 0 13).toInt) ∧ (1 ≤ (f1 0 16).toInt) ∧ (0 ≤ (f1 0 15).toInt ∨ (f1 0 16).toInt = 1) ∧ (r, f1) = sX12_either_1 f L))) 0 0 (sgA 26 h sz) := by
  sorry
abbrev WkX12_one_0 : List (Nat × Nat × Option Nat) := [(0, 0, some 13), (0, 0, some 15), (0, 0, some 16)]
set_option maxHeartbeats 4000000 in
set_option maxRecDepth 100000 in
theorem kX12_one_0 (l : Launch) (D : va_G) (ca : Nat → ClassId) (za h : Nat → Nat) (hh : sgH 26 h) (f : sg_F) (L : sg_L) (Q : sg_Q) (hI : sgI loM hiM f) (p0 : 0 ≤ (f 0 16).toInt) (p1 : 0 ≤ (f 0 15).toInt ∨ (f 0 16).toInt = 0) (sz : Nat) : Met l yX12_one gwX12_one { frames := 37, cells := 0, slots := 0, locals := 842 } (sgP D vwCl (tyX ca) 26 h (eM ca h) zcM za f L Q sz [.ref (h 0)]) (sgQi D vwCl 26 h (eM ca h) sz (fun r f1 L1 Q1 => ((sgI loM hiM f1 ∧ sgK WkX12_one_0 f f1 ∧ L1 = L ∧ Q1 = Q) ∧ True ∧ ((f 0 13).toInt ≤ (f1 0 13).toInt) ∧ (0 ≤ (f1 0 16).toInt) ∧ (0 ≤ (f1 0 15).toInt ∨ (f1 0 16).toInt = 0) ∧ (r, f1) = sX12_one_0 f L))) 0 0 (sgA 26 h sz) := by
  sorry
