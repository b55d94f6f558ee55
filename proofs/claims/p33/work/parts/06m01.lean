/-! contracts of any state. Laid by a program (wip/tool) -/
abbrev WkX12_undo : List (Nat × Nat × Option Nat) := [(0, 0, some 5), (1, 1, none)]
set_option maxHeartbeats 4000000 in
set_option maxRecDepth 100000 in
theorem kX12_undo (l : Launch) (D : va_G) (ca : Nat → ClassId) (za h : Nat → Nat) (hh : sgH 26 h) (f : sg_F) (L : sg_L) (Q : sg_Q) (hI : sgI loM hiM f) (hJ : JM f) (sz : Nat) : Met l yX12_undo gwX12_undo { frames := 0, cells := 0, slots := 0, locals := 0 } (sgP D vwCl (tyX ca) 26 h (eM ca h) zcM za f L Q sz [.ref (h 0)]) (sgQi D vwCl 26 h (eM ca h) sz (fun r f1 L1 Q1 => ((sgI loM hiM f1 ∧ sgK WkX12_undo f f1 ∧ L1 = L ∧ Q1 = Q ∧ JM f1) ∧ ((-5) ≤ r.toInt ∧ r.toInt ≤ 39) ∧ (r, f1) = sX12_undo f L))) 0 0 (sgA 26 h sz) := by
  sorry
abbrev WkX12_redo : List (Nat × Nat × Option Nat) := [(0, 0, some 5), (1, 1, none)]
set_option maxHeartbeats 4000000 in
set_option maxRecDepth 100000 in
theorem kX12_redo (l : Launch) (D : va_G) (ca : Nat → ClassId) (za h : Nat → Nat) (hh : sgH 26 h) (f : sg_F) (L : sg_L) (Q : sg_Q) (hI : sgI loM hiM f) (hJ : JM f) (sz : Nat) : Met l yX12_redo gwX12_redo { frames := 0, cells := 0, slots := 0, locals := 0 } (sgP D vwCl (tyX ca) 26 h (eM ca h) zcM za f L Q sz [.ref (h 0)]) (sgQi D vwCl 26 h (eM ca h) sz (fun r f1 L1 Q1 => ((sgI loM hiM f1 ∧ sgK WkX12_redo f f1 ∧ L1 = L ∧ Q1 = Q ∧ JM f1) ∧ ((-41) ≤ r.toInt ∧ r.toInt ≤ 39) ∧ (r, f1) = sX12_redo f L))) 0 0 (sgA 26 h sz) := by
  sorry
set_option maxHeartbeats 4000000 in
set_option maxRecDepth 100000 in
theorem kX12_within (l : Launch) (D : va_G) (ca : Nat → ClassId) (za h : Nat → Nat) (hh : sgH 26 h) (f : sg_F) (L : sg_L) (Q : sg_Q) (hI : sgI loM hiM f) (x0 : Int64) (x1 : Int64) (x2 : Int64) (sz : Nat) : Met l yX12_within gwX12_within { frames := 0, cells := 0, slots := 0, locals := 0 } (sgP D vwCl (tyX ca) 26 h (eM ca h) zcM za f L Q sz [.long x0, .long x1, .long x2]) (sgQi D vwCl 26 h (eM ca h) sz (fun r f1 L1 Q1 => ((f1 = f ∧ L1 = L ∧ Q1 = Q) ∧ ((r = 1 ∧ (x1.toInt ≤ x0.toInt ∧ x0.toInt ≤ x2.toInt)) ∨ (r = 0 ∧ (¬ (x1.toInt ≤ x0.toInt ∧ x0.toInt ≤ x2.toInt)))) ∧ (r) = sX12_within x0 x1 x2 f L))) 0 0 (sgA 26 h sz) := by
  sorry
set_option maxHeartbeats 4000000 in
set_option maxRecDepth 100000 in
theorem kX12_isSetting (l : Launch) (D : va_G) (ca : Nat → ClassId) (za h : Nat → Nat) (hh : sgH 26 h) (f : sg_F) (L : sg_L) (Q : sg_Q) (hI : sgI loM hiM f) (x0 : Int64) (sz : Nat) : Met l yX12_isSetting gwX12_isSetting { frames := 1, cells := 0, slots := 0, locals := 25 } (sgP D vwCl (tyX ca) 26 h (eM ca h) zcM za f L Q sz [.long x0]) (sgQi D vwCl 26 h (eM ca h) sz (fun r f1 L1 Q1 => ((f1 = f ∧ L1 = L ∧ Q1 = Q) ∧ ((r = 1 ∧ (0 ≤ x0.toInt ∧ x0.toInt ≤ 60)) ∨ (r = 0 ∧ (¬ (0 ≤ x0.toInt ∧ x0.toInt ≤ 60)))) ∧ (r) = sX12_isSetting x0 f L))) 0 0 (sgA 26 h sz) := by
  sorry
abbrev WkX12_adds : List (Nat × Nat × Option Nat) := [(0, 0, some 6), (1, 1, none)]
set_option maxHeartbeats 4000000 in
set_option maxRecDepth 100000 in
theorem kX12_adds (l : Launch) (D : va_G) (ca : Nat → ClassId) (za h : Nat → Nat) (hh : sgH 26 h) (f : sg_F) (L : sg_L) (Q : sg_Q) (hI : sgI loM hiM f) (x0 : Int32) (x1 : Int32) (x2 : Int32) (x3 : Int32) (b0 : 0 ≤ x0.toInt ∧ x0.toInt ≤ 60) (b1 : 0 ≤ x1.toInt ∧ x1.toInt ≤ 60) (b2 : 0 ≤ x2.toInt ∧ x2.toInt ≤ 60) (b3 : 1 ≤ x3.toInt ∧ x3.toInt ≤ 12) (p0 : 0 ≤ (f 0 6).toInt ∧ (f 0 6).toInt ≤ 7) (sz : Nat) : Met l yX12_adds gwX12_adds { frames := 0, cells := 0, slots := 0, locals := 0 } (sgP D vwCl (tyX ca) 26 h (eM ca h) zcM za f L Q sz [.ref (h 0), .int x0, .int x1, .int x2, .int x3]) (sgQv D vwCl 26 h (eM ca h) sz (fun f1 L1 Q1 => ((sgI loM hiM f1 ∧ sgK WkX12_adds f f1 ∧ L1 = L ∧ Q1 = Q) ∧ (f1) = sX12_adds x0 x1 x2 x3 f L))) 0 0 (sgA 26 h sz) := by
  sorry
abbrev WkX12_sitter : List (Nat × Nat × Option Nat) := [(0, 0, some 6), (1, 1, none)]
set_option maxHeartbeats 4000000 in
set_option maxRecDepth 100000 in
theorem kX12_sitter (l : Launch) (D : va_G) (ca : Nat → ClassId) (za h : Nat → Nat) (hh : sgH 26 h) (f : sg_F) (L : sg_L) (Q : sg_Q) (hI : sgI loM hiM f) (x0 : Int32) (x1 : Int32) (sz : Nat) : Met l yX12_sitter gwX12_sitter { frames := 2, cells := 0, slots := 0, locals := 46 } (sgP D vwCl (tyX ca) 26 h (eM ca h) zcM za f L Q sz [.ref (h 0), .int x0, .int x1]) (sgQi D vwCl 26 h (eM ca h) sz (fun r f1 L1 Q1 => ((sgI loM hiM f1 ∧ sgK WkX12_sitter f f1 ∧ L1 = L ∧ Q1 = Q) ∧ ((-3) ≤ r.toInt ∧ r.toInt ≤ 7) ∧ (r, f1) = sX12_sitter x0 x1 f L))) 0 0 (sgA 26 h sz) := by
  sorry
set_option maxHeartbeats 4000000 in
set_option maxRecDepth 100000 in
theorem kX12_isShelf (l : Launch) (D : va_G) (ca : Nat → ClassId) (za h : Nat → Nat) (hh : sgH 26 h) (f : sg_F) (L : sg_L) (Q : sg_Q) (hI : sgI loM hiM f) (x0 : Int32) (sz : Nat) : Met l yX12_isShelf gwX12_isShelf { frames := 1, cells := 0, slots := 0, locals := 25 } (sgP D vwCl (tyX ca) 26 h (eM ca h) zcM za f L Q sz [.int x0]) (sgQi D vwCl 26 h (eM ca h) sz (fun r f1 L1 Q1 => ((f1 = f ∧ L1 = L ∧ Q1 = Q) ∧ ((r = 1 ∧ (0 ≤ x0.toInt ∧ x0.toInt ≤ 5)) ∨ (r = 0 ∧ (¬ (0 ≤ x0.toInt ∧ x0.toInt ≤ 5)))) ∧ (r) = sX12_isShelf x0 f L))) 0 0 (sgA 26 h sz) := by
  sorry
abbrev WkX12_sitters : List (Nat × Nat × Option Nat) := [(0, 0, some 6), (1, 1, none)]
set_option maxHeartbeats 4000000 in
set_option maxRecDepth 100000 in
theorem kX12_sitters (l : Launch) (D : va_G) (ca : Nat → ClassId) (za h : Nat → Nat) (hh : sgH 26 h) (f : sg_F) (L : sg_L) (Q : sg_Q) (hI : sgI loM hiM f) (x0 : Int32) (x1 : Int32) (x2 : Int32) (sz : Nat) : Met l yX12_sitters gwX12_sitters { frames := 2, cells := 0, slots := 0, locals := 46 } (sgP D vwCl (tyX ca) 26 h (eM ca h) zcM za f L Q sz [.ref (h 0), .int x0, .int x1, .int x2]) (sgQi D vwCl 26 h (eM ca h) sz (fun r f1 L1 Q1 => ((sgI loM hiM f1 ∧ sgK WkX12_sitters f f1 ∧ L1 = L ∧ Q1 = Q) ∧ ((-12) ≤ r.toInt ∧ r.toInt ≤ 8) ∧ (r, f1) = sX12_sitters x0 x1 x2 f L))) 0 0 (sgA 26 h sz) := by
  sorry
set_option maxHeartbeats 4000000 in
set_option maxRecDepth 100000 in
theorem kX12_isSitter (l : Launch) (D : va_G) (ca : Nat → ClassId) (za h : Nat → Nat) (hh : sgH 26 h) (f : sg_F) (L : sg_L) (Q : sg_Q) (hI : sgI loM hiM f) (x0 : Int64) (sz : Nat) : Met l yX12_isSitter gwX12_isSitter { frames := 1, cells := 0, slots := 0, locals := 25 } (sgP D vwCl (tyX ca) 26 h (eM ca h) zcM za f L Q sz [.ref (h 0), .long x0]) (sgQi D vwCl 26 h (eM ca h) sz (fun r f1 L1 Q1 => ((f1 = f ∧ L1 = L ∧ Q1 = Q) ∧ ((r = 1 ∧ (0 ≤ x0.toInt ∧ x0.toInt < (f 0 6).toInt)) ∨ (r = 0 ∧ (¬ (0 ≤ x0.toInt ∧ x0.toInt < (f 0 6).toInt)))) ∧ (r) = sX12_isSitter x0 f L))) 0 0 (sgA 26 h sz) := by
  sorry
set_option maxHeartbeats 4000000 in
set_option maxRecDepth 100000 in
theorem kX12_isPart (l : Launch) (D : va_G) (ca : Nat → ClassId) (za h : Nat → Nat) (hh : sgH 26 h) (f : sg_F) (L : sg_L) (Q : sg_Q) (hI : sgI loM hiM f) (x0 : Int32) (sz : Nat) : Met l yX12_isPart gwX12_isPart { frames := 1, cells := 0, slots := 0, locals := 25 } (sgP D vwCl (tyX ca) 26 h (eM ca h) zcM za f L Q sz [.int x0]) (sgQi D vwCl 26 h (eM ca h) sz (fun r f1 L1 Q1 => ((f1 = f ∧ L1 = L ∧ Q1 = Q) ∧ ((r = 1 ∧ (0 ≤ x0.toInt ∧ x0.toInt ≤ 2)) ∨ (r = 0 ∧ (¬ (0 ≤ x0.toInt ∧ x0.toInt ≤ 2)))) ∧ (r) = sX12_isPart x0 f L))) 0 0 (sgA 26 h sz) := by
  sorry
set_option maxHeartbeats 4000000 in
set_option maxRecDepth 100000 in
theorem kX12_placeOf (l : Launch) (D : va_G) (ca : Nat → ClassId) (za h : Nat → Nat) (hh : sgH 26 h) (f : sg_F) (L : sg_L) (Q : sg_Q) (hI : sgI loM hiM f) (x0 : Int32) (x1 : Int32) (sz : Nat) : Met l yX12_placeOf gwX12_placeOf { frames := 2, cells := 0, slots := 0, locals := 47 } (sgP D vwCl (tyX ca) 26 h (eM ca h) zcM za f L Q sz [.ref (h 0), .int x0, .int x1]) (sgQi D vwCl 26 h (eM ca h) sz (fun r f1 L1 Q1 => ((f1 = f ∧ L1 = L ∧ Q1 = Q) ∧ ((-1) ≤ r.toInt ∧ r.toInt ≤ 70) ∧ (x1.toInt ≠ 10 ∨ 64 ≤ r.toInt ∨ r.toInt = -1) ∧ (r) = sX12_placeOf x0 x1 f L))) 0 0 (sgA 26 h sz) := by
  sorry
set_option maxHeartbeats 4000000 in
set_option maxRecDepth 100000 in
theorem kX12_mostOf (l : Launch) (D : va_G) (ca : Nat → ClassId) (za h : Nat → Nat) (hh : sgH 26 h) (f : sg_F) (L : sg_L) (Q : sg_Q) (hI : sgI loM hiM f) (x0 : Int32) (sz : Nat) : Met l yX12_mostOf gwX12_mostOf { frames := 0, cells := 0, slots := 0, locals := 0 } (sgP D vwCl (tyX ca) 26 h (eM ca h) zcM za f L Q sz [.int x0]) (sgQi D vwCl 26 h (eM ca h) sz (fun r f1 L1 Q1 => ((f1 = f ∧ L1 = L ∧ Q1 = Q) ∧ (3 ≤ r.toInt ∧ r.toInt ≤ 99) ∧ (x0.toInt = 10 ∨ r.toInt ≤ 60) ∧ (r) = sX12_mostOf x0 f L))) 0 0 (sgA 26 h sz) := by
  sorry
abbrev WkX12_becomes : List (Nat × Nat × Option Nat) := [(0, 0, some 4), (0, 0, some 5), (1, 1, none), (2, 2, none), (3, 3, none), (4, 4, none)]
set_option maxHeartbeats 4000000 in
set_option maxRecDepth 100000 in
theorem kX12_becomes (l : Launch) (D : va_G) (ca : Nat → ClassId) (za h : Nat → Nat) (hh : sgH 26 h) (f : sg_F) (L : sg_L) (Q : sg_Q) (hI : sgI loM hiM f) (hJ : JM f) (x0 : Int32) (x1 : Int32) (b0 : 0 ≤ x0.toInt ∧ x0.toInt ≤ 70) (b1 : 0 ≤ x1.toInt ∧ x1.toInt ≤ 99) (p0 : 64 ≤ x0.toInt ∨ x1.toInt ≤ 60) (sz : Nat) : Met l yX12_becomes gwX12_becomes { frames := 0, cells := 0, slots := 0, locals := 0 } (sgP D vwCl (tyX ca) 26 h (eM ca h) zcM za f L Q sz [.ref (h 0), .int x0, .int x1]) (sgQi D vwCl 26 h (eM ca h) sz (fun r f1 L1 Q1 => ((sgI loM hiM f1 ∧ sgK WkX12_becomes f f1 ∧ L1 = L ∧ Q1 = Q ∧ JM f1) ∧ (0 ≤ r.toInt ∧ r.toInt ≤ 99) ∧ (r, f1) = sX12_becomes x0 x1 f L))) 0 0 (sgA 26 h sz) := by
  sorry
abbrev WkX12_mend : List (Nat × Nat × Option Nat) := [(0, 0, some 4), (0, 0, some 5), (1, 1, none), (2, 2, none), (3, 3, none), (4, 4, none)]
set_option maxHeartbeats 4000000 in
set_option maxRecDepth 100000 in
theorem kX12_mend (l : Launch) (D : va_G) (ca : Nat → ClassId) (za h : Nat → Nat) (hh : sgH 26 h) (f : sg_F) (L : sg_L) (Q : sg_Q) (hI : sgI loM hiM f) (hJ : JM f) (x0 : Int32) (x1 : Int32) (x2 : Int32) (sz : Nat) : Met l yX12_mend gwX12_mend { frames := 3, cells := 0, slots := 0, locals := 69 } (sgP D vwCl (tyX ca) 26 h (eM ca h) zcM za f L Q sz [.ref (h 0), .int x0, .int x1, .int x2]) (sgQi D vwCl 26 h (eM ca h) sz (fun r f1 L1 Q1 => ((sgI loM hiM f1 ∧ sgK WkX12_mend f f1 ∧ L1 = L ∧ Q1 = Q ∧ JM f1) ∧ ((-1) ≤ r.toInt ∧ r.toInt ≤ 99) ∧ (r, f1) = sX12_mend x0 x1 x2 f L))) 0 0 (sgA 26 h sz) := by
  sorry
set_option maxHeartbeats 4000000 in
set_option maxRecDepth 100000 in
theorem kX12_of (l : Launch) (D : va_G) (ca : Nat → ClassId) (za h : Nat → Nat) (hh : sgH 26 h) (f : sg_F) (L : sg_L) (Q : sg_Q) (hI : sgI loM hiM f) (x0 : Int32) (x1 : Int32) (sz : Nat) : Met l yX12_of gwX12_of { frames := 3, cells := 0, slots := 0, locals := 69 } (sgP D vwCl (tyX ca) 26 h (eM ca h) zcM za f L Q sz [.ref (h 0), .int x0, .int x1]) (sgQi D vwCl 26 h (eM ca h) sz (fun r f1 L1 Q1 => ((f1 = f ∧ L1 = L ∧ Q1 = Q) ∧ ((-1) ≤ r.toInt ∧ r.toInt ≤ 99) ∧ (r) = sX12_of x0 x1 f L))) 0 0 (sgA 26 h sz) := by
  sorry
abbrev WkX12_feed : List (Nat × Nat × Option Nat) := [(0, 0, some 9), (6, 6, none)]
set_option maxHeartbeats 4000000 in
set_option maxRecDepth 100000 in
theorem kX12_feed (l : Launch) (D : va_G) (ca : Nat → ClassId) (za h : Nat → Nat) (hh : sgH 26 h) (f : sg_F) (L : sg_L) (Q : sg_Q) (hI : sgI loM hiM f) (x0 : Int32) (sz : Nat) : Met l yX12_feed gwX12_feed { frames := 1, cells := 0, slots := 0, locals := 25 } (sgP D vwCl (tyX ca) 26 h (eM ca h) zcM za f L Q sz [.ref (h 0), .int x0]) (sgQi D vwCl 26 h (eM ca h) sz (fun r f1 L1 Q1 => ((sgI loM hiM f1 ∧ sgK WkX12_feed f f1 ∧ L1 = L ∧ Q1 = Q) ∧ ((-3) ≤ r.toInt ∧ r.toInt ≤ 120) ∧ (r, f1) = sX12_feed x0 f L))) 0 0 (sgA 26 h sz) := by
  sorry
set_option maxHeartbeats 4000000 in
set_option maxRecDepth 100000 in
theorem kX12_byteAt (l : Launch) (D : va_G) (ca : Nat → ClassId) (za h : Nat → Nat) (hh : sgH 26 h) (f : sg_F) (L : sg_L) (Q : sg_Q) (hI : sgI loM hiM f) (sz : Nat) : Met l yX12_byteAt gwX12_byteAt { frames := 0, cells := 0, slots := 0, locals := 0 } (sgP D vwCl (tyX ca) 26 h (eM ca h) zcM za f L Q sz [.ref (h 0)]) (sgQi D vwCl 26 h (eM ca h) sz (fun r f1 L1 Q1 => ((f1 = f ∧ L1 = L ∧ Q1 = Q) ∧ (0 ≤ r.toInt ∧ r.toInt ≤ 255) ∧ (r.toInt = 0 ∨ (f 0 13).toInt < (f 0 14).toInt) ∧ (r) = sX12_byteAt f L))) 0 0 (sgA 26 h sz) := by
  sorry
abbrev WkX12_wrong : List (Nat × Nat × Option Nat) := [(0, 0, some 15)]
set_option maxHeartbeats 4000000 in
set_option maxRecDepth 100000 in
theorem kX12_wrong (l : Launch) (D : va_G) (ca : Nat → ClassId) (za h : Nat → Nat) (hh : sgH 26 h) (f : sg_F) (L : sg_L) (Q : sg_Q) (hI : sgI loM hiM f) (sz : Nat) : Met l yX12_wrong gwX12_wrong { frames := 0, cells := 0, slots := 0, locals := 0 } (sgP D vwCl (tyX ca) 26 h (eM ca h) zcM za f L Q sz [.ref (h 0)]) (sgQi D vwCl 26 h (eM ca h) sz (fun r f1 L1 Q1 => ((sgI loM hiM f1 ∧ sgK WkX12_wrong f f1 ∧ L1 = L ∧ Q1 = Q) ∧ (0 ≤ r.toInt ∧ r.toInt ≤ 0) ∧ (0 ≤ (f1 0 15).toInt) ∧ (r, f1) = sX12_wrong f L))) 0 0 (sgA 26 h sz) := by
  sorry
set_option maxHeartbeats 4000000 in
set_option maxRecDepth 100000 in
theorem kX12_nameOf (l : Launch) (D : va_G) (ca : Nat → ClassId) (za h : Nat → Nat) (hh : sgH 26 h) (f : sg_F) (L : sg_L) (Q : sg_Q) (hI : sgI loM hiM f) (x0 : Int32) (b0 : 0 ≤ x0.toInt ∧ x0.toInt ≤ 255) (sz : Nat) : Met l yX12_nameOf gwX12_nameOf { frames := 0, cells := 0, slots := 0, locals := 0 } (sgP D vwCl (tyX ca) 26 h (eM ca h) zcM za f L Q sz [.int x0]) (sgQi D vwCl 26 h (eM ca h) sz (fun r f1 L1 Q1 => ((f1 = f ∧ L1 = L ∧ Q1 = Q) ∧ ((-1) ≤ r.toInt ∧ r.toInt ≤ 5) ∧ (r.toInt < 0 ∨ 0 < x0.toInt) ∧ (r) = sX12_nameOf x0 f L))) 0 0 (sgA 26 h sz) := by
  sorry
abbrev WkX12_one_6 : List (Nat × Nat × Option Nat) := [(0, 0, some 13), (0, 0, some 15)]
set_option maxHeartbeats 4000000 in
set_option maxRecDepth 100000 in
theorem kX12_one_6 (l : Launch) (D : va_G) (ca : Nat → ClassId) (za h : Nat → Nat) (hh : sgH 26 h) (f : sg_F) (L : sg_L) (Q : sg_Q) (hI : sgI loM hiM f) (p0 : 6 ≤ (f 0 16).toInt) (p1 : 0 ≤ (f 0 15).toInt ∨ (f 0 16).toInt = 6) (sz : Nat) : Met l yX12_one gwX12_one { frames := 1, cells := 0, slots := 0, locals := 20 } (sgP D vwCl (tyX ca) 26 h (eM ca h) zcM za f L Q sz [.ref (h 0)]) (sgQi D vwCl 26 h (eM ca h) sz (fun r f1 L1 Q1 => ((sgI loM hiM f1 ∧ sgK WkX12_one_6 f f1 ∧ L1 = L ∧ Q1 = Q) ∧ True ∧ ((f 0 13).toInt ≤ (f1 0 13).toInt) ∧ (6 ≤ (f1 0 16).toInt) ∧ (0 ≤ (f1 0 15).toInt ∨ (f1 0 16).toInt = 6) ∧ (r, f1) = sX12_one_6 f L))) 0 0 (sgA 26 h sz) := by
  sorry
abbrev WkX12_product_6 : List (Nat × Nat × Option Nat) := [(0, 0, some 13), (0, 0, some 15)]
set_option maxHeartbeats 4000000 in
set_option maxRecDepth 100000 in
theorem kX12_product_6 (l : Launch) (D : va_G) (ca : Nat → ClassId) (za h : Nat → Nat) (hh : sgH 26 h) (f : sg_F) (L : sg_L) (Q : sg_Q) (hI : sgI loM hiM f) (p0 : 6 ≤ (f 0 16).toInt) (p1 : 0 ≤ (f 0 15).toInt ∨ (f 0 16).toInt = 6) (sz : Nat) : Met l yX12_product gwX12_product { frames := 2, cells := 0, slots := 0, locals := 44 } (sgP D vwCl (tyX ca) 26 h (eM ca h) zcM za f L Q sz [.ref (h 0)]) (sgQi D vwCl 26 h (eM ca h) sz (fun r f1 L1 Q1 => ((sgI loM hiM f1 ∧ sgK WkX12_product_6 f f1 ∧ L1 = L ∧ Q1 = Q) ∧ True ∧ ((f 0 13).toInt ≤ (f1 0 13).toInt) ∧ (6 ≤ (f1 0 16).toInt) ∧ (0 ≤ (f1 0 15).toInt ∨ (f1 0 16).toInt = 6) ∧ (r, f1) = sX12_product_6 f L))) 0 0 (sgA 26 h sz) := by
  sorry
abbrev WkX12_sums_6 : List (Nat × Nat × Option Nat) := [(0, 0, some 13), (0, 0, some 15)]
set_option maxHeartbeats 4000000 in
set_option maxRecDepth 100000 in
theorem kX12_sums_6 (l : Launch) (D : va_G) (ca : Nat → ClassId) (za h : Nat → Nat) (hh : sgH 26 h) (f : sg_F) (L : sg_L) (Q : sg_Q) (hI : sgI loM hiM f) (p0 : 6 ≤ (f 0 16).toInt) (p1 : 0 ≤ (f 0 15).toInt ∨ (f 0 16).toInt = 6) (sz : Nat) : Met l yX12_sums gwX12_sums { frames := 3, cells := 0, slots := 0, locals := 67 } (sgP D vwCl (tyX ca) 26 h (eM ca h) zcM za f L Q sz [.ref (h 0)]) (sgQi D vwCl 26 h (eM ca h) sz (fun r f1 L1 Q1 => ((sgI loM hiM f1 ∧ sgK WkX12_sums_6 f f1 ∧ L1 = L ∧ Q1 = Q) ∧ True ∧ ((f 0 13).toInt ≤ (f1 0 13).toInt) ∧ (6 ≤ (f1 0 16).toInt) ∧ (0 ≤ (f1 0 15).toInt ∨ (f1 0 16).toInt = 6) ∧ (r, f1) = sX12_sums_6 f L))) 0 0 (sgA 26 h sz) := by
  sorry
abbrev WkX12_compared_6 : List (Nat × Nat × Option Nat) := [(0, 0, some 13), (0, 0, some 15)]
set_option maxHeartbeats 4000000 in
set_option maxRecDepth 100000 in
theorem kX12_compared_6 (l : Launch) (D : va_G) (ca : Nat → ClassId) (za h : Nat → Nat) (hh : sgH 26 h) (f : sg_F) (L : sg_L) (Q : sg_Q) (hI : sgI loM hiM f) (p0 : 6 ≤ (f 0 16).toInt) (p1 : 0 ≤ (f 0 15).toInt ∨ (f 0 16).toInt = 6) (sz : Nat) : Met l yX12_compared gwX12_compared { frames := 4, cells := 0, slots := 0, locals := 90 } (sgP D vwCl (tyX ca) 26 h (eM ca h) zcM za f L Q sz [.ref (h 0)]) (sgQi D vwCl 26 h (eM ca h) sz (fun r f1 L1 Q1 => ((sgI loM hiM f1 ∧ sgK WkX12_compared_6 f f1 ∧ L1 = L ∧ Q1 = Q) ∧ True ∧ ((f 0 13).toInt ≤ (f1 0 13).toInt) ∧ (6 ≤ (f1 0 16).toInt) ∧ (0 ≤ (f1 0 15).toInt ∨ (f1 0 16).toInt = 6) ∧ (r, f1) = sX12_compared_6 f L))) 0 0 (sgA 26 h sz) := by
  sorry
abbrev WkX12_takes_38 : List (Nat × Nat × Option Nat) := [(0, 0, some 13)]
set_option maxHeartbeats 4000000 in
set_option maxRecDepth 100000 in
theorem kX12_takes_38 (l : Launch) (D : va_G) (ca : Nat → ClassId) (za h : Nat → Nat) (hh : sgH 26 h) (f : sg_F) (L : sg_L) (Q : sg_Q) (hI : sgI loM hiM f) (sz : Nat) : Met l yX12_takes gwX12_takes { frames := 1, cells := 0, slots := 0, locals := 20 } (sgP D vwCl (tyX ca) 26 h (eM ca h) zcM za f L Q sz [.ref (h 0), .int 38]) (sgQi D vwCl 26 h (eM ca h) sz (fun r f1 L1 Q1 => ((sgI loM hiM f1 ∧ sgK WkX12_takes_38 f f1 ∧ L1 = L ∧ Q1 = Q) ∧ ((r = 1 ∧ ((f 0 15).toInt < 0 ∧ (f 0 13).toInt < (f 0 14).toInt ∧ (f1 0 13).toInt = (f 0 13).toInt + 1)) ∨ (r = 0 ∧ ((f1 0 13).toInt = (f 0 13).toInt))) ∧ (r, f1) = sX12_takes_38 f L))) 0 0 (sgA 26 h sz) := by
  sorry
abbrev WkX12_both_6 : List (Nat × Nat × Option Nat) := [(0, 0, some 13), (0, 0, some 15)]
set_option maxHeartbeats 4000000 in
set_option maxRecDepth 100000 in
theorem kX12_both_6 (l : Launch) (D : va_G) (ca : Nat → ClassId) (za h : Nat → Nat) (hh : sgH 26 h) (f : sg_F) (L : sg_L) (Q : sg_Q) (hI : sgI loM hiM f) (p0 : 6 ≤ (f 0 16).toInt) (p1 : 0 ≤ (f 0 15).toInt ∨ (f 0 16).toInt = 6) (sz : Nat) : Met l yX12_both gwX12_both { frames := 5, cells := 0, slots := 0, locals := 113 } (sgP D vwCl (tyX ca) 26 h (eM ca h) zcM za f L Q sz [.ref (h 0)]) (sgQi D vwCl 26 h (eM ca h) sz (fun r f1 L1 Q1 => ((sgI loM hiM f1 ∧ sgK WkX12_both_6 f f1 ∧ L1 = L ∧ Q1 = Q) ∧ True ∧ ((f 0 13).toInt ≤ (f1 0 13).toInt) ∧ (6 ≤ (f1 0 16).toInt) ∧ (0 ≤ (f1 0 15).toInt ∨ (f1 0 16).toInt = 6) ∧ (r, f1) = sX12_both_6 f L))) 0 0 (sgA 26 h sz) := by
  sorry
abbrev WkX12_takes_124 : List (Nat × Nat × Option Nat) := [(0, 0, some 13)]
set_option maxHeartbeats 4000000 in
set_option maxRecDepth 100000 in
theorem kX12_takes_124 (l : Launch) (D : va_G) (ca : Nat → ClassId) (za h : Nat → Nat) (hh : sgH 26 h) (f : sg_F) (L : sg_L) (Q : sg_Q) (hI : sgI loM hiM f) (sz : Nat) : Met l yX12_takes gwX12_takes { frames := 1, cells := 0, slots := 0, locals := 20 } (sgP D vwCl (tyX ca) 26 h (eM ca h) zcM za f L Q sz [.ref (h 0), .int 124]) (sgQi D vwCl 26 h (eM ca h) sz (fun r f1 L1 Q1 => ((sgI loM hiM f1 ∧ sgK WkX12_takes_124 f f1 ∧ L1 = L ∧ Q1 = Q) ∧ ((r = 1 ∧ ((f 0 15).toInt < 0 ∧ (f 0 13).toInt < (f 0 14).toInt ∧ (f1 0 13).toInt = (f 0 13).toInt + 1)) ∨ (r = 0 ∧ ((f1 0 13).toInt = (f 0 13).toInt))) ∧ (r, f1) = sX12_takes_124 f L))) 0 0 (sgA 26 h sz) := by
  sorry
abbrev WkX12_either_6 : List (Nat × Nat × Option Nat) := [(0, 0, some 13), (0, 0, some 15)]
set_option maxHeartbeats 4000000 in
set_option maxRecDepth 100000 in
theorem kX12_either_6 (l : Launch) (D : va_G) (ca : Nat → ClassId) (za h : Nat → Nat) (hh : sgH 26 h) (f : sg_F) (L : sg_L) (Q : sg_Q) (hI : sgI loM hiM f) (p0 : 6 ≤ (f 0 16).toInt) (p1 : 0 ≤ (f 0 15).toInt ∨ (f 0 16).toInt = 6) (sz : Nat) : Met l yX12_either gwX12_either { frames := 6, cells := 0, slots := 0, locals := 135 } (sgP D vwCl (tyX ca) 26 h (eM ca h) zcM za f L Q sz [.ref (h 0)]) (sgQi D vwCl 26 h (eM ca h) sz (fun r f1 L1 Q1 => ((sgI loM hiM f1 ∧ sgK WkX12_either_6 f f1 ∧ L1 = L ∧ Q1 = Q) ∧ True ∧ ((f 0 13).toInt ≤ (f1 0 13).toInt) ∧ (6 ≤ (f1 0 16).toInt) ∧ (0 ≤ (f1 0 15).toInt ∨ (f1 0 16).toInt = 6) ∧ (r, f1) = sX12_either_6 f L))) 0 0 (sgA 26 h sz) := by
  sorry
abbrev WkX12_takes_41 : List (Nat × Nat × Option Nat) := [(0, 0, some 13)]
set_option maxHeartbeats 4000000 in
set_option maxRecDepth 100000 in
theorem kX12_takes_41 (l : Launch) (D : va_G) (ca : Nat → ClassId) (za h : Nat → Nat) (hh : sgH 26 h) (f : sg_F) (L : sg_L) (Q : sg_Q) (hI : sgI loM hiM f) (sz : Nat) : Met l yX12_takes gwX12_takes { frames := 1, cells := 0, slots := 0, locals := 20 } (sgP D vwCl (tyX ca) 26 h (eM ca h) zcM za f L Q sz [.ref (h 0), .int 41]) (sgQi D vwCl 26 h (eM ca h) sz (fun r f1 L1 Q1 => ((sgI loM hiM f1 ∧ sgK WkX12_takes_41 f f1 ∧ L1 = L ∧ Q1 = Q) ∧ ((r = 1 ∧ ((f 0 15).toInt < 0 ∧ (f 0 13).toInt < (f 0 14).toInt ∧ (f1 0 13).toInt = (f 0 13).toInt + 1)) ∨ (r = 0 ∧ ((f1 0 13).toInt = (f 0 13).toInt))) ∧ (r, f1) = sX12_takes_41 f L))) 0 0 (sgA 26 h sz) := by
  sorry
abbrev WkX12_one_5 : List (Nat × Nat × Option Nat) := [(0, 0, some 13), (0, 0, some 15), (0, 0, some 16)]
set_option maxHeartbeats 4000000 in
set_option maxRecDepth 100000 in
theorem kX12_one_5 (l : Launch) (D : va_G) (ca : Nat → ClassId) (za h : Nat → Nat) (hh : sgH 26 h) (f : sg_F) (L : sg_L) (Q : sg_Q) (hI : sgI loM hiM f) (p0 : 5 ≤ (f 0 16).toInt) (p1 : 0 ≤ (f 0 15).toInt ∨ (f 0 16).toInt = 5) (sz : Nat) : Met l yX12_one gwX12_one { frames := 7, cells := 0, slots := 0, locals := 157 } (sgP D vwCl (tyX ca) 26 h (eM ca h) zcM za f L Q sz [.ref (h 0)]) (sgQi D vwCl 26 h (eM ca h) sz (fun r f1 L1 Q1 => ((sgI loM hiM f1 ∧ sgK WkX12_one_5 f f1 ∧ L1 = L ∧ Q1 = Q) ∧ True ∧ ((f 0 13).toInt ≤ (f1 0 13).toInt) ∧ (5 ≤ (f1 0 16).toInt) ∧ (0 ≤ (f1 0 15).toInt ∨ (f1 0 16).toInt = 5) ∧ (r, f1) = sX12_one_5 f L))) 0 0 (sgA 26 h sz) := by
  sorry
abbrev WkX12_product_5 : List (Nat × Nat × Option Nat) := [(0, 0, some 13), (0, 0, some 15), (0, 0, some 16)]
set_option maxHeartbeats 4000000 in
set_option maxRecDepth 100000 in
theorem kX12_product_5 (l : Launch) (D : va_G) (ca : Nat → ClassId) (za h : Nat → Nat) (hh : sgH 26 h) (f : sg_F) (L : sg_L) (Q : sg_Q) (hI : sgI loM hiM f) (p0 : 5 ≤ (f 0 16).toInt) (p1 : 0 ≤ (f 0 15).toInt ∨ (f 0 16).toInt = 5) (sz : Nat) : Met l yX12_product gwX12_product { frames := 8, cells := 0, slots := 0, locals := 181 } (sgP D vwCl (tyX ca) 26 h (eM ca h) zcM za f L Q sz [.ref (h 0)]) (sgQi D vwCl 26 h (eM ca h) sz (fun r f1 L1 Q1 => ((sgI loM hiM f1 ∧ sgK WkX12_product_5 f f1 ∧ L1 = L ∧ Q1 = Q) ∧ True ∧ ((f 0 13).toInt ≤ (f1 0 13).toInt) ∧ (5 ≤ (f1 0 16).toInt) ∧ (0 ≤ (f1 0 15).toInt ∨ (f1 0 16).toInt = 5) ∧ (r, f1) = sX12_product_5 f L))) 0 0 (sgA 26 h sz) := by
  sorry
abbrev WkX12_sums_5 : List (Nat × Nat × Option Nat) := [(0, 0, some 13), (0, 0, some 15), (0, 0, some 16)]
set_option maxHeartbeats 4000000 in
set_option maxRecDepth 100000 in
theorem kX12_sums_5 (l : Launch) (D : va_G) (ca : Nat → ClassId) (za h : Nat → Nat) (hh : sgH 26 h) (f : sg_F) (L : sg_L) (Q : sg_Q) (hI : sgI loM hiM f) (p0 : 5 ≤ (f 0 16).toInt) (p1 : 0 ≤ (f 0 15).toInt ∨ (f 0 16).toInt = 5) (sz : Nat) : Met l yX12_sums gwX12_sums { frames := 9, cells := 0, slots := 0, locals := 204 } (sgP D vwCl (tyX ca) 26 h (eM ca h) zcM za f L Q sz [.ref (h 0)]) (sgQi D vwCl 26 h (eM ca h) sz (fun r f1 L1 Q1 => ((sgI loM hiM f1 ∧ sgK WkX12_sums_5 f f1 ∧ L1 = L ∧ Q1 = Q) ∧ True ∧ ((f 0 13).toInt ≤ (f1 0 13).toInt) ∧ (5 ≤ (f1 0 16).toInt) ∧ (0 ≤ (f1 0 15).toInt ∨ (f1 0 16).toInt = 5) ∧ (r, f1) = sX12_sums_5 f L))) 0 0 (sgA 26 h sz) := by
  sorry
abbrev WkX12_compared_5 : List (Nat × Nat × Option Nat) := [(0, 0, some 13), (0, 0, some 15), (0, 0, some 16)]
set_option maxHeartbeats 4000000 in
set_option maxRecDepth 100000 in
theorem kX12_compared_5 (l : Launch) (D : va_G) (ca : Nat → ClassId) (za h : Nat → Nat) (hh : sgH 26 h) (f : sg_F) (L : sg_L) (Q : sg_Q) (hI : sgI loM hiM f) (p0 : 5 ≤ (f 0 16).toInt) (p1 : 0 ≤ (f 0 15).toInt ∨ (f 0 16).toInt = 5) (sz : Nat) : Met l yX12_compared gwX12_compared { frames := 10, cells := 0, slots := 0, locals := 227 } (sgP D vwCl (tyX ca) 26 h (eM ca h) zcM za f L Q sz [.ref (h 0)]) (sgQi D vwCl 26 h (eM ca h) sz (fun r f1 L1 Q1 => ((sgI loM hiM f1 ∧ sgK WkX12_compared_5 f f1 ∧ L1 = L ∧ Q1 = Q) ∧ True ∧ ((f 0 13).toInt ≤ (f1 0 13).toInt) ∧ (5 ≤ (f1 0 16).toInt) ∧ (0 ≤ (f1 0 15).toInt ∨ (f1 0 16).toInt = 5) ∧ (r, f1) = sX12_compared_5 f L))) 0 0 (sgA 26 h sz) := by
  sorry
abbrev WkX12_both_5 : List (Nat × Nat × Option Nat) := [(0, 0, some 13), (0, 0, some 15), (0, 0, some 16)]
set_option maxHeartbeats 4000000 in
set_option maxRecDepth 100000 in
theorem kX12_both_5 (l : Launch) (D : va_G) (ca : Nat → ClassId) (za h : Nat → Nat) (hh : sgH 26 h) (f : sg_F) (L : sg_L) (Q : sg_Q) (hI : sgI loM hiM f) (p0 : 5 ≤ (f 0 16).toInt) (p1 : 0 ≤ (f 0 15).toInt ∨ (f 0 16).toInt = 5) (sz : Nat) : Met l yX12_both gwX12_both { frames := 11, cells := 0, slots := 0, locals := 250 } (sgP D vwCl (tyX ca) 26 h (eM ca h) zcM za f L Q sz [.ref (h 0)]) (sgQi D vwCl 26 h (eM ca h) sz (fun r f1 L1 Q1 => ((sgI loM hiM f1 ∧ sgK WkX12_both_5 f f1 ∧ L1 = L ∧ Q1 = Q) ∧ True ∧ ((f 0 13).toInt ≤ (f1 0 13).toInt) ∧ (5 ≤ (f1 0 16).toInt) ∧ (0 ≤ (f1 0 15).toInt ∨ (f1 0 16).toInt = 5) ∧ (r, f1) = sX12_both_5 f L))) 0 0 (sgA 26 h sz) := by
  sorry
abbrev WkX12_either_5 : List (Nat × Nat × Option Nat) := [(0, 0, some 13), (0, 0, some 15), (0, 0, some 16)]
set_option maxHeartbeats 4000000 in
set_option maxRecDepth 100000 in
theorem kX12_either_5 (l : Launch) (D : va_G) (ca : Nat → ClassId) (za h : Nat → Nat) (hh : sgH 26 h) (f : sg_F) (L : sg_L) (Q : sg_Q) (hI : sgI loM hiM f) (p0 : 5 ≤ (f 0 16).toInt) (p1 : 0 ≤ (f 0 15).toInt ∨ (f 0 16).toInt = 5) (sz : Nat) : Met l yX12_either gwX12_either { frames := 12, cells := 0, slots := 0, locals := 272 } (sgP D vwCl (tyX ca) 26 h (eM ca h) zcM za f L Q sz [.ref (h 0)]) (sgQi D vwCl 26 h (eM ca h) sz (fun r f1 L1 Q1 => ((sgI loM hiM f1 ∧ sgK WkX12_either_5 f f1 ∧ L1 = L ∧ Q1 = Q) ∧ True ∧ ((f 0 13).toInt ≤ (f1 0 13).toInt) ∧ (5 ≤ (f1 0 16).toInt) ∧ (0 ≤ (f1 0 15).toInt ∨ (f1 0 16).toInt = 5) ∧ (r, f1) = sX12_either_5 f L))) 0 0 (sgA 26 h sz) := by
  sorry
abbrev WkX12_one_4 : List (Nat × Nat × Option Nat) := [(0, 0, some 13), (0, 0, some 15), (0, 0, some 16)]
set_option maxHeartbeats 4000000 in
set_option maxRecDepth 100000 in
theorem kX12_one_4 (l : Launch) (D : va_G) (ca : Nat → ClassId) (za h : Nat → Nat) (hh : sgH 26 h) (f : sg_F) (L : sg_L) (Q : sg_Q) (hI : sgI loM hiM f) (p0 : 4 ≤ (f 0 16).toInt) (p1 : 0 ≤ (f 0 15).toInt ∨ (f 0 16).toInt = 4) (sz : Nat) : Met l yX12_one gwX12_one { frames := 13, cells := 0, slots := 0, locals := 294 } (sgP D vwCl (tyX ca) 26 h (eM ca h) zcM za f L Q sz [.ref (h 0)]) (sgQi D vwCl 26 h (eM ca h) sz (fun r f1 L1 Q1 => ((sgI loM hiM f1 ∧ sgK WkX12_one_4 f f1 ∧ L1 = L ∧ Q1 = Q) ∧ True ∧ ((f 0 13).toInt ≤ (f1 0 13).toInt) ∧ (4 ≤ (f1 0 16).toInt) ∧ (0 ≤ (f1 0 15).toInt ∨ (f1 0 16).toInt = 4) ∧ (r, f1) = sX12_one_4 f L))) 0 0 (sgA 26 h sz) := by
  sorry
abbrev WkX12_product_4 : List (Nat × Nat × Option Nat) := [(0, 0, some 13), (0, 0, some 15), (0, 0, some 16)]
set_option maxHeartbeats 4000000 in
set_option maxRecDepth 100000 in
theorem kX12_product_4 (l : Launch) (D : va_G) (ca : Nat → ClassId) (za h : Nat → Nat) (hh : sgH 26 h) (f : sg_F) (L : sg_L) (Q : sg_Q) (hI : sgI loM hiM f) (p0 : 4 ≤ (f 0 16).toInt) (p1 : 0 ≤ (f 0 15).toInt ∨ (f 0 16).toInt = 4) (sz : Nat) : Met l yX12_product gwX12_product { frames := 14, cells := 0, slots := 0, locals := 318 } (sgP D vwCl (tyX ca) 26 h (eM ca h) zcM za f L Q sz [.ref (h 0)]) (sgQi D vwCl 26 h (eM ca h) sz (fun r f1 L1 Q1 => ((sgI loM hiM f1 ∧ sgK WkX12_product_4 f f1 ∧ L1 = L ∧ Q1 = Q) ∧ True ∧ ((f 0 13).toInt ≤ (f1 0 13).toInt) ∧ (4 ≤ (f1 0 16).toInt) ∧ (0 ≤ (f1 0 15).toInt ∨ (f1 0 16).toInt = 4) ∧ (r, f1) = sX12_product_4 f L))) 0 0 (sgA 26 h sz) := by
  sorry
abbrev WkX12_sums_4 : List (Nat × Nat × Option Nat) := [(0, 0, some 13), (0, 0, some 15), (0, 0, some 16)]
set_option maxHeartbeats 4000000 in
set_option maxRecDepth 100000 in
theorem kX12_sums_4 (l : Launch) (D : va_G) (ca : Nat → ClassId) (za h : Nat → Nat) (hh : sgH 26 h) (f : sg_F) (L : sg_L) (Q : sg_Q) (hI : sgI loM hiM f) (p0 : 4 ≤ (f 0 16).toInt) (p1 : 0 ≤ (f 0 15).toInt ∨ (f 0 16).toInt = 4) (sz : Nat) : Met l yX12_sums gwX12_sums { frames := 15, cells := 0, slots := 0, locals := 341 } (sgP D vwCl (tyX ca) 26 h (eM ca h) zcM za f L Q sz [.ref (h 0)]) (sgQi D vwCl 26 h (eM ca h) sz (fun r f1 L1 Q1 => ((sgI loM hiM f1 ∧ sgK WkX12_sums_4 f f1 ∧ L1 = L ∧ Q1 = Q) ∧ True ∧ ((f 0 13).toInt ≤ (f1 0 13).toInt) ∧ (4 ≤ (f1 0 16).toInt) ∧ (0 ≤ (f1 0 15).toInt ∨ (f1 0 16).toInt = 4) ∧ (r, f1) = sX12_sums_4 f L))) 0 0 (sgA 26 h sz) := by
  sorry
