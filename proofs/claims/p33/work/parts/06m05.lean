/-! contracts of any state. Laid by a program (wip/tool) -/
abbrev WkX12_setsAs_0_f1_f7 : List (Nat × Nat × Option Nat) := [(0, 0, some 48), (21, 21, some 1)]
set_option maxHeartbeats 4000000 in
set_option maxRecDepth 100000 in
theorem kX12_setsAs_0_f1_f7 (l : Launch) (D : va_G) (ca : Nat → ClassId) (za h : Nat → Nat) (hh : sgH 26 h) (f : sg_F) (L : sg_L) (Q : sg_Q) (hI : sgI loM hiM f) (x1 : Int32) (hf_0_48 : f 0 48 = 1) (hf_0_49 : f 0 49 = 7) (p0 : 1 ≤ (f 0 48).toInt ∧ (f 0 48).toInt ≤ 1) (sz : Nat) : Met l yX12_setsAs gwX12_setsAs { frames := 1, cells := 0, slots := 0, locals := 21 } (sgP D vwCl (tyX ca) 26 h (eM ca h) zcM za f L Q sz [.ref (h 0), .int 0, .int x1]) (sgQi D vwCl 26 h (eM ca h) sz (fun r f1 L1 Q1 => ((sgI loM hiM f1 ∧ sgK WkX12_setsAs_0_f1_f7 f f1 ∧ L1 = L ∧ Q1 = Q) ∧ True ∧ (2 ≤ (f1 0 48).toInt ∧ (f1 0 48).toInt ≤ 2) ∧ (r, f1) = sX12_setsAs_0_f1_f7 x1 f L))) 0 0 (sgA 26 h sz) := by
  sorry
abbrev WkX12_setsAs_7_f0_f7 : List (Nat × Nat × Option Nat) := [(0, 0, some 48), (21, 21, some 0), (21, 21, some 1)]
set_option maxHeartbeats 4000000 in
set_option maxRecDepth 100000 in
theorem kX12_setsAs_7_f0_f7 (l : Launch) (D : va_G) (ca : Nat → ClassId) (za h : Nat → Nat) (hh : sgH 26 h) (f : sg_F) (L : sg_L) (Q : sg_Q) (hI : sgI loM hiM f) (x1 : Int32) (hf_0_48 : f 0 48 = 0) (hf_0_49 : f 0 49 = 7) (p0 : 0 ≤ (f 0 48).toInt ∧ (f 0 48).toInt ≤ 0) (sz : Nat) : Met l yX12_setsAs gwX12_setsAs { frames := 2, cells := 0, slots := 0, locals := 43 } (sgP D vwCl (tyX ca) 26 h (eM ca h) zcM za f L Q sz [.ref (h 0), .int 7, .int x1]) (sgQi D vwCl 26 h (eM ca h) sz (fun r f1 L1 Q1 => ((sgI loM hiM f1 ∧ sgK WkX12_setsAs_7_f0_f7 f f1 ∧ L1 = L ∧ Q1 = Q) ∧ True ∧ (2 ≤ (f1 0 48).toInt ∧ (f1 0 48).toInt ≤ 2) ∧ (r, f1) = sX12_setsAs_7_f0_f7 x1 f L))) 0 0 (sgA 26 h sz) := by
  sorry
abbrev WkX12_begins_10_f0 : List (Nat × Nat × Option Nat) := [(0, 0, some 48), (21, 21, some 0)]
set_option maxHeartbeats 4000000 in
set_option maxRecDepth 100000 in
theorem kX12_begins_10_f0 (l : Launch) (D : va_G) (ca : Nat → ClassId) (za h : Nat → Nat) (hh : sgH 26 h) (f : sg_F) (L : sg_L) (Q : sg_Q) (hI : sgI loM hiM f) (hf_0_48 : f 0 48 = 0) (p0 : 0 ≤ (f 0 48).toInt ∧ (f 0 48).toInt ≤ 0) (sz : Nat) : Met l yX12_begins gwX12_begins { frames := 0, cells := 0, slots := 0, locals := 0 } (sgP D vwCl (tyX ca) 26 h (eM ca h) zcM za f L Q sz [.ref (h 0), .int 10]) (sgQv D vwCl 26 h (eM ca h) sz (fun f1 L1 Q1 => ((sgI loM hiM f1 ∧ sgK WkX12_begins_10_f0 f f1 ∧ L1 = L ∧ Q1 = Q) ∧ (1 ≤ (f1 0 48).toInt ∧ (f1 0 48).toInt ≤ 1) ∧ (f1) = sX12_begins_10_f0 f L))) 0 0 (sgA 26 h sz) := by
  sorry
abbrev WkX12_setsAs_0_f1_f0 : List (Nat × Nat × Option Nat) := [(0, 0, some 48), (21, 21, some 1)]
set_option maxHeartbeats 4000000 in
set_option maxRecDepth 100000 in
theorem kX12_setsAs_0_f1_f0 (l : Launch) (D : va_G) (ca : Nat → ClassId) (za h : Nat → Nat) (hh : sgH 26 h) (f : sg_F) (L : sg_L) (Q : sg_Q) (hI : sgI loM hiM f) (x1 : Int32) (hf_0_48 : f 0 48 = 1) (hf_0_49 : f 0 49 = 0) (p0 : 1 ≤ (f 0 48).toInt ∧ (f 0 48).toInt ≤ 1) (sz : Nat) : Met l yX12_setsAs gwX12_setsAs { frames := 1, cells := 0, slots := 0, locals := 21 } (sgP D vwCl (tyX ca) 26 h (eM ca h) zcM za f L Q sz [.ref (h 0), .int 0, .int x1]) (sgQi D vwCl 26 h (eM ca h) sz (fun r f1 L1 Q1 => ((sgI loM hiM f1 ∧ sgK WkX12_setsAs_0_f1_f0 f f1 ∧ L1 = L ∧ Q1 = Q) ∧ True ∧ (2 ≤ (f1 0 48).toInt ∧ (f1 0 48).toInt ≤ 2) ∧ (r, f1) = sX12_setsAs_0_f1_f0 x1 f L))) 0 0 (sgA 26 h sz) := by
  sorry
abbrev WkX12_sitsAs_0_f0_f0 : List (Nat × Nat × Option Nat) := [(0, 0, some 48), (21, 21, some 0), (21, 21, some 1)]
set_option maxHeartbeats 4000000 in
set_option maxRecDepth 100000 in
theorem kX12_sitsAs_0_f0_f0 (l : Launch) (D : va_G) (ca : Nat → ClassId) (za h : Nat → Nat) (hh : sgH 26 h) (f : sg_F) (L : sg_L) (Q : sg_Q) (hI : sgI loM hiM f) (x1 : Int32) (hf_0_48 : f 0 48 = 0) (hf_0_49 : f 0 49 = 0) (p0 : 0 ≤ (f 0 48).toInt ∧ (f 0 48).toInt ≤ 0) (sz : Nat) : Met l yX12_sitsAs gwX12_sitsAs { frames := 2, cells := 0, slots := 0, locals := 43 } (sgP D vwCl (tyX ca) 26 h (eM ca h) zcM za f L Q sz [.ref (h 0), .int 0, .int x1]) (sgQi D vwCl 26 h (eM ca h) sz (fun r f1 L1 Q1 => ((sgI loM hiM f1 ∧ sgK WkX12_sitsAs_0_f0_f0 f f1 ∧ L1 = L ∧ Q1 = Q) ∧ True ∧ (2 ≤ (f1 0 48).toInt ∧ (f1 0 48).toInt ≤ 2) ∧ (r, f1) = sX12_sitsAs_0_f0_f0 x1 f L))) 0 0 (sgA 26 h sz) := by
  sorry
abbrev WkX12_begins_20_f1 : List (Nat × Nat × Option Nat) := [(0, 0, some 48), (21, 21, some 1)]
set_option maxHeartbeats 4000000 in
set_option maxRecDepth 100000 in
theorem kX12_begins_20_f1 (l : Launch) (D : va_G) (ca : Nat → ClassId) (za h : Nat → Nat) (hh : sgH 26 h) (f : sg_F) (L : sg_L) (Q : sg_Q) (hI : sgI loM hiM f) (hf_0_48 : f 0 48 = 1) (p0 : 1 ≤ (f 0 48).toInt ∧ (f 0 48).toInt ≤ 1) (sz : Nat) : Met l yX12_begins gwX12_begins { frames := 0, cells := 0, slots := 0, locals := 0 } (sgP D vwCl (tyX ca) 26 h (eM ca h) zcM za f L Q sz [.ref (h 0), .int 20]) (sgQv D vwCl 26 h (eM ca h) sz (fun f1 L1 Q1 => ((sgI loM hiM f1 ∧ sgK WkX12_begins_20_f1 f f1 ∧ L1 = L ∧ Q1 = Q) ∧ (2 ≤ (f1 0 48).toInt ∧ (f1 0 48).toInt ≤ 2) ∧ (f1) = sX12_begins_20_f1 f L))) 0 0 (sgA 26 h sz) := by
  sorry
abbrev WkX12_begins_1_f2 : List (Nat × Nat × Option Nat) := [(0, 0, some 48), (21, 21, some 2)]
set_option maxHeartbeats 4000000 in
set_option maxRecDepth 100000 in
theorem kX12_begins_1_f2 (l : Launch) (D : va_G) (ca : Nat → ClassId) (za h : Nat → Nat) (hh : sgH 26 h) (f : sg_F) (L : sg_L) (Q : sg_Q) (hI : sgI loM hiM f) (hf_0_48 : f 0 48 = 2) (p0 : 2 ≤ (f 0 48).toInt ∧ (f 0 48).toInt ≤ 2) (sz : Nat) : Met l yX12_begins gwX12_begins { frames := 0, cells := 0, slots := 0, locals := 0 } (sgP D vwCl (tyX ca) 26 h (eM ca h) zcM za f L Q sz [.ref (h 0), .int 1]) (sgQv D vwCl 26 h (eM ca h) sz (fun f1 L1 Q1 => ((sgI loM hiM f1 ∧ sgK WkX12_begins_1_f2 f f1 ∧ L1 = L ∧ Q1 = Q) ∧ (3 ≤ (f1 0 48).toInt ∧ (f1 0 48).toInt ≤ 3) ∧ (f1) = sX12_begins_1_f2 f L))) 0 0 (sgA 26 h sz) := by
  sorry
abbrev WkX12_setsAs_0_f2_f1 : List (Nat × Nat × Option Nat) := [(0, 0, some 48), (21, 21, some 2)]
set_option maxHeartbeats 4000000 in
set_option maxRecDepth 100000 in
theorem kX12_setsAs_0_f2_f1 (l : Launch) (D : va_G) (ca : Nat → ClassId) (za h : Nat → Nat) (hh : sgH 26 h) (f : sg_F) (L : sg_L) (Q : sg_Q) (hI : sgI loM hiM f) (x1 : Int32) (hf_0_48 : f 0 48 = 2) (hf_0_49 : f 0 49 = 1) (p0 : 2 ≤ (f 0 48).toInt ∧ (f 0 48).toInt ≤ 2) (sz : Nat) : Met l yX12_setsAs gwX12_setsAs { frames := 1, cells := 0, slots := 0, locals := 21 } (sgP D vwCl (tyX ca) 26 h (eM ca h) zcM za f L Q sz [.ref (h 0), .int 0, .int x1]) (sgQi D vwCl 26 h (eM ca h) sz (fun r f1 L1 Q1 => ((sgI loM hiM f1 ∧ sgK WkX12_setsAs_0_f2_f1 f f1 ∧ L1 = L ∧ Q1 = Q) ∧ True ∧ (3 ≤ (f1 0 48).toInt ∧ (f1 0 48).toInt ≤ 3) ∧ (r, f1) = sX12_setsAs_0_f2_f1 x1 f L))) 0 0 (sgA 26 h sz) := by
  sorry
abbrev WkX12_setsAs_1_f1_f1 : List (Nat × Nat × Option Nat) := [(0, 0, some 48), (21, 21, some 1), (21, 21, some 2)]
set_option maxHeartbeats 4000000 in
set_option maxRecDepth 100000 in
theorem kX12_setsAs_1_f1_f1 (l : Launch) (D : va_G) (ca : Nat → ClassId) (za h : Nat → Nat) (hh : sgH 26 h) (f : sg_F) (L : sg_L) (Q : sg_Q) (hI : sgI loM hiM f) (x1 : Int32) (hf_0_48 : f 0 48 = 1) (hf_0_49 : f 0 49 = 1) (p0 : 1 ≤ (f 0 48).toInt ∧ (f 0 48).toInt ≤ 1) (sz : Nat) : Met l yX12_setsAs gwX12_setsAs { frames := 2, cells := 0, slots := 0, locals := 43 } (sgP D vwCl (tyX ca) 26 h (eM ca h) zcM za f L Q sz [.ref (h 0), .int 1, .int x1]) (sgQi D vwCl 26 h (eM ca h) sz (fun r f1 L1 Q1 => ((sgI loM hiM f1 ∧ sgK WkX12_setsAs_1_f1_f1 f f1 ∧ L1 = L ∧ Q1 = Q) ∧ True ∧ (3 ≤ (f1 0 48).toInt ∧ (f1 0 48).toInt ≤ 3) ∧ (r, f1) = sX12_setsAs_1_f1_f1 x1 f L))) 0 0 (sgA 26 h sz) := by
  sorry
abbrev WkX12_sitsAs_1_f0_f1 : List (Nat × Nat × Option Nat) := [(0, 0, some 48), (21, 21, some 0), (21, 21, some 1), (21, 21, some 2)]
set_option maxHeartbeats 4000000 in
set_option maxRecDepth 100000 in
theorem kX12_sitsAs_1_f0_f1 (l : Launch) (D : va_G) (ca : Nat → ClassId) (za h : Nat → Nat) (hh : sgH 26 h) (f : sg_F) (L : sg_L) (Q : sg_Q) (hI : sgI loM hiM f) (x1 : Int32) (hf_0_48 : f 0 48 = 0) (hf_0_49 : f 0 49 = 1) (p0 : 0 ≤ (f 0 48).toInt ∧ (f 0 48).toInt ≤ 0) (sz : Nat) : Met l yX12_sitsAs gwX12_sitsAs { frames := 3, cells := 0, slots := 0, locals := 65 } (sgP D vwCl (tyX ca) 26 h (eM ca h) zcM za f L Q sz [.ref (h 0), .int 1, .int x1]) (sgQi D vwCl 26 h (eM ca h) sz (fun r f1 L1 Q1 => ((sgI loM hiM f1 ∧ sgK WkX12_sitsAs_1_f0_f1 f f1 ∧ L1 = L ∧ Q1 = Q) ∧ True ∧ (3 ≤ (f1 0 48).toInt ∧ (f1 0 48).toInt ≤ 3) ∧ (r, f1) = sX12_sitsAs_1_f0_f1 x1 f L))) 0 0 (sgA 26 h sz) := by
  sorry
abbrev WkX12_begins_30_f0 : List (Nat × Nat × Option Nat) := [(0, 0, some 48), (21, 21, some 0)]
set_option maxHeartbeats 4000000 in
set_option maxRecDepth 100000 in
theorem kX12_begins_30_f0 (l : Launch) (D : va_G) (ca : Nat → ClassId) (za h : Nat → Nat) (hh : sgH 26 h) (f : sg_F) (L : sg_L) (Q : sg_Q) (hI : sgI loM hiM f) (hf_0_48 : f 0 48 = 0) (p0 : 0 ≤ (f 0 48).toInt ∧ (f 0 48).toInt ≤ 0) (sz : Nat) : Met l yX12_begins gwX12_begins { frames := 0, cells := 0, slots := 0, locals := 0 } (sgP D vwCl (tyX ca) 26 h (eM ca h) zcM za f L Q sz [.ref (h 0), .int 30]) (sgQv D vwCl 26 h (eM ca h) sz (fun f1 L1 Q1 => ((sgI loM hiM f1 ∧ sgK WkX12_begins_30_f0 f f1 ∧ L1 = L ∧ Q1 = Q) ∧ (1 ≤ (f1 0 48).toInt ∧ (f1 0 48).toInt ≤ 1) ∧ (f1) = sX12_begins_30_f0 f L))) 0 0 (sgA 26 h sz) := by
  sorry
abbrev WkX12_begins_10_f1 : List (Nat × Nat × Option Nat) := [(0, 0, some 48), (21, 21, some 1)]
set_option maxHeartbeats 4000000 in
set_option maxRecDepth 100000 in
theorem kX12_begins_10_f1 (l : Launch) (D : va_G) (ca : Nat → ClassId) (za h : Nat → Nat) (hh : sgH 26 h) (f : sg_F) (L : sg_L) (Q : sg_Q) (hI : sgI loM hiM f) (hf_0_48 : f 0 48 = 1) (p0 : 1 ≤ (f 0 48).toInt ∧ (f 0 48).toInt ≤ 1) (sz : Nat) : Met l yX12_begins gwX12_begins { frames := 0, cells := 0, slots := 0, locals := 0 } (sgP D vwCl (tyX ca) 26 h (eM ca h) zcM za f L Q sz [.ref (h 0), .int 10]) (sgQv D vwCl 26 h (eM ca h) sz (fun f1 L1 Q1 => ((sgI loM hiM f1 ∧ sgK WkX12_begins_10_f1 f f1 ∧ L1 = L ∧ Q1 = Q) ∧ (2 ≤ (f1 0 48).toInt ∧ (f1 0 48).toInt ≤ 2) ∧ (f1) = sX12_begins_10_f1 f L))) 0 0 (sgA 26 h sz) := by
  sorry
abbrev WkX12_setsAs_2_f2_f2 : List (Nat × Nat × Option Nat) := [(0, 0, some 48), (21, 21, some 2)]
set_option maxHeartbeats 4000000 in
set_option maxRecDepth 100000 in
theorem kX12_setsAs_2_f2_f2 (l : Launch) (D : va_G) (ca : Nat → ClassId) (za h : Nat → Nat) (hh : sgH 26 h) (f : sg_F) (L : sg_L) (Q : sg_Q) (hI : sgI loM hiM f) (x1 : Int32) (hf_0_48 : f 0 48 = 2) (hf_0_49 : f 0 49 = 2) (p0 : 2 ≤ (f 0 48).toInt ∧ (f 0 48).toInt ≤ 2) (sz : Nat) : Met l yX12_setsAs gwX12_setsAs { frames := 1, cells := 0, slots := 0, locals := 21 } (sgP D vwCl (tyX ca) 26 h (eM ca h) zcM za f L Q sz [.ref (h 0), .int 2, .int x1]) (sgQi D vwCl 26 h (eM ca h) sz (fun r f1 L1 Q1 => ((sgI loM hiM f1 ∧ sgK WkX12_setsAs_2_f2_f2 f f1 ∧ L1 = L ∧ Q1 = Q) ∧ True ∧ (3 ≤ (f1 0 48).toInt ∧ (f1 0 48).toInt ≤ 3) ∧ (r, f1) = sX12_setsAs_2_f2_f2 x1 f L))) 0 0 (sgA 26 h sz) := by
  sorry
abbrev WkX12_sitsAs_0_f1_f2 : List (Nat × Nat × Option Nat) := [(0, 0, some 48), (21, 21, some 1), (21, 21, some 2)]
set_option maxHeartbeats 4000000 in
set_option maxRecDepth 100000 in
theorem kX12_sitsAs_0_f1_f2 (l : Launch) (D : va_G) (ca : Nat → ClassId) (za h : Nat → Nat) (hh : sgH 26 h) (f : sg_F) (L : sg_L) (Q : sg_Q) (hI : sgI loM hiM f) (x1 : Int32) (hf_0_48 : f 0 48 = 1) (hf_0_49 : f 0 49 = 2) (p0 : 1 ≤ (f 0 48).toInt ∧ (f 0 48).toInt ≤ 1) (sz : Nat) : Met l yX12_sitsAs gwX12_sitsAs { frames := 2, cells := 0, slots := 0, locals := 43 } (sgP D vwCl (tyX ca) 26 h (eM ca h) zcM za f L Q sz [.ref (h 0), .int 0, .int x1]) (sgQi D vwCl 26 h (eM ca h) sz (fun r f1 L1 Q1 => ((sgI loM hiM f1 ∧ sgK WkX12_sitsAs_0_f1_f2 f f1 ∧ L1 = L ∧ Q1 = Q) ∧ True ∧ (3 ≤ (f1 0 48).toInt ∧ (f1 0 48).toInt ≤ 3) ∧ (r, f1) = sX12_sitsAs_0_f1_f2 x1 f L))) 0 0 (sgA 26 h sz) := by
  sorry
abbrev WkX12_sitsAs_2_f0_f2 : List (Nat × Nat × Option Nat) := [(0, 0, some 48), (21, 21, some 0), (21, 21, some 1), (21, 21, some 2)]
set_option maxHeartbeats 4000000 in
set_option maxRecDepth 100000 in
theorem kX12_sitsAs_2_f0_f2 (l : Launch) (D : va_G) (ca : Nat → ClassId) (za h : Nat → Nat) (hh : sgH 26 h) (f : sg_F) (L : sg_L) (Q : sg_Q) (hI : sgI loM hiM f) (x1 : Int32) (hf_0_48 : f 0 48 = 0) (hf_0_49 : f 0 49 = 2) (p0 : 0 ≤ (f 0 48).toInt ∧ (f 0 48).toInt ≤ 0) (sz : Nat) : Met l yX12_sitsAs gwX12_sitsAs { frames := 3, cells := 0, slots := 0, locals := 66 } (sgP D vwCl (tyX ca) 26 h (eM ca h) zcM za f L Q sz [.ref (h 0), .int 2, .int x1]) (sgQi D vwCl 26 h (eM ca h) sz (fun r f1 L1 Q1 => ((sgI loM hiM f1 ∧ sgK WkX12_sitsAs_2_f0_f2 f f1 ∧ L1 = L ∧ Q1 = Q) ∧ True ∧ (3 ≤ (f1 0 48).toInt ∧ (f1 0 48).toInt ≤ 3) ∧ (r, f1) = sX12_sitsAs_2_f0_f2 x1 f L))) 0 0 (sgA 26 h sz) := by
  sorry
abbrev WkX12_begins_41_f0 : List (Nat × Nat × Option Nat) := [(0, 0, some 48), (21, 21, some 0)]
set_option maxHeartbeats 4000000 in
set_option maxRecDepth 100000 in
theorem kX12_begins_41_f0 (l : Launch) (D : va_G) (ca : Nat → ClassId) (za h : Nat → Nat) (hh : sgH 26 h) (f : sg_F) (L : sg_L) (Q : sg_Q) (hI : sgI loM hiM f) (hf_0_48 : f 0 48 = 0) (p0 : 0 ≤ (f 0 48).toInt ∧ (f 0 48).toInt ≤ 0) (sz : Nat) : Met l yX12_begins gwX12_begins { frames := 0, cells := 0, slots := 0, locals := 0 } (sgP D vwCl (tyX ca) 26 h (eM ca h) zcM za f L Q sz [.ref (h 0), .int 41]) (sgQv D vwCl 26 h (eM ca h) sz (fun f1 L1 Q1 => ((sgI loM hiM f1 ∧ sgK WkX12_begins_41_f0 f f1 ∧ L1 = L ∧ Q1 = Q) ∧ (1 ≤ (f1 0 48).toInt ∧ (f1 0 48).toInt ≤ 1) ∧ (f1) = sX12_begins_41_f0 f L))) 0 0 (sgA 26 h sz) := by
  sorry
abbrev WkX12_begins_30_f1 : List (Nat × Nat × Option Nat) := [(0, 0, some 48), (21, 21, some 1)]
set_option maxHeartbeats 4000000 in
set_option maxRecDepth 100000 in
theorem kX12_begins_30_f1 (l : Launch) (D : va_G) (ca : Nat → ClassId) (za h : Nat → Nat) (hh : sgH 26 h) (f : sg_F) (L : sg_L) (Q : sg_Q) (hI : sgI loM hiM f) (hf_0_48 : f 0 48 = 1) (p0 : 1 ≤ (f 0 48).toInt ∧ (f 0 48).toInt ≤ 1) (sz : Nat) : Met l yX12_begins gwX12_begins { frames := 0, cells := 0, slots := 0, locals := 0 } (sgP D vwCl (tyX ca) 26 h (eM ca h) zcM za f L Q sz [.ref (h 0), .int 30]) (sgQv D vwCl 26 h (eM ca h) sz (fun f1 L1 Q1 => ((sgI loM hiM f1 ∧ sgK WkX12_begins_30_f1 f f1 ∧ L1 = L ∧ Q1 = Q) ∧ (2 ≤ (f1 0 48).toInt ∧ (f1 0 48).toInt ≤ 2) ∧ (f1) = sX12_begins_30_f1 f L))) 0 0 (sgA 26 h sz) := by
  sorry
abbrev WkX12_begins_10_f2 : List (Nat × Nat × Option Nat) := [(0, 0, some 48), (21, 21, some 2)]
set_option maxHeartbeats 4000000 in
set_option maxRecDepth 100000 in
theorem kX12_begins_10_f2 (l : Launch) (D : va_G) (ca : Nat → ClassId) (za h : Nat → Nat) (hh : sgH 26 h) (f : sg_F) (L : sg_L) (Q : sg_Q) (hI : sgI loM hiM f) (hf_0_48 : f 0 48 = 2) (p0 : 2 ≤ (f 0 48).toInt ∧ (f 0 48).toInt ≤ 2) (sz : Nat) : Met l yX12_begins gwX12_begins { frames := 0, cells := 0, slots := 0, locals := 0 } (sgP D vwCl (tyX ca) 26 h (eM ca h) zcM za f L Q sz [.ref (h 0), .int 10]) (sgQv D vwCl 26 h (eM ca h) sz (fun f1 L1 Q1 => ((sgI loM hiM f1 ∧ sgK WkX12_begins_10_f2 f f1 ∧ L1 = L ∧ Q1 = Q) ∧ (3 ≤ (f1 0 48).toInt ∧ (f1 0 48).toInt ≤ 3) ∧ (f1) = sX12_begins_10_f2 f L))) 0 0 (sgA 26 h sz) := by
  sorry
abbrev WkX12_begins_1_f3 : List (Nat × Nat × Option Nat) := [(0, 0, some 48), (21, 21, some 3)]
set_option maxHeartbeats 4000000 in
set_option maxRecDepth 100000 in
theorem kX12_begins_1_f3 (l : Launch) (D : va_G) (ca : Nat → ClassId) (za h : Nat → Nat) (hh : sgH 26 h) (f : sg_F) (L : sg_L) (Q : sg_Q) (hI : sgI loM hiM f) (hf_0_48 : f 0 48 = 3) (p0 : 3 ≤ (f 0 48).toInt ∧ (f 0 48).toInt ≤ 3) (sz : Nat) : Met l yX12_begins gwX12_begins { frames := 0, cells := 0, slots := 0, locals := 0 } (sgP D vwCl (tyX ca) 26 h (eM ca h) zcM za f L Q sz [.ref (h 0), .int 1]) (sgQv D vwCl 26 h (eM ca h) sz (fun f1 L1 Q1 => ((sgI loM hiM f1 ∧ sgK WkX12_begins_1_f3 f f1 ∧ L1 = L ∧ Q1 = Q) ∧ (4 ≤ (f1 0 48).toInt ∧ (f1 0 48).toInt ≤ 4) ∧ (f1) = sX12_begins_1_f3 f L))) 0 0 (sgA 26 h sz) := by
  sorry
abbrev WkX12_setsAs_3_f3_f3 : List (Nat × Nat × Option Nat) := [(0, 0, some 48), (21, 21, some 3)]
set_option maxHeartbeats 4000000 in
set_option maxRecDepth 100000 in
theorem kX12_setsAs_3_f3_f3 (l : Launch) (D : va_G) (ca : Nat → ClassId) (za h : Nat → Nat) (hh : sgH 26 h) (f : sg_F) (L : sg_L) (Q : sg_Q) (hI : sgI loM hiM f) (x1 : Int32) (hf_0_48 : f 0 48 = 3) (hf_0_49 : f 0 49 = 3) (p0 : 3 ≤ (f 0 48).toInt ∧ (f 0 48).toInt ≤ 3) (sz : Nat) : Met l yX12_setsAs gwX12_setsAs { frames := 1, cells := 0, slots := 0, locals := 21 } (sgP D vwCl (tyX ca) 26 h (eM ca h) zcM za f L Q sz [.ref (h 0), .int 3, .int x1]) (sgQi D vwCl 26 h (eM ca h) sz (fun r f1 L1 Q1 => ((sgI loM hiM f1 ∧ sgK WkX12_setsAs_3_f3_f3 f f1 ∧ L1 = L ∧ Q1 = Q) ∧ True ∧ (4 ≤ (f1 0 48).toInt ∧ (f1 0 48).toInt ≤ 4) ∧ (r, f1) = sX12_setsAs_3_f3_f3 x1 f L))) 0 0 (sgA 26 h sz) := by
  sorry
abbrev WkX12_sitsAs_0_f2_f3 : List (Nat × Nat × Option Nat) := [(0, 0, some 48), (21, 21, some 2), (21, 21, some 3)]
set_option maxHeartbeats 4000000 in
set_option maxRecDepth 100000 in
theorem kX12_sitsAs_0_f2_f3 (l : Launch) (D : va_G) (ca : Nat → ClassId) (za h : Nat → Nat) (hh : sgH 26 h) (f : sg_F) (L : sg_L) (Q : sg_Q) (hI : sgI loM hiM f) (x1 : Int32) (hf_0_48 : f 0 48 = 2) (hf_0_49 : f 0 49 = 3) (p0 : 2 ≤ (f 0 48).toInt ∧ (f 0 48).toInt ≤ 2) (sz : Nat) : Met l yX12_sitsAs gwX12_sitsAs { frames := 2, cells := 0, slots := 0, locals := 43 } (sgP D vwCl (tyX ca) 26 h (eM ca h) zcM za f L Q sz [.ref (h 0), .int 0, .int x1]) (sgQi D vwCl 26 h (eM ca h) sz (fun r f1 L1 Q1 => ((sgI loM hiM f1 ∧ sgK WkX12_sitsAs_0_f2_f3 f f1 ∧ L1 = L ∧ Q1 = Q) ∧ True ∧ (4 ≤ (f1 0 48).toInt ∧ (f1 0 48).toInt ≤ 4) ∧ (r, f1) = sX12_sitsAs_0_f2_f3 x1 f L))) 0 0 (sgA 26 h sz) := by
  sorry
abbrev WkX12_sitsAs_2_f1_f3 : List (Nat × Nat × Option Nat) := [(0, 0, some 48), (21, 21, some 1), (21, 21, some 2), (21, 21, some 3)]
set_option maxHeartbeats 4000000 in
set_option maxRecDepth 100000 in
theorem kX12_sitsAs_2_f1_f3 (l : Launch) (D : va_G) (ca : Nat → ClassId) (za h : Nat → Nat) (hh : sgH 26 h) (f : sg_F) (L : sg_L) (Q : sg_Q) (hI : sgI loM hiM f) (x1 : Int32) (hf_0_48 : f 0 48 = 1) (hf_0_49 : f 0 49 = 3) (p0 : 1 ≤ (f 0 48).toInt ∧ (f 0 48).toInt ≤ 1) (sz : Nat) : Met l yX12_sitsAs gwX12_sitsAs { frames := 3, cells := 0, slots := 0, locals := 66 } (sgP D vwCl (tyX ca) 26 h (eM ca h) zcM za f L Q sz [.ref (h 0), .int 2, .int x1]) (sgQi D vwCl 26 h (eM ca h) sz (fun r f1 L1 Q1 => ((sgI loM hiM f1 ∧ sgK WkX12_sitsAs_2_f1_f3 f f1 ∧ L1 = L ∧ Q1 = Q) ∧ True ∧ (4 ≤ (f1 0 48).toInt ∧ (f1 0 48).toInt ≤ 4) ∧ (r, f1) = sX12_sitsAs_2_f1_f3 x1 f L))) 0 0 (sgA 26 h sz) := by
  sorry
abbrev WkX12_sitsAs_3_f0_f3 : List (Nat × Nat × Option Nat) := [(0, 0, some 48), (21, 21, some 0), (21, 21, some 1), (21, 21, some 2), (21, 21, some 3)]
set_option maxHeartbeats 4000000 in
set_option maxRecDepth 100000 in
theorem kX12_sitsAs_3_f0_f3 (l : Launch) (D : va_G) (ca : Nat → ClassId) (za h : Nat → Nat) (hh : sgH 26 h) (f : sg_F) (L : sg_L) (Q : sg_Q) (hI : sgI loM hiM f) (x1 : Int32) (hf_0_48 : f 0 48 = 0) (hf_0_49 : f 0 49 = 3) (p0 : 0 ≤ (f 0 48).toInt ∧ (f 0 48).toInt ≤ 0) (sz : Nat) : Met l yX12_sitsAs gwX12_sitsAs { frames := 4, cells := 0, slots := 0, locals := 89 } (sgP D vwCl (tyX ca) 26 h (eM ca h) zcM za f L Q sz [.ref (h 0), .int 3, .int x1]) (sgQi D vwCl 26 h (eM ca h) sz (fun r f1 L1 Q1 => ((sgI loM hiM f1 ∧ sgK WkX12_sitsAs_3_f0_f3 f f1 ∧ L1 = L ∧ Q1 = Q) ∧ True ∧ (4 ≤ (f1 0 48).toInt ∧ (f1 0 48).toInt ≤ 4) ∧ (r, f1) = sX12_sitsAs_3_f0_f3 x1 f L))) 0 0 (sgA 26 h sz) := by
  sorry
abbrev WkX12_setsAs_0_f2_f4 : List (Nat × Nat × Option Nat) := [(0, 0, some 48), (21, 21, some 2)]
set_option maxHeartbeats 4000000 in
set_option maxRecDepth 100000 in
theorem kX12_setsAs_0_f2_f4 (l : Launch) (D : va_G) (ca : Nat → ClassId) (za h : Nat → Nat) (hh : sgH 26 h) (f : sg_F) (L : sg_L) (Q : sg_Q) (hI : sgI loM hiM f) (x1 : Int32) (hf_0_48 : f 0 48 = 2) (hf_0_49 : f 0 49 = 4) (p0 : 2 ≤ (f 0 48).toInt ∧ (f 0 48).toInt ≤ 2) (sz : Nat) : Met l yX12_setsAs gwX12_setsAs { frames := 1, cells := 0, slots := 0, locals := 21 } (sgP D vwCl (tyX ca) 26 h (eM ca h) zcM za f L Q sz [.ref (h 0), .int 0, .int x1]) (sgQi D vwCl 26 h (eM ca h) sz (fun r f1 L1 Q1 => ((sgI loM hiM f1 ∧ sgK WkX12_setsAs_0_f2_f4 f f1 ∧ L1 = L ∧ Q1 = Q) ∧ True ∧ (3 ≤ (f1 0 48).toInt ∧ (f1 0 48).toInt ≤ 3) ∧ (r, f1) = sX12_setsAs_0_f2_f4 x1 f L))) 0 0 (sgA 26 h sz) := by
  sorry
abbrev WkX12_setsAs_4_f1_f4 : List (Nat × Nat × Option Nat) := [(0, 0, some 48), (21, 21, some 1), (21, 21, some 2)]
set_option maxHeartbeats 4000000 in
set_option maxRecDepth 100000 in
theorem kX12_setsAs_4_f1_f4 (l : Launch) (D : va_G) (ca : Nat → ClassId) (za h : Nat → Nat) (hh : sgH 26 h) (f : sg_F) (L : sg_L) (Q : sg_Q) (hI : sgI loM hiM f) (x1 : Int32) (hf_0_48 : f 0 48 = 1) (hf_0_49 : f 0 49 = 4) (p0 : 1 ≤ (f 0 48).toInt ∧ (f 0 48).toInt ≤ 1) (sz : Nat) : Met l yX12_setsAs gwX12_setsAs { frames := 2, cells := 0, slots := 0, locals := 43 } (sgP D vwCl (tyX ca) 26 h (eM ca h) zcM za f L Q sz [.ref (h 0), .int 4, .int x1]) (sgQi D vwCl 26 h (eM ca h) sz (fun r f1 L1 Q1 => ((sgI loM hiM f1 ∧ sgK WkX12_setsAs_4_f1_f4 f f1 ∧ L1 = L ∧ Q1 = Q) ∧ True ∧ (3 ≤ (f1 0 48).toInt ∧ (f1 0 48).toInt ≤ 3) ∧ (r, f1) = sX12_setsAs_4_f1_f4 x1 f L))) 0 0 (sgA 26 h sz) := by
  sorry
abbrev WkX12_sitsAs_4_f0_f4 : List (Nat × Nat × Option Nat) := [(0, 0, some 48), (21, 21, some 0), (21, 21, some 1), (21, 21, some 2)]
set_option maxHeartbeats 4000000 in
set_option maxRecDepth 100000 in
theorem kX12_sitsAs_4_f0_f4 (l : Launch) (D : va_G) (ca : Nat → ClassId) (za h : Nat → Nat) (hh : sgH 26 h) (f : sg_F) (L : sg_L) (Q : sg_Q) (hI : sgI loM hiM f) (x1 : Int32) (hf_0_48 : f 0 48 = 0) (hf_0_49 : f 0 49 = 4) (p0 : 0 ≤ (f 0 48).toInt ∧ (f 0 48).toInt ≤ 0) (sz : Nat) : Met l yX12_sitsAs gwX12_sitsAs { frames := 3, cells := 0, slots := 0, locals := 65 } (sgP D vwCl (tyX ca) 26 h (eM ca h) zcM za f L Q sz [.ref (h 0), .int 4, .int x1]) (sgQi D vwCl 26 h (eM ca h) sz (fun r f1 L1 Q1 => ((sgI loM hiM f1 ∧ sgK WkX12_sitsAs_4_f0_f4 f f1 ∧ L1 = L ∧ Q1 = Q) ∧ True ∧ (3 ≤ (f1 0 48).toInt ∧ (f1 0 48).toInt ≤ 3) ∧ (r, f1) = sX12_sitsAs_4_f0_f4 x1 f L))) 0 0 (sgA 26 h sz) := by
  sorry
abbrev WkX12_setsAs_5_f3_f5 : List (Nat × Nat × Option Nat) := [(0, 0, some 48), (21, 21, some 3)]
set_option maxHeartbeats 4000000 in
set_option maxRecDepth 100000 in
theorem kX12_setsAs_5_f3_f5 (l : Launch) (D : va_G) (ca : Nat → ClassId) (za h : Nat → Nat) (hh : sgH 26 h) (f : sg_F) (L : sg_L) (Q : sg_Q) (hI : sgI loM hiM f) (x1 : Int32) (hf_0_48 : f 0 48 = 3) (hf_0_49 : f 0 49 = 5) (p0 : 3 ≤ (f 0 48).toInt ∧ (f 0 48).toInt ≤ 3) (sz : Nat) : Met l yX12_setsAs gwX12_setsAs { frames := 1, cells := 0, slots := 0, locals := 21 } (sgP D vwCl (tyX ca) 26 h (eM ca h) zcM za f L Q sz [.ref (h 0), .int 5, .int x1]) (sgQi D vwCl 26 h (eM ca h) sz (fun r f1 L1 Q1 => ((sgI loM hiM f1 ∧ sgK WkX12_setsAs_5_f3_f5 f f1 ∧ L1 = L ∧ Q1 = Q) ∧ True ∧ (4 ≤ (f1 0 48).toInt ∧ (f1 0 48).toInt ≤ 4) ∧ (r, f1) = sX12_setsAs_5_f3_f5 x1 f L))) 0 0 (sgA 26 h sz) := by
  sorry
abbrev WkX12_sitsAs_0_f2_f5 : List (Nat × Nat × Option Nat) := [(0, 0, some 48), (21, 21, some 2), (21, 21, some 3)]
set_option maxHeartbeats 4000000 in
set_option maxRecDepth 100000 in
theorem kX12_sitsAs_0_f2_f5 (l : Launch) (D : va_G) (ca : Nat → ClassId) (za h : Nat → Nat) (hh : sgH 26 h) (f : sg_F) (L : sg_L) (Q : sg_Q) (hI : sgI loM hiM f) (x1 : Int32) (hf_0_48 : f 0 48 = 2) (hf_0_49 : f 0 49 = 5) (p0 : 2 ≤ (f 0 48).toInt ∧ (f 0 48).toInt ≤ 2) (sz : Nat) : Met l yX12_sitsAs gwX12_sitsAs { frames := 2, cells := 0, slots := 0, locals := 43 } (sgP D vwCl (tyX ca) 26 h (eM ca h) zcM za f L Q sz [.ref (h 0), .int 0, .int x1]) (sgQi D vwCl 26 h (eM ca h) sz (fun r f1 L1 Q1 => ((sgI loM hiM f1 ∧ sgK WkX12_sitsAs_0_f2_f5 f f1 ∧ L1 = L ∧ Q1 = Q) ∧ True ∧ (4 ≤ (f1 0 48).toInt ∧ (f1 0 48).toInt ≤ 4) ∧ (r, f1) = sX12_sitsAs_0_f2_f5 x1 f L))) 0 0 (sgA 26 h sz) := by
  sorry
abbrev WkX12_sitsAs_2_f1_f5 : List (Nat × Nat × Option Nat) := [(0, 0, some 48), (21, 21, some 1), (21, 21, some 2), (21, 21, some 3)]
set_option maxHeartbeats 4000000 in
set_option maxRecDepth 100000 in
theorem kX12_sitsAs_2_f1_f5 (l : Launch) (D : va_G) (ca : Nat → ClassId) (za h : Nat → Nat) (hh : sgH 26 h) (f : sg_F) (L : sg_L) (Q : sg_Q) (hI : sgI loM hiM f) (x1 : Int32) (hf_0_48 : f 0 48 = 1) (hf_0_49 : f 0 49 = 5) (p0 : 1 ≤ (f 0 48).toInt ∧ (f 0 48).toInt ≤ 1) (sz : Nat) : Met l yX12_sitsAs gwX12_sitsAs { frames := 3, cells := 0, slots := 0, locals := 66 } (sgP D vwCl (tyX ca) 26 h (eM ca h) zcM za f L Q sz [.ref (h 0), .int 2, .int x1]) (sgQi D vwCl 26 h (eM ca h) sz (fun r f1 L1 Q1 => ((sgI loM hiM f1 ∧ sgK WkX12_sitsAs_2_f1_f5 f f1 ∧ L1 = L ∧ Q1 = Q) ∧ True ∧ (4 ≤ (f1 0 48).toInt ∧ (f1 0 48).toInt ≤ 4) ∧ (r, f1) = sX12_sitsAs_2_f1_f5 x1 f L))) 0 0 (sgA 26 h sz) := by
  sorry
abbrev WkX12_sitsAs_5_f0_f5 : List (Nat × Nat × Option Nat) := [(0, 0, some 48), (21, 21, some 0), (21, 21, some 1), (21, 21, some 2), (21, 21, some 3)]
set_option maxHeartbeats 4000000 in
set_option maxRecDepth 100000 in
theorem kX12_sitsAs_5_f0_f5 (l : Launch) (D : va_G) (ca : Nat → ClassId) (za h : Nat → Nat) (hh : sgH 26 h) (f : sg_F) (L : sg_L) (Q : sg_Q) (hI : sgI loM hiM f) (x1 : Int32) (hf_0_48 : f 0 48 = 0) (hf_0_49 : f 0 49 = 5) (p0 : 0 ≤ (f 0 48).toInt ∧ (f 0 48).toInt ≤ 0) (sz : Nat) : Met l yX12_sitsAs gwX12_sitsAs { frames := 4, cells := 0, slots := 0, locals := 89 } (sgP D vwCl (tyX ca) 26 h (eM ca h) zcM za f L Q sz [.ref (h 0), .int 5, .int x1]) (sgQi D vwCl 26 h (eM ca h) sz (fun r f1 L1 Q1 => ((sgI loM hiM f1 ∧ sgK WkX12_sitsAs_5_f0_f5 f f1 ∧ L1 = L ∧ Q1 = Q) ∧ True ∧ (4 ≤ (f1 0 48).toInt ∧ (f1 0 48).toInt ≤ 4) ∧ (r, f1) = sX12_sitsAs_5_f0_f5 x1 f L))) 0 0 (sgA 26 h sz) := by
  sorry
abbrev WkX12_begins_70_f1 : List (Nat × Nat × Option Nat) := [(0, 0, some 48), (21, 21, some 1)]
set_option maxHeartbeats 4000000 in
set_option maxRecDepth 100000 in
theorem kX12_begins_70_f1 (l : Launch) (D : va_G) (ca : Nat → ClassId) (za h : Nat → Nat) (hh : sgH 26 h) (f : sg_F) (L : sg_L) (Q : sg_Q) (hI : sgI loM hiM f) (hf_0_48 : f 0 48 = 1) (p0 : 1 ≤ (f 0 48).toInt ∧ (f 0 48).toInt ≤ 1) (sz : Nat) : Met l yX12_begins gwX12_begins { frames := 0, cells := 0, slots := 0, locals := 0 } (sgP D vwCl (tyX ca) 26 h (eM ca h) zcM za f L Q sz [.ref (h 0), .int 70]) (sgQv D vwCl 26 h (eM ca h) sz (fun f1 L1 Q1 => ((sgI loM hiM f1 ∧ sgK WkX12_begins_70_f1 f f1 ∧ L1 = L ∧ Q1 = Q) ∧ (2 ≤ (f1 0 48).toInt ∧ (f1 0 48).toInt ≤ 2) ∧ (f1) = sX12_begins_70_f1 f L))) 0 0 (sgA 26 h sz) := by
  sorry
abbrev WkX12_setsAs_0_f2_f6 : List (Nat × Nat × Option Nat) := [(0, 0, some 48), (21, 21, some 2)]
set_option maxHeartbeats 4000000 in
set_option maxRecDepth 100000 in
theorem kX12_setsAs_0_f2_f6 (l : Launch) (D : va_G) (ca : Nat → ClassId) (za h : Nat → Nat) (hh : sgH 26 h) (f : sg_F) (L : sg_L) (Q : sg_Q) (hI : sgI loM hiM f) (x1 : Int32) (hf_0_48 : f 0 48 = 2) (hf_0_49 : f 0 49 = 6) (p0 : 2 ≤ (f 0 48).toInt ∧ (f 0 48).toInt ≤ 2) (sz : Nat) : Met l yX12_setsAs gwX12_setsAs { frames := 1, cells := 0, slots := 0, locals := 21 } (sgP D vwCl (tyX ca) 26 h (eM ca h) zcM za f L Q sz [.ref (h 0), .int 0, .int x1]) (sgQi D vwCl 26 h (eM ca h) sz (fun r f1 L1 Q1 => ((sgI loM hiM f1 ∧ sgK WkX12_setsAs_0_f2_f6 f f1 ∧ L1 = L ∧ Q1 = Q) ∧ True ∧ (3 ≤ (f1 0 48).toInt ∧ (f1 0 48).toInt ≤ 3) ∧ (r, f1) = sX12_setsAs_0_f2_f6 x1 f L))) 0 0 (sgA 26 h sz) := by
  sorry
abbrev WkX12_setsAs_6_f1_f6 : List (Nat × Nat × Option Nat) := [(0, 0, some 48), (21, 21, some 1), (21, 21, some 2)]
set_option maxHeartbeats 4000000 in
set_option maxRecDepth 100000 in
theorem kX12_setsAs_6_f1_f6 (l : Launch) (D : va_G) (ca : Nat → ClassId) (za h : Nat → Nat) (hh : sgH 26 h) (f : sg_F) (L : sg_L) (Q : sg_Q) (hI : sgI loM hiM f) (x1 : Int32) (hf_0_48 : f 0 48 = 1) (hf_0_49 : f 0 49 = 6) (p0 : 1 ≤ (f 0 48).toInt ∧ (f 0 48).toInt ≤ 1) (sz : Nat) : Met l yX12_setsAs gwX12_setsAs { frames := 2, cells := 0, slots := 0, locals := 43 } (sgP D vwCl (tyX ca) 26 h (eM ca h) zcM za f L Q sz [.ref (h 0), .int 6, .int x1]) (sgQi D vwCl 26 h (eM ca h) sz (fun r f1 L1 Q1 => ((sgI loM hiM f1 ∧ sgK WkX12_setsAs_6_f1_f6 f f1 ∧ L1 = L ∧ Q1 = Q) ∧ True ∧ (3 ≤ (f1 0 48).toInt ∧ (f1 0 48).toInt ≤ 3) ∧ (r, f1) = sX12_setsAs_6_f1_f6 x1 f L))) 0 0 (sgA 26 h sz) := by
  sorry
abbrev WkX12_sitsAs_6_f0_f6 : List (Nat × Nat × Option Nat) := [(0, 0, some 48), (21, 21, some 0), (21, 21, some 1), (21, 21, some 2)]
set_option maxHeartbeats 4000000 in
set_option maxRecDepth 100000 in
theorem kX12_sitsAs_6_f0_f6 (l : Launch) (D : va_G) (ca : Nat → ClassId) (za h : Nat → Nat) (hh : sgH 26 h) (f : sg_F) (L : sg_L) (Q : sg_Q) (hI : sgI loM hiM f) (x1 : Int32) (hf_0_48 : f 0 48 = 0) (hf_0_49 : f 0 49 = 6) (p0 : 0 ≤ (f 0 48).toInt ∧ (f 0 48).toInt ≤ 0) (sz : Nat) : Met l yX12_sitsAs gwX12_sitsAs { frames := 3, cells := 0, slots := 0, locals := 65 } (sgP D vwCl (tyX ca) 26 h (eM ca h) zcM za f L Q sz [.ref (h 0), .int 6, .int x1]) (sgQi D vwCl 26 h (eM ca h) sz (fun r f1 L1 Q1 => ((sgI loM hiM f1 ∧ sgK WkX12_sitsAs_6_f0_f6 f f1 ∧ L1 = L ∧ Q1 = Q) ∧ True ∧ (3 ≤ (f1 0 48).toInt ∧ (f1 0 48).toInt ≤ 3) ∧ (r, f1) = sX12_sitsAs_6_f0_f6 x1 f L))) 0 0 (sgA 26 h sz) := by
  sorry
abbrev WkX12_begins_80_f0 : List (Nat × Nat × Option Nat) := [(0, 0, some 48), (21, 21, some 0)]
set_option maxHeartbeats 4000000 in
set_option maxRecDepth 100000 in
theorem kX12_begins_80_f0 (l : Launch) (D : va_G) (ca : Nat → ClassId) (za h : Nat → Nat) (hh : sgH 26 h) (f : sg_F) (L : sg_L) (Q : sg_Q) (hI : sgI loM hiM f) (hf_0_48 : f 0 48 = 0) (p0 : 0 ≤ (f 0 48).toInt ∧ (f 0 48).toInt ≤ 0) (sz : Nat) : Met l yX12_begins gwX12_begins { frames := 0, cells := 0, slots := 0, locals := 0 } (sgP D vwCl (tyX ca) 26 h (eM ca h) zcM za f L Q sz [.ref (h 0), .int 80]) (sgQv D vwCl 26 h (eM ca h) sz (fun f1 L1 Q1 => ((sgI loM hiM f1 ∧ sgK WkX12_begins_80_f0 f f1 ∧ L1 = L ∧ Q1 = Q) ∧ (1 ≤ (f1 0 48).toInt ∧ (f1 0 48).toInt ≤ 1) ∧ (f1) = sX12_begins_80_f0 f L))) 0 0 (sgA 26 h sz) := by
  sorry
abbrev WkX12_begins_20_f2 : List (Nat × Nat × Option Nat) := [(0, 0, some 48), (21, 21, some 2)]
set_option maxHeartbeats 4000000 in
set_option maxRecDepth 100000 in
theorem kX12_begins_20_f2 (l : Launch) (D : va_G) (ca : Nat → ClassId) (za h : Nat → Nat) (hh : sgH 26 h) (f : sg_F) (L : sg_L) (Q : sg_Q) (hI : sgI loM hiM f) (hf_0_48 : f 0 48 = 2) (p0 : 2 ≤ (f 0 48).toInt ∧ (f 0 48).toInt ≤ 2) (sz : Nat) : Met l yX12_begins gwX12_begins { frames := 0, cells := 0, slots := 0, locals := 0 } (sgP D vwCl (tyX ca) 26 h (eM ca h) zcM za f L Q sz [.ref (h 0), .int 20]) (sgQv D vwCl 26 h (eM ca h) sz (fun f1 L1 Q1 => ((sgI loM hiM f1 ∧ sgK WkX12_begins_20_f2 f f1 ∧ L1 = L ∧ Q1 = Q) ∧ (3 ≤ (f1 0 48).toInt ∧ (f1 0 48).toInt ≤ 3) ∧ (f1) = sX12_begins_20_f2 f L))) 0 0 (sgA 26 h sz) := by
  sorry
abbrev WkX12_setsAs_0_f3_f7 : List (Nat × Nat × Option Nat) := [(0, 0, some 48), (21, 21, some 3)]
set_option maxHeartbeats 4000000 in
set_option maxRecDepth 100000 in
theorem kX12_setsAs_0_f3_f7 (l : Launch) (D : va_G) (ca : Nat → ClassId) (za h : Nat → Nat) (hh : sgH 26 h) (f : sg_F) (L : sg_L) (Q : sg_Q) (hI : sgI loM hiM f) (x1 : Int32) (hf_0_48 : f 0 48 = 3) (hf_0_49 : f 0 49 = 7) (p0 : 3 ≤ (f 0 48).toInt ∧ (f 0 48).toInt ≤ 3) (sz : Nat) : Met l yX12_setsAs gwX12_setsAs { frames := 1, cells := 0, slots := 0, locals := 21 } (sgP D vwCl (tyX ca) 26 h (eM ca h) zcM za f L Q sz [.ref (h 0), .int 0, .int x1]) (sgQi D vwCl 26 h (eM ca h) sz (fun r f1 L1 Q1 => ((sgI loM hiM f1 ∧ sgK WkX12_setsAs_0_f3_f7 f f1 ∧ L1 = L ∧ Q1 = Q) ∧ True ∧ (4 ≤ (f1 0 48).toInt ∧ (f1 0 48).toInt ≤ 4) ∧ (r, f1) = sX12_setsAs_0_f3_f7 x1 f L))) 0 0 (sgA 26 h sz) := by
  sorry
abbrev WkX12_setsAs_7_f2_f7 : List (Nat × Nat × Option Nat) := [(0, 0, some 48), (21, 21, some 2), (21, 21, some 3)]
set_option maxHeartbeats 4000000 in
set_option maxRecDepth 100000 in
theorem kX12_setsAs_7_f2_f7 (l : Launch) (D : va_G) (ca : Nat → ClassId) (za h : Nat → Nat) (hh : sgH 26 h) (f : sg_F) (L : sg_L) (Q : sg_Q) (hI : sgI loM hiM f) (x1 : Int32) (hf_0_48 : f 0 48 = 2) (hf_0_49 : f 0 49 = 7) (p0 : 2 ≤ (f 0 48).toInt ∧ (f 0 48).toInt ≤ 2) (sz : Nat) : Met l yX12_setsAs gwX12_setsAs { frames := 2, cells := 0, slots := 0, locals := 43 } (sgP D vwCl (tyX ca) 26 h (eM ca h) zcM za f L Q sz [.ref (h 0), .int 7, .int x1]) (sgQi D vwCl 26 h (eM ca h) sz (fun r f1 L1 Q1 => ((sgI loM hiM f1 ∧ sgK WkX12_setsAs_7_f2_f7 f f1 ∧ L1 = L ∧ Q1 = Q) ∧ True ∧ (4 ≤ (f1 0 48).toInt ∧ (f1 0 48).toInt ≤ 4) ∧ (r, f1) = sX12_setsAs_7_f2_f7 x1 f L))) 0 0 (sgA 26 h sz) := by
  sorry
abbrev WkX12_sitsAs_4_f1_f7 : List (Nat × Nat × Option Nat) := [(0, 0, some 48), (21, 21, some 1), (21, 21, some 2), (21, 21, some 3)]
set_option maxHeartbeats 4000000 in
set_option maxRecDepth 100000 in
theorem kX12_sitsAs_4_f1_f7 (l : Launch) (D : va_G) (ca : Nat → ClassId) (za h : Nat → Nat) (hh : sgH 26 h) (f : sg_F) (L : sg_L) (Q : sg_Q) (hI : sgI loM hiM f) (x1 : Int32) (hf_0_48 : f 0 48 = 1) (hf_0_49 : f 0 49 = 7) (p0 : 1 ≤ (f 0 48).toInt ∧ (f 0 48).toInt ≤ 1) (sz : Nat) : Met l yX12_sitsAs gwX12_sitsAs { frames := 3, cells := 0, slots := 0, locals := 65 } (sgP D vwCl (tyX ca) 26 h (eM ca h) zcM za f L Q sz [.ref (h 0), .int 4, .int x1]) (sgQi D vwCl 26 h (eM ca h) sz (fun r f1 L1 Q1 => ((sgI loM hiM f1 ∧ sgK WkX12_sitsAs_4_f1_f7 f f1 ∧ L1 = L ∧ Q1 = Q) ∧ True ∧ (4 ≤ (f1 0 48).toInt ∧ (f1 0 48).toInt ≤ 4) ∧ (r, f1) = sX12_sitsAs_4_f1_f7 x1 f L))) 0 0 (sgA 26 h sz) := by
  sorry
abbrev WkX12_begins_50_f4 : List (Nat × Nat × Option Nat) := [(0, 0, some 48), (21, 21, some 4)]
set_option maxHeartbeats 4000000 in
set_option maxRecDepth 100000 in
theorem kX12_begins_50_f4 (l : Launch) (D : va_G) (ca : Nat → ClassId) (za h : Nat → Nat) (hh : sgH 26 h) (f : sg_F) (L : sg_L) (Q : sg_Q) (hI : sgI loM hiM f) (hf_0_48 : f 0 48 = 4) (p0 : 4 ≤ (f 0 48).toInt ∧ (f 0 48).toInt ≤ 4) (sz : Nat) : Met l yX12_begins gwX12_begins { frames := 0, cells := 0, slots := 0, locals := 0 } (sgP D vwCl (tyX ca) 26 h (eM ca h) zcM za f L Q sz [.ref (h 0), .int 50]) (sgQv D vwCl 26 h (eM ca h) sz (fun f1 L1 Q1 => ((sgI loM hiM f1 ∧ sgK WkX12_begins_50_f4 f f1 ∧ L1 = L ∧ Q1 = Q) ∧ (5 ≤ (f1 0 48).toInt ∧ (f1 0 48).toInt ≤ 5) ∧ (f1) = sX12_begins_50_f4 f L))) 0 0 (sgA 26 h sz) := by
  sorry
abbrev WkX12_begins_11_f5 : List (Nat × Nat × Option Nat) := [(0, 0, some 48), (21, 21, some 5)]
set_option maxHeartbeats 4000000 in
set_option maxRecDepth 100000 in
theorem kX12_begins_11_f5 (l : Launch) (D : va_G) (ca : Nat → ClassId) (za h : Nat → Nat) (hh : sgH 26 h) (f : sg_F) (L : sg_L) (Q : sg_Q) (hI : sgI loM hiM f) (hf_0_48 : f 0 48 = 5) (p0 : 5 ≤ (f 0 48).toInt ∧ (f 0 48).toInt ≤ 5) (sz : Nat) : Met l yX12_begins gwX12_begins { frames := 0, cells := 0, slots := 0, locals := 0 } (sgP D vwCl (tyX ca) 26 h (eM ca h) zcM za f L Q sz [.ref (h 0), .int 11]) (sgQv D vwCl 26 h (eM ca h) sz (fun f1 L1 Q1 => ((sgI loM hiM f1 ∧ sgK WkX12_begins_11_f5 f f1 ∧ L1 = L ∧ Q1 = Q) ∧ (6 ≤ (f1 0 48).toInt ∧ (f1 0 48).toInt ≤ 6) ∧ (f1) = sX12_begins_11_f5 f L))) 0 0 (sgA 26 h sz) := by
  sorry
abbrev WkX12_slipsAs_1_f5_f7 : List (Nat × Nat × Option Nat) := [(0, 0, some 48), (21, 21, some 5)]
set_option maxHeartbeats 4000000 in
set_option maxRecDepth 100000 in
theorem kX12_slipsAs_1_f5_f7 (l : Launch) (D : va_G) (ca : Nat → ClassId) (za h : Nat → Nat) (hh : sgH 26 h) (f : sg_F) (L : sg_L) (Q : sg_Q) (hI : sgI loM hiM f) (x1 : Int32) (hf_0_48 : f 0 48 = 5) (hf_0_49 : f 0 49 = 7) (b1 : 2 ≤ x1.toInt ∧ x1.toInt ≤ 2) (p0 : 5 ≤ (f 0 48).toInt ∧ (f 0 48).toInt ≤ 5) (sz : Nat) : Met l yX12_slipsAs gwX12_slipsAs { frames := 1, cells := 0, slots := 0, locals := 21 } (sgP D vwCl (tyX ca) 26 h (eM ca h) zcM za f L Q sz [.ref (h 0), .int 1, .int x1]) (sgQi D vwCl 26 h (eM ca h) sz (fun r f1 L1 Q1 => ((sgI loM hiM f1 ∧ sgK WkX12_slipsAs_1_f5_f7 f f1 ∧ L1 = L ∧ Q1 = Q) ∧ True ∧ (6 ≤ (f1 0 48).toInt ∧ (f1 0 48).toInt ≤ 6) ∧ (r, f1) = sX12_slipsAs_1_f5_f7 x1 f L))) 0 0 (sgA 26 h sz) := by
  sorry
abbrev WkX12_begins_20_f6 : List (Nat × Nat × Option Nat) := [(0, 0, some 48), (21, 21, some 6)]
set_option maxHeartbeats 4000000 in
set_option maxRecDepth 100000 in
theorem kX12_begins_20_f6 (l : Launch) (D : va_G) (ca : Nat → ClassId) (za h : Nat → Nat) (hh : sgH 26 h) (f : sg_F) (L : sg_L) (Q : sg_Q) (hI : sgI loM hiM f) (hf_0_48 : f 0 48 = 6) (p0 : 6 ≤ (f 0 48).toInt ∧ (f 0 48).toInt ≤ 6) (sz : Nat) : Met l yX12_begins gwX12_begins { frames := 0, cells := 0, slots := 0, locals := 0 } (sgP D vwCl (tyX ca) 26 h (eM ca h) zcM za f L Q sz [.ref (h 0), .int 20]) (sgQv D vwCl 26 h (eM ca h) sz (fun f1 L1 Q1 => ((sgI loM hiM f1 ∧ sgK WkX12_begins_20_f6 f f1 ∧ L1 = L ∧ Q1 = Q) ∧ (7 ≤ (f1 0 48).toInt ∧ (f1 0 48).toInt ≤ 7) ∧ (f1) = sX12_begins_20_f6 f L))) 0 0 (sgA 26 h sz) := by
  sorry
abbrev WkX12_begins_1_f7 : List (Nat × Nat × Option Nat) := [(0, 0, some 48), (21, 21, some 7)]
set_option maxHeartbeats 4000000 in
set_option maxRecDepth 100000 in
theorem kX12_begins_1_f7 (l : Launch) (D : va_G) (ca : Nat → ClassId) (za h : Nat → Nat) (hh : sgH 26 h) (f : sg_F) (L : sg_L) (Q : sg_Q) (hI : sgI loM hiM f) (hf_0_48 : f 0 48 = 7) (p0 : 7 ≤ (f 0 48).toInt ∧ (f 0 48).toInt ≤ 7) (sz : Nat) : Met l yX12_begins gwX12_begins { frames := 0, cells := 0, slots := 0, locals := 0 } (sgP D vwCl (tyX ca) 26 h (eM ca h) zcM za f L Q sz [.ref (h 0), .int 1]) (sgQv D vwCl 26 h (eM ca h) sz (fun f1 L1 Q1 => ((sgI loM hiM f1 ∧ sgK WkX12_begins_1_f7 f f1 ∧ L1 = L ∧ Q1 = Q) ∧ (8 ≤ (f1 0 48).toInt ∧ (f1 0 48).toInt ≤ 8) ∧ (f1) = sX12_begins_1_f7 f L))) 0 0 (sgA 26 h sz) := by
  sorry
abbrev WkX12_setsAs_0_f7_f7 : List (Nat × Nat × Option Nat) := [(0, 0, some 48), (21, 21, some 7)]
set_option maxHeartbeats 4000000 in
set_option maxRecDepth 100000 in
theorem kX12_setsAs_0_f7_f7 (l : Launch) (D : va_G) (ca : Nat → ClassId) (za h : Nat → Nat) (hh : sgH 26 h) (f : sg_F) (L : sg_L) (Q : sg_Q) (hI : sgI loM hiM f) (x1 : Int32) (hf_0_48 : f 0 48 = 7) (hf_0_49 : f 0 49 = 7) (b1 : 2 ≤ x1.toInt ∧ x1.toInt ≤ 2) (p0 : 7 ≤ (f 0 48).toInt ∧ (f 0 48).toInt ≤ 7) (sz : Nat) : Met l yX12_setsAs gwX12_setsAs { frames := 1, cells := 0, slots := 0, locals := 21 } (sgP D vwCl (tyX ca) 26 h (eM ca h) zcM za f L Q sz [.ref (h 0), .int 0, .int x1]) (sgQi D vwCl 26 h (eM ca h) sz (fun r f1 L1 Q1 => ((sgI loM hiM f1 ∧ sgK WkX12_setsAs_0_f7_f7 f f1 ∧ L1 = L ∧ Q1 = Q) ∧ (2 ≤ r.toInt ∧ r.toInt ≤ 51) ∧ (8 ≤ (f1 0 48).toInt ∧ (f1 0 48).toInt ≤ 8) ∧ (r, f1) = sX12_setsAs_0_f7_f7 x1 f L))) 0 0 (sgA 26 h sz) := by
  sorry
abbrev WkX12_setsAs_7_f6_f7 : List (Nat × Nat × Option Nat) := [(0, 0, some 48), (21, 21, some 6), (21, 21, some 7)]
set_option maxHeartbeats 4000000 in
set_option maxRecDepth 100000 in
theorem kX12_setsAs_7_f6_f7 (l : Launch) (D : va_G) (ca : Nat → ClassId) (za h : Nat → Nat) (hh : sgH 26 h) (f : sg_F) (L : sg_L) (Q : sg_Q) (hI : sgI loM hiM f) (x1 : Int32) (hf_0_48 : f 0 48 = 6) (hf_0_49 : f 0 49 = 7) (b1 : 2 ≤ x1.toInt ∧ x1.toInt ≤ 2) (p0 : 6 ≤ (f 0 48).toInt ∧ (f 0 48).toInt ≤ 6) (sz : Nat) : Met l yX12_setsAs gwX12_setsAs { frames := 2, cells := 0, slots := 0, locals := 43 } (sgP D vwCl (tyX ca) 26 h (eM ca h) zcM za f L Q sz [.ref (h 0), .int 7, .int x1]) (sgQi D vwCl 26 h (eM ca h) sz (fun r f1 L1 Q1 => ((sgI loM hiM f1 ∧ sgK WkX12_setsAs_7_f6_f7 f f1 ∧ L1 = L ∧ Q1 = Q) ∧ (5 ≤ r.toInt ∧ r.toInt ≤ 54) ∧ (8 ≤ (f1 0 48).toInt ∧ (f1 0 48).toInt ≤ 8) ∧ (r, f1) = sX12_setsAs_7_f6_f7 x1 f L))) 0 0 (sgA 26 h sz) := by
  sorry
abbrev WkX12_slipsAs_7_f4_f7 : List (Nat × Nat × Option Nat) := [(0, 0, some 48), (21, 21, some 4), (21, 21, some 5), (21, 21, some 6), (21, 21, some 7)]
set_option maxHeartbeats 4000000 in
set_option maxRecDepth 100000 in
theorem kX12_slipsAs_7_f4_f7 (l : Launch) (D : va_G) (ca : Nat → ClassId) (za h : Nat → Nat) (hh : sgH 26 h) (f : sg_F) (L : sg_L) (Q : sg_Q) (hI : sgI loM hiM f) (x1 : Int32) (hf_0_48 : f 0 48 = 4) (hf_0_49 : f 0 49 = 7) (b1 : 2 ≤ x1.toInt ∧ x1.toInt ≤ 2) (p0 : 4 ≤ (f 0 48).toInt ∧ (f 0 48).toInt ≤ 4) (sz : Nat) : Met l yX12_slipsAs gwX12_slipsAs { frames := 3, cells := 0, slots := 0, locals := 65 } (sgP D vwCl (tyX ca) 26 h (eM ca h) zcM za f L Q sz [.ref (h 0), .int 7, .int x1]) (sgQi D vwCl 26 h (eM ca h) sz (fun r f1 L1 Q1 => ((sgI loM hiM f1 ∧ sgK WkX12_slipsAs_7_f4_f7 f f1 ∧ L1 = L ∧ Q1 = Q) ∧ True ∧ (8 ≤ (f1 0 48).toInt ∧ (f1 0 48).toInt ≤ 8) ∧ (r, f1) = sX12_slipsAs_7_f4_f7 x1 f L))) 0 0 (sgA 26 h sz) := by
  sorry
abbrev WkX12_sitsAs_7_f0_f7 : List (Nat × Nat × Option Nat) := [(0, 0, some 48), (21, 21, some 0), (21, 21, some 1), (21, 21, some 2), (21, 21, some 3), (21, 21, some 4), (21, 21, some 5), (21, 21, some 6), (21, 21, some 7)]
set_option maxHeartbeats 4000000 in
set_option maxRecDepth 100000 in
theorem kX12_sitsAs_7_f0_f7 (l : Launch) (D : va_G) (ca : Nat → ClassId) (za h : Nat → Nat) (hh : sgH 26 h) (f : sg_F) (L : sg_L) (Q : sg_Q) (hI : sgI loM hiM f) (x1 : Int32) (hf_0_48 : f 0 48 = 0) (hf_0_49 : f 0 49 = 7) (p0 : 0 ≤ (f 0 48).toInt ∧ (f 0 48).toInt ≤ 0) (sz : Nat) : Met l yX12_sitsAs gwX12_sitsAs { frames := 4, cells := 0, slots := 0, locals := 88 } (sgP D vwCl (tyX ca) 26 h (eM ca h) zcM za f L Q sz [.ref (h 0), .int 7, .int x1]) (sgQi D vwCl 26 h (eM ca h) sz (fun r f1 L1 Q1 => ((sgI loM hiM f1 ∧ sgK WkX12_sitsAs_7_f0_f7 f f1 ∧ L1 = L ∧ Q1 = Q) ∧ True ∧ (8 ≤ (f1 0 48).toInt ∧ (f1 0 48).toInt ≤ 8) ∧ (r, f1) = sX12_sitsAs_7_f0_f7 x1 f L))) 0 0 (sgA 26 h sz) := by
  sorry
abbrev WkX12_begins_11_f0 : List (Nat × Nat × Option Nat) := [(0, 0, some 48), (21, 21, some 0)]
set_option maxHeartbeats 4000000 in
set_option maxRecDepth 100000 in
theorem kX12_begins_11_f0 (l : Launch) (D : va_G) (ca : Nat → ClassId) (za h : Nat → Nat) (hh : sgH 26 h) (f : sg_F) (L : sg_L) (Q : sg_Q) (hI : sgI loM hiM f) (hf_0_48 : f 0 48 = 0) (p0 : 0 ≤ (f 0 48).toInt ∧ (f 0 48).toInt ≤ 0) (sz : Nat) : Met l yX12_begins gwX12_begins { frames := 0, cells := 0, slots := 0, locals := 0 } (sgP D vwCl (tyX ca) 26 h (eM ca h) zcM za f L Q sz [.ref (h 0), .int 11]) (sgQv D vwCl 26 h (eM ca h) sz (fun f1 L1 Q1 => ((sgI loM hiM f1 ∧ sgK WkX12_begins_11_f0 f f1 ∧ L1 = L ∧ Q1 = Q) ∧ (1 ≤ (f1 0 48).toInt ∧ (f1 0 48).toInt ≤ 1) ∧ (f1) = sX12_begins_11_f0 f L))) 0 0 (sgA 26 h sz) := by
  sorry
abbrev WkX12_slipsAs_0_f0_f0 : List (Nat × Nat × Option Nat) := [(0, 0, some 48), (21, 21, some 0)]
set_option maxHeartbeats 4000000 in
set_option maxRecDepth 100000 in
theorem kX12_slipsAs_0_f0_f0 (l : Launch) (D : va_G) (ca : Nat → ClassId) (za h : Nat → Nat) (hh : sgH 26 h) (f : sg_F) (L : sg_L) (Q : sg_Q) (hI : sgI loM hiM f) (x1 : Int32) (hf_0_48 : f 0 48 = 0) (hf_0_49 : f 0 49 = 0) (p0 : 0 ≤ (f 0 48).toInt ∧ (f 0 48).toInt ≤ 0) (sz : Nat) : Met l yX12_slipsAs gwX12_slipsAs { frames := 1, cells := 0, slots := 0, locals := 21 } (sgP D vwCl (tyX ca) 26 h (eM ca h) zcM za f L Q sz [.ref (h 0), .int 0, .int x1]) (sgQi D vwCl 26 h (eM ca h) sz (fun r f1 L1 Q1 => ((sgI loM hiM f1 ∧ sgK WkX12_slipsAs_0_f0_f0 f f1 ∧ L1 = L ∧ Q1 = Q) ∧ True ∧ (1 ≤ (f1 0 48).toInt ∧ (f1 0 48).toInt ≤ 1) ∧ (r, f1) = sX12_slipsAs_0_f0_f0 x1 f L))) 0 0 (sgA 26 h sz) := by
  sorry
abbrev WkX12_slipsAs_1_f0_f1 : List (Nat × Nat × Option Nat) := [(0, 0, some 48), (21, 21, some 0)]
set_option maxHeartbeats 4000000 in
set_option maxRecDepth 100000 in
theorem kX12_slipsAs_1_f0_f1 (l : Launch) (D : va_G) (ca : Nat → ClassId) (za h : Nat → Nat) (hh : sgH 26 h) (f : sg_F) (L : sg_L) (Q : sg_Q) (hI : sgI loM hiM f) (x1 : Int32) (hf_0_48 : f 0 48 = 0) (hf_0_49 : f 0 49 = 1) (p0 : 0 ≤ (f 0 48).toInt ∧ (f 0 48).toInt ≤ 0) (sz : Nat) : Met l yX12_slipsAs gwX12_slipsAs { frames := 1, cells := 0, slots := 0, locals := 21 } (sgP D vwCl (tyX ca) 26 h (eM ca h) zcM za f L Q sz [.ref (h 0), .int 1, .int x1]) (sgQi D vwCl 26 h (eM ca h) sz (fun r f1 L1 Q1 => ((sgI loM hiM f1 ∧ sgK WkX12_slipsAs_1_f0_f1 f f1 ∧ L1 = L ∧ Q1 = Q) ∧ True ∧ (1 ≤ (f1 0 48).toInt ∧ (f1 0 48).toInt ≤ 1) ∧ (r, f1) = sX12_slipsAs_1_f0_f1 x1 f L))) 0 0 (sgA 26 h sz) := by
  sorry
abbrev WkX12_slipsAs_2_f0_f2 : List (Nat × Nat × Option Nat) := [(0, 0, some 48), (21, 21, some 0)]
set_option maxHeartbeats 4000000 in
set_option maxRecDepth 100000 in
theorem kX12_slipsAs_2_f0_f2 (l : Launch) (D : va_G) (ca : Nat → ClassId) (za h : Nat → Nat) (hh : sgH 26 h) (f : sg_F) (L : sg_L) (Q : sg_Q) (hI : sgI loM hiM f) (x1 : Int32) (hf_0_48 : f 0 48 = 0) (hf_0_49 : f 0 49 = 2) (p0 : 0 ≤ (f 0 48).toInt ∧ (f 0 48).toInt ≤ 0) (sz : Nat) : Met l yX12_slipsAs gwX12_slipsAs { frames := 1, cells := 0, slots := 0, locals := 21 } (sgP D vwCl (tyX ca) 26 h (eM ca h) zcM za f L Q sz [.ref (h 0), .int 2, .int x1]) (sgQi D vwCl 26 h (eM ca h) sz (fun r f1 L1 Q1 => ((sgI loM hiM f1 ∧ sgK WkX12_slipsAs_2_f0_f2 f f1 ∧ L1 = L ∧ Q1 = Q) ∧ True ∧ (1 ≤ (f1 0 48).toInt ∧ (f1 0 48).toInt ≤ 1) ∧ (r, f1) = sX12_slipsAs_2_f0_f2 x1 f L))) 0 0 (sgA 26 h sz) := by
  sorry
abbrev WkX12_begins_40_f0 : List (Nat × Nat × Option Nat) := [(0, 0, some 48), (21, 21, some 0)]
set_option maxHeartbeats 4000000 in
set_option maxRecDepth 100000 in
theorem kX12_begins_40_f0 (l : Launch) (D : va_G) (ca : Nat → ClassId) (za h : Nat → Nat) (hh : sgH 26 h) (f : sg_F) (L : sg_L) (Q : sg_Q) (hI : sgI loM hiM f) (hf_0_48 : f 0 48 = 0) (p0 : 0 ≤ (f 0 48).toInt ∧ (f 0 48).toInt ≤ 0) (sz : Nat) : Met l yX12_begins gwX12_begins { frames := 0, cells := 0, slots := 0, locals := 0 } (sgP D vwCl (tyX ca) 26 h (eM ca h) zcM za f L Q sz [.ref (h 0), .int 40]) (sgQv D vwCl 26 h (eM ca h) sz (fun f1 L1 Q1 => ((sgI loM hiM f1 ∧ sgK WkX12_begins_40_f0 f f1 ∧ L1 = L ∧ Q1 = Q) ∧ (1 ≤ (f1 0 48).toInt ∧ (f1 0 48).toInt ≤ 1) ∧ (f1) = sX12_begins_40_f0 f L))) 0 0 (sgA 26 h sz) := by
  sorry
abbrev WkX12_begins_11_f1 : List (Nat × Nat × Option Nat) := [(0, 0, some 48), (21, 21, some 1)]
set_option maxHeartbeats 4000000 in
set_option maxRecDepth 100000 in
theorem kX12_begins_11_f1 (l : Launch) (D : va_G) (ca : Nat → ClassId) (za h : Nat → Nat) (hh : sgH 26 h) (f : sg_F) (L : sg_L) (Q : sg_Q) (hI : sgI loM hiM f) (hf_0_48 : f 0 48 = 1) (p0 : 1 ≤ (f 0 48).toInt ∧ (f 0 48).toInt ≤ 1) (sz : Nat) : Met l yX12_begins gwX12_begins { frames := 0, cells := 0, slots := 0, locals := 0 } (sgP D vwCl (tyX ca) 26 h (eM ca h) zcM za f L Q sz [.ref (h 0), .int 11]) (sgQv D vwCl 26 h (eM ca h) sz (fun f1 L1 Q1 => ((sgI loM hiM f1 ∧ sgK WkX12_begins_11_f1 f f1 ∧ L1 = L ∧ Q1 = Q) ∧ (2 ≤ (f1 0 48).toInt ∧ (f1 0 48).toInt ≤ 2) ∧ (f1) = sX12_begins_11_f1 f L))) 0 0 (sgA 26 h sz) := by
  sorry
abbrev WkX12_slipsAs_2_f1_f3 : List (Nat × Nat × Option Nat) := [(0, 0, some 48), (21, 21, some 1)]
set_option maxHeartbeats 4000000 in
set_option maxRecDepth 100000 in
theorem kX12_slipsAs_2_f1_f3 (l : Launch) (D : va_G) (ca : Nat → ClassId) (za h : Nat → Nat) (hh : sgH 26 h) (f : sg_F) (L : sg_L) (Q : sg_Q) (hI : sgI loM hiM f) (x1 : Int32) (hf_0_48 : f 0 48 = 1) (hf_0_49 : f 0 49 = 3) (p0 : 1 ≤ (f 0 48).toInt ∧ (f 0 48).toInt ≤ 1) (sz : Nat) : Met l yX12_slipsAs gwX12_slipsAs { frames := 1, cells := 0, slots := 0, locals := 21 } (sgP D vwCl (tyX ca) 26 h (eM ca h) zcM za f L Q sz [.ref (h 0), .int 2, .int x1]) (sgQi D vwCl 26 h (eM ca h) sz (fun r f1 L1 Q1 => ((sgI loM hiM f1 ∧ sgK WkX12_slipsAs_2_f1_f3 f f1 ∧ L1 = L ∧ Q1 = Q) ∧ True ∧ (2 ≤ (f1 0 48).toInt ∧ (f1 0 48).toInt ≤ 2) ∧ (r, f1) = sX12_slipsAs_2_f1_f3 x1 f L))) 0 0 (sgA 26 h sz) := by
  sorry
abbrev WkX12_slipsAs_3_f0_f3 : List (Nat × Nat × Option Nat) := [(0, 0, some 48), (21, 21, some 0), (21, 21, some 1)]
set_option maxHeartbeats 4000000 in
set_option maxRecDepth 100000 in
theorem kX12_slipsAs_3_f0_f3 (l : Launch) (D : va_G) (ca : Nat → ClassId) (za h : Nat → Nat) (hh : sgH 26 h) (f : sg_F) (L : sg_L) (Q : sg_Q) (hI : sgI loM hiM f) (x1 : Int32) (hf_0_48 : f 0 48 = 0) (hf_0_49 : f 0 49 = 3) (p0 : 0 ≤ (f 0 48).toInt ∧ (f 0 48).toInt ≤ 0) (sz : Nat) : Met l yX12_slipsAs gwX12_slipsAs { frames := 2, cells := 0, slots := 0, locals := 44 } (sgP D vwCl (tyX ca) 26 h (eM ca h) zcM za f L Q sz [.ref (h 0), .int 3, .int x1]) (sgQi D vwCl 26 h (eM ca h) sz (fun r f1 L1 Q1 => ((sgI loM hiM f1 ∧ sgK WkX12_slipsAs_3_f0_f3 f f1 ∧ L1 = L ∧ Q1 = Q) ∧ True ∧ (2 ≤ (f1 0 48).toInt ∧ (f1 0 48).toInt ≤ 2) ∧ (r, f1) = sX12_slipsAs_3_f0_f3 x1 f L))) 0 0 (sgA 26 h sz) := by
  sorry
abbrev WkX12_begins_50_f0 : List (Nat × Nat × Option Nat) := [(0, 0, some 48), (21, 21, some 0)]
set_option maxHeartbeats 4000000 in
set_option maxRecDepth 100000 in
theorem kX12_begins_50_f0 (l : Launch) (D : va_G) (ca : Nat → ClassId) (za h : Nat → Nat) (hh : sgH 26 h) (f : sg_F) (L : sg_L) (Q : sg_Q) (hI : sgI loM hiM f) (hf_0_48 : f 0 48 = 0) (p0 : 0 ≤ (f 0 48).toInt ∧ (f 0 48).toInt ≤ 0) (sz : Nat) : Met l yX12_begins gwX12_begins { frames := 0, cells := 0, slots := 0, locals := 0 } (sgP D vwCl (tyX ca) 26 h (eM ca h) zcM za f L Q sz [.ref (h 0), .int 50]) (sgQv D vwCl 26 h (eM ca h) sz (fun f1 L1 Q1 => ((sgI loM hiM f1 ∧ sgK WkX12_begins_50_f0 f f1 ∧ L1 = L ∧ Q1 = Q) ∧ (1 ≤ (f1 0 48).toInt ∧ (f1 0 48).toInt ≤ 1) ∧ (f1) = sX12_begins_50_f0 f L))) 0 0 (sgA 26 h sz) := by
  sorry
abbrev WkX12_slipsAs_1_f1_f4 : List (Nat × Nat × Option Nat) := [(0, 0, some 48), (21, 21, some 1)]
set_option maxHeartbeats 4000000 in
set_option maxRecDepth 100000 in
theorem kX12_slipsAs_1_f1_f4 (l : Launch) (D : va_G) (ca : Nat → ClassId) (za h : Nat → Nat) (hh : sgH 26 h) (f : sg_F) (L : sg_L) (Q : sg_Q) (hI : sgI loM hiM f) (x1 : Int32) (hf_0_48 : f 0 48 = 1) (hf_0_49 : f 0 49 = 4) (p0 : 1 ≤ (f 0 48).toInt ∧ (f 0 48).toInt ≤ 1) (sz : Nat) : Met l yX12_slipsAs gwX12_slipsAs { frames := 1, cells := 0, slots := 0, locals := 21 } (sgP D vwCl (tyX ca) 26 h (eM ca h) zcM za f L Q sz [.ref (h 0), .int 1, .int x1]) (sgQi D vwCl 26 h (eM ca h) sz (fun r f1 L1 Q1 => ((sgI loM hiM f1 ∧ sgK WkX12_slipsAs_1_f1_f4 f f1 ∧ L1 = L ∧ Q1 = Q) ∧ True ∧ (2 ≤ (f1 0 48).toInt ∧ (f1 0 48).toInt ≤ 2) ∧ (r, f1) = sX12_slipsAs_1_f1_f4 x1 f L))) 0 0 (sgA 26 h sz) := by
  sorry
abbrev WkX12_setsAs_0_f3_f4 : List (Nat × Nat × Option Nat) := [(0, 0, some 48), (21, 21, some 3)]
set_option maxHeartbeats 4000000 in
set_option maxRecDepth 100000 in
theorem kX12_setsAs_0_f3_f4 (l : Launch) (D : va_G) (ca : Nat → ClassId) (za h : Nat → Nat) (hh : sgH 26 h) (f : sg_F) (L : sg_L) (Q : sg_Q) (hI : sgI loM hiM f) (x1 : Int32) (hf_0_48 : f 0 48 = 3) (hf_0_49 : f 0 49 = 4) (p0 : 3 ≤ (f 0 48).toInt ∧ (f 0 48).toInt ≤ 3) (sz : Nat) : Met l yX12_setsAs gwX12_setsAs { frames := 1, cells := 0, slots := 0, locals := 21 } (sgP D vwCl (tyX ca) 26 h (eM ca h) zcM za f L Q sz [.ref (h 0), .int 0, .int x1]) (sgQi D vwCl 26 h (eM ca h) sz (fun r f1 L1 Q1 => ((sgI loM hiM f1 ∧ sgK WkX12_setsAs_0_f3_f4 f f1 ∧ L1 = L ∧ Q1 = Q) ∧ True ∧ (4 ≤ (f1 0 48).toInt ∧ (f1 0 48).toInt ≤ 4) ∧ (r, f1) = sX12_setsAs_0_f3_f4 x1 f L))) 0 0 (sgA 26 h sz) := by
  sorry
abbrev WkX12_setsAs_4_f2_f4 : List (Nat × Nat × Option Nat) := [(0, 0, some 48), (21, 21, some 2), (21, 21, some 3)]
set_option maxHeartbeats 4000000 in
set_option maxRecDepth 100000 in
theorem kX12_setsAs_4_f2_f4 (l : Launch) (D : va_G) (ca : Nat → ClassId) (za h : Nat → Nat) (hh : sgH 26 h) (f : sg_F) (L : sg_L) (Q : sg_Q) (hI : sgI loM hiM f) (x1 : Int32) (hf_0_48 : f 0 48 = 2) (hf_0_49 : f 0 49 = 4) (p0 : 2 ≤ (f 0 48).toInt ∧ (f 0 48).toInt ≤ 2) (sz : Nat) : Met l yX12_setsAs gwX12_setsAs { frames := 2, cells := 0, slots := 0, locals := 43 } (sgP D vwCl (tyX ca) 26 h (eM ca h) zcM za f L Q sz [.ref (h 0), .int 4, .int x1]) (sgQi D vwCl 26 h (eM ca h) sz (fun r f1 L1 Q1 => ((sgI loM hiM f1 ∧ sgK WkX12_setsAs_4_f2_f4 f f1 ∧ L1 = L ∧ Q1 = Q) ∧ True ∧ (4 ≤ (f1 0 48).toInt ∧ (f1 0 48).toInt ≤ 4) ∧ (r, f1) = sX12_setsAs_4_f2_f4 x1 f L))) 0 0 (sgA 26 h sz) := by
  sorry
abbrev WkX12_slipsAs_4_f0_f4 : List (Nat × Nat × Option Nat) := [(0, 0, some 48), (21, 21, some 0), (21, 21, some 1), (21, 21, some 2), (21, 21, some 3)]
set_option maxHeartbeats 4000000 in
set_option maxRecDepth 100000 in
theorem kX12_slipsAs_4_f0_f4 (l : Launch) (D : va_G) (ca : Nat → ClassId) (za h : Nat → Nat) (hh : sgH 26 h) (f : sg_F) (L : sg_L) (Q : sg_Q) (hI : sgI loM hiM f) (x1 : Int32) (hf_0_48 : f 0 48 = 0) (hf_0_49 : f 0 49 = 4) (p0 : 0 ≤ (f 0 48).toInt ∧ (f 0 48).toInt ≤ 0) (sz : Nat) : Met l yX12_slipsAs gwX12_slipsAs { frames := 3, cells := 0, slots := 0, locals := 65 } (sgP D vwCl (tyX ca) 26 h (eM ca h) zcM za f L Q sz [.ref (h 0), .int 4, .int x1]) (sgQi D vwCl 26 h (eM ca h) sz (fun r f1 L1 Q1 => ((sgI loM hiM f1 ∧ sgK WkX12_slipsAs_4_f0_f4 f f1 ∧ L1 = L ∧ Q1 = Q) ∧ True ∧ (4 ≤ (f1 0 48).toInt ∧ (f1 0 48).toInt ≤ 4) ∧ (r, f1) = sX12_slipsAs_4_f0_f4 x1 f L))) 0 0 (sgA 26 h sz) := by
  sorry
abbrev WkX12_slipsAs_2_f1_f5 : List (Nat × Nat × Option Nat) := [(0, 0, some 48), (21, 21, some 1)]
set_option maxHeartbeats 4000000 in
set_option maxRecDepth 100000 in
theorem kX12_slipsAs_2_f1_f5 (l : Launch) (D : va_G) (ca : Nat → ClassId) (za h : Nat → Nat) (hh : sgH 26 h) (f : sg_F) (L : sg_L) (Q : sg_Q) (hI : sgI loM hiM f) (x1 : Int32) (hf_0_48 : f 0 48 = 1) (hf_0_49 : f 0 49 = 5) (p0 : 1 ≤ (f 0 48).toInt ∧ (f 0 48).toInt ≤ 1) (sz : Nat) : Met l yX12_slipsAs gwX12_slipsAs { frames := 1, cells := 0, slots := 0, locals := 21 } (sgP D vwCl (tyX ca) 26 h (eM ca h) zcM za f L Q sz [.ref (h 0), .int 2, .int x1]) (sgQi D vwCl 26 h (eM ca h) sz (fun r f1 L1 Q1 => ((sgI loM hiM f1 ∧ sgK WkX12_slipsAs_2_f1_f5 f f1 ∧ L1 = L ∧ Q1 = Q) ∧ True ∧ (2 ≤ (f1 0 48).toInt ∧ (f1 0 48).toInt ≤ 2) ∧ (r, f1) = sX12_slipsAs_2_f1_f5 x1 f L))) 0 0 (sgA 26 h sz) := by
  sorry
abbrev WkX12_slipsAs_5_f0_f5 : List (Nat × Nat × Option Nat) := [(0, 0, some 48), (21, 21, some 0), (21, 21, some 1)]
set_option maxHeartbeats 4000000 in
set_option maxRecDepth 100000 in
theorem kX12_slipsAs_5_f0_f5 (l : Launch) (D : va_G) (ca : Nat → ClassId) (za h : Nat → Nat) (hh : sgH 26 h) (f : sg_F) (L : sg_L) (Q : sg_Q) (hI : sgI loM hiM f) (x1 : Int32) (hf_0_48 : f 0 48 = 0) (hf_0_49 : f 0 49 = 5) (p0 : 0 ≤ (f 0 48).toInt ∧ (f 0 48).toInt ≤ 0) (sz : Nat) : Met l yX12_slipsAs gwX12_slipsAs { frames := 2, cells := 0, slots := 0, locals := 44 } (sgP D vwCl (tyX ca) 26 h (eM ca h) zcM za f L Q sz [.ref (h 0), .int 5, .int x1]) (sgQi D vwCl 26 h (eM ca h) sz (fun r f1 L1 Q1 => ((sgI loM hiM f1 ∧ sgK WkX12_slipsAs_5_f0_f5 f f1 ∧ L1 = L ∧ Q1 = Q) ∧ True ∧ (2 ≤ (f1 0 48).toInt ∧ (f1 0 48).toInt ≤ 2) ∧ (r, f1) = sX12_slipsAs_5_f0_f5 x1 f L))) 0 0 (sgA 26 h sz) := by
  sorry
abbrev WkX12_slipsAs_6_f0_f6 : List (Nat × Nat × Option Nat) := [(0, 0, some 48), (21, 21, some 0)]
set_option maxHeartbeats 4000000 in
set_option maxRecDepth 100000 in
theorem kX12_slipsAs_6_f0_f6 (l : Launch) (D : va_G) (ca : Nat → ClassId) (za h : Nat → Nat) (hh : sgH 26 h) (f : sg_F) (L : sg_L) (Q : sg_Q) (hI : sgI loM hiM f) (x1 : Int32) (hf_0_48 : f 0 48 = 0) (hf_0_49 : f 0 49 = 6) (p0 : 0 ≤ (f 0 48).toInt ∧ (f 0 48).toInt ≤ 0) (sz : Nat) : Met l yX12_slipsAs gwX12_slipsAs { frames := 1, cells := 0, slots := 0, locals := 21 } (sgP D vwCl (tyX ca) 26 h (eM ca h) zcM za f L Q sz [.ref (h 0), .int 6, .int x1]) (sgQi D vwCl 26 h (eM ca h) sz (fun r f1 L1 Q1 => ((sgI loM hiM f1 ∧ sgK WkX12_slipsAs_6_f0_f6 f f1 ∧ L1 = L ∧ Q1 = Q) ∧ True ∧ (1 ≤ (f1 0 48).toInt ∧ (f1 0 48).toInt ≤ 1) ∧ (r, f1) = sX12_slipsAs_6_f0_f6 x1 f L))) 0 0 (sgA 26 h sz) := by
  sorry
abbrev WkX12_slipsAs_1_f1_f7 : List (Nat × Nat × Option Nat) := [(0, 0, some 48), (21, 21, some 1)]
set_option maxHeartbeats 4000000 in
set_option maxRecDepth 100000 in
theorem kX12_slipsAs_1_f1_f7 (l : Launch) (D : va_G) (ca : Nat → ClassId) (za h : Nat → Nat) (hh : sgH 26 h) (f : sg_F) (L : sg_L) (Q : sg_Q) (hI : sgI loM hiM f) (x1 : Int32) (hf_0_48 : f 0 48 = 1) (hf_0_49 : f 0 49 = 7) (p0 : 1 ≤ (f 0 48).toInt ∧ (f 0 48).toInt ≤ 1) (sz : Nat) : Met l yX12_slipsAs gwX12_slipsAs { frames := 1, cells := 0, slots := 0, locals := 21 } (sgP D vwCl (tyX ca) 26 h (eM ca h) zcM za f L Q sz [.ref (h 0), .int 1, .int x1]) (sgQi D vwCl 26 h (eM ca h) sz (fun r f1 L1 Q1 => ((sgI loM hiM f1 ∧ sgK WkX12_slipsAs_1_f1_f7 f f1 ∧ L1 = L ∧ Q1 = Q) ∧ True ∧ (2 ≤ (f1 0 48).toInt ∧ (f1 0 48).toInt ≤ 2) ∧ (r, f1) = sX12_slipsAs_1_f1_f7 x1 f L))) 0 0 (sgA 26 h sz) := by
  sorry
abbrev WkX12_slipsAs_7_f0_f7 : List (Nat × Nat × Option Nat) := [(0, 0, some 48), (21, 21, some 0), (21, 21, some 1), (21, 21, some 2), (21, 21, some 3)]
set_option maxHeartbeats 4000000 in
set_option maxRecDepth 100000 in
theorem kX12_slipsAs_7_f0_f7 (l : Launch) (D : va_G) (ca : Nat → ClassId) (za h : Nat → Nat) (hh : sgH 26 h) (f : sg_F) (L : sg_L) (Q : sg_Q) (hI : sgI loM hiM f) (x1 : Int32) (hf_0_48 : f 0 48 = 0) (hf_0_49 : f 0 49 = 7) (p0 : 0 ≤ (f 0 48).toInt ∧ (f 0 48).toInt ≤ 0) (sz : Nat) : Met l yX12_slipsAs gwX12_slipsAs { frames := 3, cells := 0, slots := 0, locals := 65 } (sgP D vwCl (tyX ca) 26 h (eM ca h) zcM za f L Q sz [.ref (h 0), .int 7, .int x1]) (sgQi D vwCl 26 h (eM ca h) sz (fun r f1 L1 Q1 => ((sgI loM hiM f1 ∧ sgK WkX12_slipsAs_7_f0_f7 f f1 ∧ L1 = L ∧ Q1 = Q) ∧ True ∧ (4 ≤ (f1 0 48).toInt ∧ (f1 0 48).toInt ≤ 4) ∧ (r, f1) = sX12_slipsAs_7_f0_f7 x1 f L))) 0 0 (sgA 26 h sz) := by
  sorry
abbrev WkX12_begins_2_f0 : List (Nat × Nat × Option Nat) := [(0, 0, some 48), (21, 21, some 0)]
set_option maxHeartbeats 4000000 in
set_option maxRecDepth 100000 in
theorem kX12_begins_2_f0 (l : Launch) (D : va_G) (ca : Nat → ClassId) (za h : Nat → Nat) (hh : sgH 26 h) (f : sg_F) (L : sg_L) (Q : sg_Q) (hI : sgI loM hiM f) (hf_0_48 : f 0 48 = 0) (p0 : 0 ≤ (f 0 48).toInt ∧ (f 0 48).toInt ≤ 0) (sz : Nat) : Met l yX12_begins gwX12_begins { frames := 0, cells := 0, slots := 0, locals := 0 } (sgP D vwCl (tyX ca) 26 h (eM ca h) zcM za f L Q sz [.ref (h 0), .int 2]) (sgQv D vwCl 26 h (eM ca h) sz (fun f1 L1 Q1 => ((sgI loM hiM f1 ∧ sgK WkX12_begins_2_f0 f f1 ∧ L1 = L ∧ Q1 = Q) ∧ (1 ≤ (f1 0 48).toInt ∧ (f1 0 48).toInt ≤ 1) ∧ (f1) = sX12_begins_2_f0 f L))) 0 0 (sgA 26 h sz) := by
  sorry
abbrev WkX12_setsAs_0_f2_f0 : List (Nat × Nat × Option Nat) := [(0, 0, some 48), (21, 21, some 2)]
set_option maxHeartbeats 4000000 in
set_option maxRecDepth 100000 in
theorem kX12_setsAs_0_f2_f0 (l : Launch) (D : va_G) (ca : Nat → ClassId) (za h : Nat → Nat) (hh : sgH 26 h) (f : sg_F) (L : sg_L) (Q : sg_Q) (hI : sgI loM hiM f) (x1 : Int32) (hf_0_48 : f 0 48 = 2) (hf_0_49 : f 0 49 = 0) (p0 : 2 ≤ (f 0 48).toInt ∧ (f 0 48).toInt ≤ 2) (sz : Nat) : Met l yX12_setsAs gwX12_setsAs { frames := 1, cells := 0, slots := 0, locals := 21 } (sgP D vwCl (tyX ca) 26 h (eM ca h) zcM za f L Q sz [.ref (h 0), .int 0, .int x1]) (sgQi D vwCl 26 h (eM ca h) sz (fun r f1 L1 Q1 => ((sgI loM hiM f1 ∧ sgK WkX12_setsAs_0_f2_f0 f f1 ∧ L1 = L ∧ Q1 = Q) ∧ True ∧ (3 ≤ (f1 0 48).toInt ∧ (f1 0 48).toInt ≤ 3) ∧ (r, f1) = sX12_setsAs_0_f2_f0 x1 f L))) 0 0 (sgA 26 h sz) := by
  sorry
abbrev WkX12_sitsAs_0_f1_f0 : List (Nat × Nat × Option Nat) := [(0, 0, some 48), (21, 21, some 1), (21, 21, some 2)]
set_option maxHeartbeats 4000000 in
set_option maxRecDepth 100000 in
theorem kX12_sitsAs_0_f1_f0 (l : Launch) (D : va_G) (ca : Nat → ClassId) (za h : Nat → Nat) (hh : sgH 26 h) (f : sg_F) (L : sg_L) (Q : sg_Q) (hI : sgI loM hiM f) (x1 : Int32) (hf_0_48 : f 0 48 = 1) (hf_0_49 : f 0 49 = 0) (p0 : 1 ≤ (f 0 48).toInt ∧ (f 0 48).toInt ≤ 1) (sz : Nat) : Met l yX12_sitsAs gwX12_sitsAs { frames := 2, cells := 0, slots := 0, locals := 43 } (sgP D vwCl (tyX ca) 26 h (eM ca h) zcM za f L Q sz [.ref (h 0), .int 0, .int x1]) (sgQi D vwCl 26 h (eM ca h) sz (fun r f1 L1 Q1 => ((sgI loM hiM f1 ∧ sgK WkX12_sitsAs_0_f1_f0 f f1 ∧ L1 = L ∧ Q1 = Q) ∧ True ∧ (3 ≤ (f1 0 48).toInt ∧ (f1 0 48).toInt ≤ 3) ∧ (r, f1) = sX12_sitsAs_0_f1_f0 x1 f L))) 0 0 (sgA 26 h sz) := by
  sorry
abbrev WkX12_begins_11_f3 : List (Nat × Nat × Option Nat) := [(0, 0, some 48), (21, 21, some 3)]
set_option maxHeartbeats 4000000 in
set_option maxRecDepth 100000 in
theorem kX12_begins_11_f3 (l : Launch) (D : va_G) (ca : Nat → ClassId) (za h : Nat → Nat) (hh : sgH 26 h) (f : sg_F) (L : sg_L) (Q : sg_Q) (hI : sgI loM hiM f) (hf_0_48 : f 0 48 = 3) (p0 : 3 ≤ (f 0 48).toInt ∧ (f 0 48).toInt ≤ 3) (sz : Nat) : Met l yX12_begins gwX12_begins { frames := 0, cells := 0, slots := 0, locals := 0 } (sgP D vwCl (tyX ca) 26 h (eM ca h) zcM za f L Q sz [.ref (h 0), .int 11]) (sgQv D vwCl 26 h (eM ca h) sz (fun f1 L1 Q1 => ((sgI loM hiM f1 ∧ sgK WkX12_begins_11_f3 f f1 ∧ L1 = L ∧ Q1 = Q) ∧ (4 ≤ (f1 0 48).toInt ∧ (f1 0 48).toInt ≤ 4) ∧ (f1) = sX12_begins_11_f3 f L))) 0 0 (sgA 26 h sz) := by
  sorry
abbrev WkX12_slipsAs_0_f3_f0 : List (Nat × Nat × Option Nat) := [(0, 0, some 48), (21, 21, some 3)]
set_option maxHeartbeats 4000000 in
set_option maxRecDepth 100000 in
theorem kX12_slipsAs_0_f3_f0 (l : Launch) (D : va_G) (ca : Nat → ClassId) (za h : Nat → Nat) (hh : sgH 26 h) (f : sg_F) (L : sg_L) (Q : sg_Q) (hI : sgI loM hiM f) (x1 : Int32) (hf_0_48 : f 0 48 = 3) (hf_0_49 : f 0 49 = 0) (b1 : 1 ≤ x1.toInt ∧ x1.toInt ≤ 1) (p0 : 3 ≤ (f 0 48).toInt ∧ (f 0 48).toInt ≤ 3) (sz : Nat) : Met l yX12_slipsAs gwX12_slipsAs { frames := 1, cells := 0, slots := 0, locals := 21 } (sgP D vwCl (tyX ca) 26 h (eM ca h) zcM za f L Q sz [.ref (h 0), .int 0, .int x1]) (sgQi D vwCl 26 h (eM ca h) sz (fun r f1 L1 Q1 => ((sgI loM hiM f1 ∧ sgK WkX12_slipsAs_0_f3_f0 f f1 ∧ L1 = L ∧ Q1 = Q) ∧ True ∧ (4 ≤ (f1 0 48).toInt ∧ (f1 0 48).toInt ≤ 4) ∧ (r, f1) = sX12_slipsAs_0_f3_f0 x1 f L))) 0 0 (sgA 26 h sz) := by
  sorry
abbrev WkX12_tellsAs_0_f0_f0 : List (Nat × Nat × Option Nat) := [(0, 0, some 48), (21, 21, some 0), (21, 21, some 1), (21, 21, some 2), (21, 21, some 3)]
set_option maxHeartbeats 4000000 in
set_option maxRecDepth 100000 in
theorem kX12_tellsAs_0_f0_f0 (l : Launch) (D : va_G) (ca : Nat → ClassId) (za h : Nat → Nat) (hh : sgH 26 h) (f : sg_F) (L : sg_L) (Q : sg_Q) (hI : sgI loM hiM f) (x1 : Int32) (hf_0_48 : f 0 48 = 0) (hf_0_49 : f 0 49 = 0) (p0 : 0 ≤ (f 0 48).toInt ∧ (f 0 48).toInt ≤ 0) (sz : Nat) : Met l yX12_tellsAs gwX12_tellsAs { frames := 3, cells := 0, slots := 0, locals := 66 } (sgP D vwCl (tyX ca) 26 h (eM ca h) zcM za f L Q sz [.ref (h 0), .int 0, .int x1]) (sgQi D vwCl 26 h (eM ca h) sz (fun r f1 L1 Q1 => ((sgI loM hiM f1 ∧ sgK WkX12_tellsAs_0_f0_f0 f f1 ∧ L1 = L ∧ Q1 = Q) ∧ True ∧ (4 ≤ (f1 0 48).toInt ∧ (f1 0 48).toInt ≤ 4) ∧ (r, f1) = sX12_tellsAs_0_f0_f0 x1 f L))) 0 0 (sgA 26 h sz) := by
  sorry
abbrev WkX12_setsAs_0_f3_f1 : List (Nat × Nat × Option Nat) := [(0, 0, some 48), (21, 21, some 3)]
set_option maxHeartbeats 4000000 in
set_option maxRecDepth 100000 in
theorem kX12_setsAs_0_f3_f1 (l : Launch) (D : va_G) (ca : Nat → ClassId) (za h : Nat → Nat) (hh : sgH 26 h) (f : sg_F) (L : sg_L) (Q : sg_Q) (hI : sgI loM hiM f) (x1 : Int32) (hf_0_48 : f 0 48 = 3) (hf_0_49 : f 0 49 = 1) (p0 : 3 ≤ (f 0 48).toInt ∧ (f 0 48).toInt ≤ 3) (sz : Nat) : Met l yX12_setsAs gwX12_setsAs { frames := 1, cells := 0, slots := 0, locals := 21 } (sgP D vwCl (tyX ca) 26 h (eM ca h) zcM za f L Q sz [.ref (h 0), .int 0, .int x1]) (sgQi D vwCl 26 h (eM ca h) sz (fun r f1 L1 Q1 => ((sgI loM hiM f1 ∧ sgK WkX12_setsAs_0_f3_f1 f f1 ∧ L1 = L ∧ Q1 = Q) ∧ True ∧ (4 ≤ (f1 0 48).toInt ∧ (f1 0 48).toInt ≤ 4) ∧ (r, f1) = sX12_setsAs_0_f3_f1 x1 f L))) 0 0 (sgA 26 h sz) := by
  sorry
abbrev WkX12_setsAs_1_f2_f1 : List (Nat × Nat × Option Nat) := [(0, 0, some 48), (21, 21, some 2), (21, 21, some 3)]
set_option maxHeartbeats 4000000 in
set_option maxRecDepth 100000 in
theorem kX12_setsAs_1_f2_f1 (l : Launch) (D : va_G) (ca : Nat → ClassId) (za h : Nat → Nat) (hh : sgH 26 h) (f : sg_F) (L : sg_L) (Q : sg_Q) (hI : sgI loM hiM f) (x1 : Int32) (hf_0_48 : f 0 48 = 2) (hf_0_49 : f 0 49 = 1) (p0 : 2 ≤ (f 0 48).toInt ∧ (f 0 48).toInt ≤ 2) (sz : Nat) : Met l yX12_setsAs gwX12_setsAs { frames := 2, cells := 0, slots := 0, locals := 43 } (sgP D vwCl (tyX ca) 26 h (eM ca h) zcM za f L Q sz [.ref (h 0), .int 1, .int x1]) (sgQi D vwCl 26 h (eM ca h) sz (fun r f1 L1 Q1 => ((sgI loM hiM f1 ∧ sgK WkX12_setsAs_1_f2_f1 f f1 ∧ L1 = L ∧ Q1 = Q) ∧ True ∧ (4 ≤ (f1 0 48).toInt ∧ (f1 0 48).toInt ≤ 4) ∧ (r, f1) = sX12_setsAs_1_f2_f1 x1 f L))) 0 0 (sgA 26 h sz) := by
  sorry
abbrev WkX12_sitsAs_1_f1_f1 : List (Nat × Nat × Option Nat) := [(0, 0, some 48), (21, 21, some 1), (21, 21, some 2), (21, 21, some 3)]
set_option maxHeartbeats 4000000 in
set_option maxRecDepth 100000 in
theorem kX12_sitsAs_1_f1_f1 (l : Launch) (D : va_G) (ca : Nat → ClassId) (za h : Nat → Nat) (hh : sgH 26 h) (f : sg_F) (L : sg_L) (Q : sg_Q) (hI : sgI loM hiM f) (x1 : Int32) (hf_0_48 : f 0 48 = 1) (hf_0_49 : f 0 49 = 1) (p0 : 1 ≤ (f 0 48).toInt ∧ (f 0 48).toInt ≤ 1) (sz : Nat) : Met l yX12_sitsAs gwX12_sitsAs { frames := 3, cells := 0, slots := 0, locals := 65 } (sgP D vwCl (tyX ca) 26 h (eM ca h) zcM za f L Q sz [.ref (h 0), .int 1, .int x1]) (sgQi D vwCl 26 h (eM ca h) sz (fun r f1 L1 Q1 => ((sgI loM hiM f1 ∧ sgK WkX12_sitsAs_1_f1_f1 f f1 ∧ L1 = L ∧ Q1 = Q) ∧ True ∧ (4 ≤ (f1 0 48).toInt ∧ (f1 0 48).toInt ≤ 4) ∧ (r, f1) = sX12_sitsAs_1_f1_f1 x1 f L))) 0 0 (sgA 26 h sz) := by
  sorry
abbrev WkX12_begins_11_f4 : List (Nat × Nat × Option Nat) := [(0, 0, some 48), (21, 21, some 4)]
set_option maxHeartbeats 4000000 in
set_option maxRecDepth 100000 in
theorem kX12_begins_11_f4 (l : Launch) (D : va_G) (ca : Nat → ClassId) (za h : Nat → Nat) (hh : sgH 26 h) (f : sg_F) (L : sg_L) (Q : sg_Q) (hI : sgI loM hiM f) (hf_0_48 : f 0 48 = 4) (p0 : 4 ≤ (f 0 48).toInt ∧ (f 0 48).toInt ≤ 4) (sz : Nat) : Met l yX12_begins gwX12_begins { frames := 0, cells := 0, slots := 0, locals := 0 } (sgP D vwCl (tyX ca) 26 h (eM ca h) zcM za f L Q sz [.ref (h 0), .int 11]) (sgQv D vwCl 26 h (eM ca h) sz (fun f1 L1 Q1 => ((sgI loM hiM f1 ∧ sgK WkX12_begins_11_f4 f f1 ∧ L1 = L ∧ Q1 = Q) ∧ (5 ≤ (f1 0 48).toInt ∧ (f1 0 48).toInt ≤ 5) ∧ (f1) = sX12_begins_11_f4 f L))) 0 0 (sgA 26 h sz) := by
  sorry
abbrev WkX12_slipsAs_1_f4_f1 : List (Nat × Nat × Option Nat) := [(0, 0, some 48), (21, 21, some 4)]
set_option maxHeartbeats 4000000 in
set_option maxRecDepth 100000 in
theorem kX12_slipsAs_1_f4_f1 (l : Launch) (D : va_G) (ca : Nat → ClassId) (za h : Nat → Nat) (hh : sgH 26 h) (f : sg_F) (L : sg_L) (Q : sg_Q) (hI : sgI loM hiM f) (x1 : Int32) (hf_0_48 : f 0 48 = 4) (hf_0_49 : f 0 49 = 1) (b1 : 1 ≤ x1.toInt ∧ x1.toInt ≤ 1) (p0 : 4 ≤ (f 0 48).toInt ∧ (f 0 48).toInt ≤ 4) (sz : Nat) : Met l yX12_slipsAs gwX12_slipsAs { frames := 1, cells := 0, slots := 0, locals := 21 } (sgP D vwCl (tyX ca) 26 h (eM ca h) zcM za f L Q sz [.ref (h 0), .int 1, .int x1]) (sgQi D vwCl 26 h (eM ca h) sz (fun r f1 L1 Q1 => ((sgI loM hiM f1 ∧ sgK WkX12_slipsAs_1_f4_f1 f f1 ∧ L1 = L ∧ Q1 = Q) ∧ True ∧ (5 ≤ (f1 0 48).toInt ∧ (f1 0 48).toInt ≤ 5) ∧ (r, f1) = sX12_slipsAs_1_f4_f1 x1 f L))) 0 0 (sgA 26 h sz) := by
  sorry
abbrev WkX12_tellsAs_1_f0_f1 : List (Nat × Nat × Option Nat) := [(0, 0, some 48), (21, 21, some 0), (21, 21, some 1), (21, 21, some 2), (21, 21, some 3), (21, 21, some 4)]
set_option maxHeartbeats 4000000 in
set_option maxRecDepth 100000 in
theorem kX12_tellsAs_1_f0_f1 (l : Launch) (D : va_G) (ca : Nat → ClassId) (za h : Nat → Nat) (hh : sgH 26 h) (f : sg_F) (L : sg_L) (Q : sg_Q) (hI : sgI loM hiM f) (x1 : Int32) (hf_0_48 : f 0 48 = 0) (hf_0_49 : f 0 49 = 1) (p0 : 0 ≤ (f 0 48).toInt ∧ (f 0 48).toInt ≤ 0) (sz : Nat) : Met l yX12_tellsAs gwX12_tellsAs { frames := 4, cells := 0, slots := 0, locals := 88 } (sgP D vwCl (tyX ca) 26 h (eM ca h) zcM za f L Q sz [.ref (h 0), .int 1, .int x1]) (sgQi D vwCl 26 h (eM ca h) sz (fun r f1 L1 Q1 => ((sgI loM hiM f1 ∧ sgK WkX12_tellsAs_1_f0_f1 f f1 ∧ L1 = L ∧ Q1 = Q) ∧ True ∧ (5 ≤ (f1 0 48).toInt ∧ (f1 0 48).toInt ≤ 5) ∧ (r, f1) = sX12_tellsAs_1_f0_f1 x1 f L))) 0 0 (sgA 26 h sz) := by
  sorry
abbrev WkX12_setsAs_2_f3_f2 : List (Nat × Nat × Option Nat) := [(0, 0, some 48), (21, 21, some 3)]
set_option maxHeartbeats 4000000 in
set_option maxRecDepth 100000 in
theorem kX12_setsAs_2_f3_f2 (l : Launch) (D : va_G) (ca : Nat → ClassId) (za h : Nat → Nat) (hh : sgH 26 h) (f : sg_F) (L : sg_L) (Q : sg_Q) (hI : sgI loM hiM f) (x1 : Int32) (hf_0_48 : f 0 48 = 3) (hf_0_49 : f 0 49 = 2) (p0 : 3 ≤ (f 0 48).toInt ∧ (f 0 48).toInt ≤ 3) (sz : Nat) : Met l yX12_setsAs gwX12_setsAs { frames := 1, cells := 0, slots := 0, locals := 21 } (sgP D vwCl (tyX ca) 26 h (eM ca h) zcM za f L Q sz [.ref (h 0), .int 2, .int x1]) (sgQi D vwCl 26 h (eM ca h) sz (fun r f1 L1 Q1 => ((sgI loM hiM f1 ∧ sgK WkX12_setsAs_2_f3_f2 f f1 ∧ L1 = L ∧ Q1 = Q) ∧ True ∧ (4 ≤ (f1 0 48).toInt ∧ (f1 0 48).toInt ≤ 4) ∧ (r, f1) = sX12_setsAs_2_f3_f2 x1 f L))) 0 0 (sgA 26 h sz) := by
  sorry
abbrev WkX12_sitsAs_0_f2_f2 : List (Nat × Nat × Option Nat) := [(0, 0, some 48), (21, 21, some 2), (21, 21, some 3)]
set_option maxHeartbeats 4000000 in
set_option maxRecDepth 100000 in
theorem kX12_sitsAs_0_f2_f2 (l : Launch) (D : va_G) (ca : Nat → ClassId) (za h : Nat → Nat) (hh : sgH 26 h) (f : sg_F) (L : sg_L) (Q : sg_Q) (hI : sgI loM hiM f) (x1 : Int32) (hf_0_48 : f 0 48 = 2) (hf_0_49 : f 0 49 = 2) (p0 : 2 ≤ (f 0 48).toInt ∧ (f 0 48).toInt ≤ 2) (sz : Nat) : Met l yX12_sitsAs gwX12_sitsAs { frames := 2, cells := 0, slots := 0, locals := 43 } (sgP D vwCl (tyX ca) 26 h (eM ca h) zcM za f L Q sz [.ref (h 0), .int 0, .int x1]) (sgQi D vwCl 26 h (eM ca h) sz (fun r f1 L1 Q1 => ((sgI loM hiM f1 ∧ sgK WkX12_sitsAs_0_f2_f2 f f1 ∧ L1 = L ∧ Q1 = Q) ∧ True ∧ (4 ≤ (f1 0 48).toInt ∧ (f1 0 48).toInt ≤ 4) ∧ (r, f1) = sX12_sitsAs_0_f2_f2 x1 f L))) 0 0 (sgA 26 h sz) := by
  sorry
abbrev WkX12_sitsAs_2_f1_f2 : List (Nat × Nat × Option Nat) := [(0, 0, some 48), (21, 21, some 1), (21, 21, some 2), (21, 21, some 3)]
set_option maxHeartbeats 4000000 in
set_option maxRecDepth 100000 in
theorem kX12_sitsAs_2_f1_f2 (l : Launch) (D : va_G) (ca : Nat → ClassId) (za h : Nat → Nat) (hh : sgH 26 h) (f : sg_F) (L : sg_L) (Q : sg_Q) (hI : sgI loM hiM f) (x1 : Int32) (hf_0_48 : f 0 48 = 1) (hf_0_49 : f 0 49 = 2) (p0 : 1 ≤ (f 0 48).toInt ∧ (f 0 48).toInt ≤ 1) (sz : Nat) : Met l yX12_sitsAs gwX12_sitsAs { frames := 3, cells := 0, slots := 0, locals := 66 } (sgP D vwCl (tyX ca) 26 h (eM ca h) zcM za f L Q sz [.ref (h 0), .int 2, .int x1]) (sgQi D vwCl 26 h (eM ca h) sz (fun r f1 L1 Q1 => ((sgI loM hiM f1 ∧ sgK WkX12_sitsAs_2_f1_f2 f f1 ∧ L1 = L ∧ Q1 = Q) ∧ True ∧ (4 ≤ (f1 0 48).toInt ∧ (f1 0 48).toInt ≤ 4) ∧ (r, f1) = sX12_sitsAs_2_f1_f2 x1 f L))) 0 0 (sgA 26 h sz) := by
  sorry
abbrev WkX12_slipsAs_2_f4_f2 : List (Nat × Nat × Option Nat) := [(0, 0, some 48), (21, 21, some 4)]
set_option maxHeartbeats 4000000 in
set_option maxRecDepth 100000 in
theorem kX12_slipsAs_2_f4_f2 (l : Launch) (D : va_G) (ca : Nat → ClassId) (za h : Nat → Nat) (hh : sgH 26 h) (f : sg_F) (L : sg_L) (Q : sg_Q) (hI : sgI loM hiM f) (x1 : Int32) (hf_0_48 : f 0 48 = 4) (hf_0_49 : f 0 49 = 2) (b1 : 1 ≤ x1.toInt ∧ x1.toInt ≤ 1) (p0 : 4 ≤ (f 0 48).toInt ∧ (f 0 48).toInt ≤ 4) (sz : Nat) : Met l yX12_slipsAs gwX12_slipsAs { frames := 1, cells := 0, slots := 0, locals := 21 } (sgP D vwCl (tyX ca) 26 h (eM ca h) zcM za f L Q sz [.ref (h 0), .int 2, .int x1]) (sgQi D vwCl 26 h (eM ca h) sz (fun r f1 L1 Q1 => ((sgI loM hiM f1 ∧ sgK WkX12_slipsAs_2_f4_f2 f f1 ∧ L1 = L ∧ Q1 = Q) ∧ True ∧ (5 ≤ (f1 0 48).toInt ∧ (f1 0 48).toInt ≤ 5) ∧ (r, f1) = sX12_slipsAs_2_f4_f2 x1 f L))) 0 0 (sgA 26 h sz) := by
  sorry
abbrev WkX12_tellsAs_2_f0_f2 : List (Nat × Nat × Option Nat) := [(0, 0, some 48), (21, 21, some 0), (21, 21, some 1), (21, 21, some 2), (21, 21, some 3), (21, 21, some 4)]
set_option maxHeartbeats 4000000 in
set_option maxRecDepth 100000 in
theorem kX12_tellsAs_2_f0_f2 (l : Launch) (D : va_G) (ca : Nat → ClassId) (za h : Nat → Nat) (hh : sgH 26 h) (f : sg_F) (L : sg_L) (Q : sg_Q) (hI : sgI loM hiM f) (x1 : Int32) (hf_0_48 : f 0 48 = 0) (hf_0_49 : f 0 49 = 2) (p0 : 0 ≤ (f 0 48).toInt ∧ (f 0 48).toInt ≤ 0) (sz : Nat) : Met l yX12_tellsAs gwX12_tellsAs { frames := 4, cells := 0, slots := 0, locals := 89 } (sgP D vwCl (tyX ca) 26 h (eM ca h) zcM za f L Q sz [.ref (h 0), .int 2, .int x1]) (sgQi D vwCl 26 h (eM ca h) sz (fun r f1 L1 Q1 => ((sgI loM hiM f1 ∧ sgK WkX12_tellsAs_2_f0_f2 f f1 ∧ L1 = L ∧ Q1 = Q) ∧ True ∧ (5 ≤ (f1 0 48).toInt ∧ (f1 0 48).toInt ≤ 5) ∧ (r, f1) = sX12_tellsAs_2_f0_f2 x1 f L))) 0 0 (sgA 26 h sz) := by
  sorry
abbrev WkX12_begins_41_f1 : List (Nat × Nat × Option Nat) := [(0, 0, some 48), (21, 21, some 1)]
set_option maxHeartbeats 4000000 in
set_option maxRecDepth 100000 in
theorem kX12_begins_41_f1 (l : Launch) (D : va_G) (ca : Nat → ClassId) (za h : Nat → Nat) (hh : sgH 26 h) (f : sg_F) (L : sg_L) (Q : sg_Q) (hI : sgI loM hiM f) (hf_0_48 : f 0 48 = 1) (p0 : 1 ≤ (f 0 48).toInt ∧ (f 0 48).toInt ≤ 1) (sz : Nat) : Met l yX12_begins gwX12_begins { frames := 0, cells := 0, slots := 0, locals := 0 } (sgP D vwCl (tyX ca) 26 h (eM ca h) zcM za f L Q sz [.ref (h 0), .int 41]) (sgQv D vwCl 26 h (eM ca h) sz (fun f1 L1 Q1 => ((sgI loM hiM f1 ∧ sgK WkX12_begins_41_f1 f f1 ∧ L1 = L ∧ Q1 = Q) ∧ (2 ≤ (f1 0 48).toInt ∧ (f1 0 48).toInt ≤ 2) ∧ (f1) = sX12_begins_41_f1 f L))) 0 0 (sgA 26 h sz) := by
  sorry
abbrev WkX12_begins_30_f2 : List (Nat × Nat × Option Nat) := [(0, 0, some 48), (21, 21, some 2)]
set_option maxHeartbeats 4000000 in
set_option maxRecDepth 100000 in
theorem kX12_begins_30_f2 (l : Launch) (D : va_G) (ca : Nat → ClassId) (za h : Nat → Nat) (hh : sgH 26 h) (f : sg_F) (L : sg_L) (Q : sg_Q) (hI : sgI loM hiM f) (hf_0_48 : f 0 48 = 2) (p0 : 2 ≤ (f 0 48).toInt ∧ (f 0 48).toInt ≤ 2) (sz : Nat) : Met l yX12_begins gwX12_begins { frames := 0, cells := 0, slots := 0, locals := 0 } (sgP D vwCl (tyX ca) 26 h (eM ca h) zcM za f L Q sz [.ref (h 0), .int 30]) (sgQv D vwCl 26 h (eM ca h) sz (fun f1 L1 Q1 => ((sgI loM hiM f1 ∧ sgK WkX12_begins_30_f2 f f1 ∧ L1 = L ∧ Q1 = Q) ∧ (3 ≤ (f1 0 48).toInt ∧ (f1 0 48).toInt ≤ 3) ∧ (f1) = sX12_begins_30_f2 f L))) 0 0 (sgA 26 h sz) := by
  sorry
abbrev WkX12_begins_10_f3 : List (Nat × Nat × Option Nat) := [(0, 0, some 48), (21, 21, some 3)]
set_option maxHeartbeats 4000000 in
set_option maxRecDepth 100000 in
theorem kX12_begins_10_f3 (l : Launch) (D : va_G) (ca : Nat → ClassId) (za h : Nat → Nat) (hh : sgH 26 h) (f : sg_F) (L : sg_L) (Q : sg_Q) (hI : sgI loM hiM f) (hf_0_48 : f 0 48 = 3) (p0 : 3 ≤ (f 0 48).toInt ∧ (f 0 48).toInt ≤ 3) (sz : Nat) : Met l yX12_begins gwX12_begins { frames := 0, cells := 0, slots := 0, locals := 0 } (sgP D vwCl (tyX ca) 26 h (eM ca h) zcM za f L Q sz [.ref (h 0), .int 10]) (sgQv D vwCl 26 h (eM ca h) sz (fun f1 L1 Q1 => ((sgI loM hiM f1 ∧ sgK WkX12_begins_10_f3 f f1 ∧ L1 = L ∧ Q1 = Q) ∧ (4 ≤ (f1 0 48).toInt ∧ (f1 0 48).toInt ≤ 4) ∧ (f1) = sX12_begins_10_f3 f L))) 0 0 (sgA 26 h sz) := by
  sorry
abbrev WkX12_begins_1_f4 : List (Nat × Nat × Option Nat) := [(0, 0, some 48), (21, 21, some 4)]
set_option maxHeartbeats 4000000 in
set_option maxRecDepth 100000 in
theorem kX12_begins_1_f4 (l : Launch) (D : va_G) (ca : Nat → ClassId) (za h : Nat → Nat) (hh : sgH 26 h) (f : sg_F) (L : sg_L) (Q : sg_Q) (hI : sgI loM hiM f) (hf_0_48 : f 0 48 = 4) (p0 : 4 ≤ (f 0 48).toInt ∧ (f 0 48).toInt ≤ 4) (sz : Nat) : Met l yX12_begins gwX12_begins { frames := 0, cells := 0, slots := 0, locals := 0 } (sgP D vwCl (tyX ca) 26 h (eM ca h) zcM za f L Q sz [.ref (h 0), .int 1]) (sgQv D vwCl 26 h (eM ca h) sz (fun f1 L1 Q1 => ((sgI loM hiM f1 ∧ sgK WkX12_begins_1_f4 f f1 ∧ L1 = L ∧ Q1 = Q) ∧ (5 ≤ (f1 0 48).toInt ∧ (f1 0 48).toInt ≤ 5) ∧ (f1) = sX12_begins_1_f4 f L))) 0 0 (sgA 26 h sz) := by
  sorry
abbrev WkX12_setsAs_3_f4_f3 : List (Nat × Nat × Option Nat) := [(0, 0, some 48), (21, 21, some 4)]
set_option maxHeartbeats 4000000 in
set_option maxRecDepth 100000 in
theorem kX12_setsAs_3_f4_f3 (l : Launch) (D : va_G) (ca : Nat → ClassId) (za h : Nat → Nat) (hh : sgH 26 h) (f : sg_F) (L : sg_L) (Q : sg_Q) (hI : sgI loM hiM f) (x1 : Int32) (hf_0_48 : f 0 48 = 4) (hf_0_49 : f 0 49 = 3) (p0 : 4 ≤ (f 0 48).toInt ∧ (f 0 48).toInt ≤ 4) (sz : Nat) : Met l yX12_setsAs gwX12_setsAs { frames := 1, cells := 0, slots := 0, locals := 21 } (sgP D vwCl (tyX ca) 26 h (eM ca h) zcM za f L Q sz [.ref (h 0), .int 3, .int x1]) (sgQi D vwCl 26 h (eM ca h) sz (fun r f1 L1 Q1 => ((sgI loM hiM f1 ∧ sgK WkX12_setsAs_3_f4_f3 f f1 ∧ L1 = L ∧ Q1 = Q) ∧ True ∧ (5 ≤ (f1 0 48).toInt ∧ (f1 0 48).toInt ≤ 5) ∧ (r, f1) = sX12_setsAs_3_f4_f3 x1 f L))) 0 0 (sgA 26 h sz) := by
  sorry
abbrev WkX12_sitsAs_0_f3_f3 : List (Nat × Nat × Option Nat) := [(0, 0, some 48), (21, 21, some 3), (21, 21, some 4)]
set_option maxHeartbeats 4000000 in
set_option maxRecDepth 100000 in
theorem kX12_sitsAs_0_f3_f3 (l : Launch) (D : va_G) (ca : Nat → ClassId) (za h : Nat → Nat) (hh : sgH 26 h) (f : sg_F) (L : sg_L) (Q : sg_Q) (hI : sgI loM hiM f) (x1 : Int32) (hf_0_48 : f 0 48 = 3) (hf_0_49 : f 0 49 = 3) (p0 : 3 ≤ (f 0 48).toInt ∧ (f 0 48).toInt ≤ 3) (sz : Nat) : Met l yX12_sitsAs gwX12_sitsAs { frames := 2, cells := 0, slots := 0, locals := 43 } (sgP D vwCl (tyX ca) 26 h (eM ca h) zcM za f L Q sz [.ref (h 0), .int 0, .int x1]) (sgQi D vwCl 26 h (eM ca h) sz (fun r f1 L1 Q1 => ((sgI loM hiM f1 ∧ sgK WkX12_sitsAs_0_f3_f3 f f1 ∧ L1 = L ∧ Q1 = Q) ∧ True ∧ (5 ≤ (f1 0 48).toInt ∧ (f1 0 48).toInt ≤ 5) ∧ (r, f1) = sX12_sitsAs_0_f3_f3 x1 f L))) 0 0 (sgA 26 h sz) := by
  sorry
abbrev WkX12_sitsAs_2_f2_f3 : List (Nat × Nat × Option Nat) := [(0, 0, some 48), (21, 21, some 2), (21, 21, some 3), (21, 21, some 4)]
set_option maxHeartbeats 4000000 in
set_option maxRecDepth 100000 in
theorem kX12_sitsAs_2_f2_f3 (l : Launch) (D : va_G) (ca : Nat → ClassId) (za h : Nat → Nat) (hh : sgH 26 h) (f : sg_F) (L : sg_L) (Q : sg_Q) (hI : sgI loM hiM f) (x1 : Int32) (hf_0_48 : f 0 48 = 2) (hf_0_49 : f 0 49 = 3) (p0 : 2 ≤ (f 0 48).toInt ∧ (f 0 48).toInt ≤ 2) (sz : Nat) : Met l yX12_sitsAs gwX12_sitsAs { frames := 3, cells := 0, slots := 0, locals := 66 } (sgP D vwCl (tyX ca) 26 h (eM ca h) zcM za f L Q sz [.ref (h 0), .int 2, .int x1]) (sgQi D vwCl 26 h (eM ca h) sz (fun r f1 L1 Q1 => ((sgI loM hiM f1 ∧ sgK WkX12_sitsAs_2_f2_f3 f f1 ∧ L1 = L ∧ Q1 = Q) ∧ True ∧ (5 ≤ (f1 0 48).toInt ∧ (f1 0 48).toInt ≤ 5) ∧ (r, f1) = sX12_sitsAs_2_f2_f3 x1 f L))) 0 0 (sgA 26 h sz) := by
  sorry
abbrev WkX12_sitsAs_3_f1_f3 : List (Nat × Nat × Option Nat) := [(0, 0, some 48), (21, 21, some 1), (21, 21, some 2), (21, 21, some 3), (21, 21, some 4)]
set_option maxHeartbeats 4000000 in
set_option maxRecDepth 100000 in
theorem kX12_sitsAs_3_f1_f3 (l : Launch) (D : va_G) (ca : Nat → ClassId) (za h : Nat → Nat) (hh : sgH 26 h) (f : sg_F) (L : sg_L) (Q : sg_Q) (hI : sgI loM hiM f) (x1 : Int32) (hf_0_48 : f 0 48 = 1) (hf_0_49 : f 0 49 = 3) (p0 : 1 ≤ (f 0 48).toInt ∧ (f 0 48).toInt ≤ 1) (sz : Nat) : Met l yX12_sitsAs gwX12_sitsAs { frames := 4, cells := 0, slots := 0, locals := 89 } (sgP D vwCl (tyX ca) 26 h (eM ca h) zcM za f L Q sz [.ref (h 0), .int 3, .int x1]) (sgQi D vwCl 26 h (eM ca h) sz (fun r f1 L1 Q1 => ((sgI loM hiM f1 ∧ sgK WkX12_sitsAs_3_f1_f3 f f1 ∧ L1 = L ∧ Q1 = Q) ∧ True ∧ (5 ≤ (f1 0 48).toInt ∧ (f1 0 48).toInt ≤ 5) ∧ (r, f1) = sX12_sitsAs_3_f1_f3 x1 f L))) 0 0 (sgA 26 h sz) := by
  sorry
abbrev WkX12_begins_40_f5 : List (Nat × Nat × Option Nat) := [(0, 0, some 48), (21, 21, some 5)]
set_option maxHeartbeats 4000000 in
set_option maxRecDepth 100000 in
theorem kX12_begins_40_f5 (l : Launch) (D : va_G) (ca : Nat → ClassId) (za h : Nat → Nat) (hh : sgH 26 h) (f : sg_F) (L : sg_L) (Q : sg_Q) (hI : sgI loM hiM f) (hf_0_48 : f 0 48 = 5) (p0 : 5 ≤ (f 0 48).toInt ∧ (f 0 48).toInt ≤ 5) (sz : Nat) : Met l yX12_begins gwX12_begins { frames := 0, cells := 0, slots := 0, locals := 0 } (sgP D vwCl (tyX ca) 26 h (eM ca h) zcM za f L Q sz [.ref (h 0), .int 40]) (sgQv D vwCl 26 h (eM ca h) sz (fun f1 L1 Q1 => ((sgI loM hiM f1 ∧ sgK WkX12_begins_40_f5 f f1 ∧ L1 = L ∧ Q1 = Q) ∧ (6 ≤ (f1 0 48).toInt ∧ (f1 0 48).toInt ≤ 6) ∧ (f1) = sX12_begins_40_f5 f L))) 0 0 (sgA 26 h sz) := by
  sorry
abbrev WkX12_begins_11_f6 : List (Nat × Nat × Option Nat) := [(0, 0, some 48), (21, 21, some 6)]
set_option maxHeartbeats 4000000 in
set_option maxRecDepth 100000 in
theorem kX12_begins_11_f6 (l : Launch) (D : va_G) (ca : Nat → ClassId) (za h : Nat → Nat) (hh : sgH 26 h) (f : sg_F) (L : sg_L) (Q : sg_Q) (hI : sgI loM hiM f) (hf_0_48 : f 0 48 = 6) (p0 : 6 ≤ (f 0 48).toInt ∧ (f 0 48).toInt ≤ 6) (sz : Nat) : Met l yX12_begins gwX12_begins { frames := 0, cells := 0, slots := 0, locals := 0 } (sgP D vwCl (tyX ca) 26 h (eM ca h) zcM za f L Q sz [.ref (h 0), .int 11]) (sgQv D vwCl 26 h (eM ca h) sz (fun f1 L1 Q1 => ((sgI loM hiM f1 ∧ sgK WkX12_begins_11_f6 f f1 ∧ L1 = L ∧ Q1 = Q) ∧ (7 ≤ (f1 0 48).toInt ∧ (f1 0 48).toInt ≤ 7) ∧ (f1) = sX12_begins_11_f6 f L))) 0 0 (sgA 26 h sz) := by
  sorry
abbrev WkX12_slipsAs_2_f6_f3 : List (Nat × Nat × Option Nat) := [(0, 0, some 48), (21, 21, some 6)]
set_option maxHeartbeats 4000000 in
set_option maxRecDepth 100000 in
theorem kX12_slipsAs_2_f6_f3 (l : Launch) (D : va_G) (ca : Nat → ClassId) (za h : Nat → Nat) (hh : sgH 26 h) (f : sg_F) (L : sg_L) (Q : sg_Q) (hI : sgI loM hiM f) (x1 : Int32) (hf_0_48 : f 0 48 = 6) (hf_0_49 : f 0 49 = 3) (b1 : 1 ≤ x1.toInt ∧ x1.toInt ≤ 1) (p0 : 6 ≤ (f 0 48).toInt ∧ (f 0 48).toInt ≤ 6) (sz : Nat) : Met l yX12_slipsAs gwX12_slipsAs { frames := 1, cells := 0, slots := 0, locals := 21 } (sgP D vwCl (tyX ca) 26 h (eM ca h) zcM za f L Q sz [.ref (h 0), .int 2, .int x1]) (sgQi D vwCl 26 h (eM ca h) sz (fun r f1 L1 Q1 => ((sgI loM hiM f1 ∧ sgK WkX12_slipsAs_2_f6_f3 f f1 ∧ L1 = L ∧ Q1 = Q) ∧ True ∧ (7 ≤ (f1 0 48).toInt ∧ (f1 0 48).toInt ≤ 7) ∧ (r, f1) = sX12_slipsAs_2_f6_f3 x1 f L))) 0 0 (sgA 26 h sz) := by
  sorry
abbrev WkX12_slipsAs_3_f5_f3 : List (Nat × Nat × Option Nat) := [(0, 0, some 48), (21, 21, some 5), (21, 21, some 6)]
set_option maxHeartbeats 4000000 in
set_option maxRecDepth 100000 in
theorem kX12_slipsAs_3_f5_f3 (l : Launch) (D : va_G) (ca : Nat → ClassId) (za h : Nat → Nat) (hh : sgH 26 h) (f : sg_F) (L : sg_L) (Q : sg_Q) (hI : sgI loM hiM f) (x1 : Int32) (hf_0_48 : f 0 48 = 5) (hf_0_49 : f 0 49 = 3) (b1 : 1 ≤ x1.toInt ∧ x1.toInt ≤ 1) (p0 : 5 ≤ (f 0 48).toInt ∧ (f 0 48).toInt ≤ 5) (sz : Nat) : Met l yX12_slipsAs gwX12_slipsAs { frames := 2, cells := 0, slots := 0, locals := 44 } (sgP D vwCl (tyX ca) 26 h (eM ca h) zcM za f L Q sz [.ref (h 0), .int 3, .int x1]) (sgQi D vwCl 26 h (eM ca h) sz (fun r f1 L1 Q1 => ((sgI loM hiM f1 ∧ sgK WkX12_slipsAs_3_f5_f3 f f1 ∧ L1 = L ∧ Q1 = Q) ∧ True ∧ (7 ≤ (f1 0 48).toInt ∧ (f1 0 48).toInt ≤ 7) ∧ (r, f1) = sX12_slipsAs_3_f5_f3 x1 f L))) 0 0 (sgA 26 h sz) := by
  sorry
abbrev WkX12_tellsAs_3_f0_f3 : List (Nat × Nat × Option Nat) := [(0, 0, some 48), (21, 21, some 0), (21, 21, some 1), (21, 21, some 2), (21, 21, some 3), (21, 21, some 4), (21, 21, some 5), (21, 21, some 6)]
set_option maxHeartbeats 4000000 in
set_option maxRecDepth 100000 in
theorem kX12_tellsAs_3_f0_f3 (l : Launch) (D : va_G) (ca : Nat → ClassId) (za h : Nat → Nat) (hh : sgH 26 h) (f : sg_F) (L : sg_L) (Q : sg_Q) (hI : sgI loM hiM f) (x1 : Int32) (hf_0_48 : f 0 48 = 0) (hf_0_49 : f 0 49 = 3) (p0 : 0 ≤ (f 0 48).toInt ∧ (f 0 48).toInt ≤ 0) (sz : Nat) : Met l yX12_tellsAs gwX12_tellsAs { frames := 5, cells := 0, slots := 0, locals := 112 } (sgP D vwCl (tyX ca) 26 h (eM ca h) zcM za f L Q sz [.ref (h 0), .int 3, .int x1]) (sgQi D vwCl 26 h (eM ca h) sz (fun r f1 L1 Q1 => ((sgI loM hiM f1 ∧ sgK WkX12_tellsAs_3_f0_f3 f f1 ∧ L1 = L ∧ Q1 = Q) ∧ True ∧ (7 ≤ (f1 0 48).toInt ∧ (f1 0 48).toInt ≤ 7) ∧ (r, f1) = sX12_tellsAs_3_f0_f3 x1 f L))) 0 0 (sgA 26 h sz) := by
  sorry
abbrev WkX12_sitsAs_4_f1_f4 : List (Nat × Nat × Option Nat) := [(0, 0, some 48), (21, 21, some 1), (21, 21, some 2), (21, 21, some 3)]
set_option maxHeartbeats 4000000 in
set_option maxRecDepth 100000 in
theorem kX12_sitsAs_4_f1_f4 (l : Launch) (D : va_G) (ca : Nat → ClassId) (za h : Nat → Nat) (hh : sgH 26 h) (f : sg_F) (L : sg_L) (Q : sg_Q) (hI : sgI loM hiM f) (x1 : Int32) (hf_0_48 : f 0 48 = 1) (hf_0_49 : f 0 49 = 4) (p0 : 1 ≤ (f 0 48).toInt ∧ (f 0 48).toInt ≤ 1) (sz : Nat) : Met l yX12_sitsAs gwX12_sitsAs { frames := 3, cells := 0, slots := 0, locals := 65 } (sgP D vwCl (tyX ca) 26 h (eM ca h) zcM za f L Q sz [.ref (h 0), .int 4, .int x1]) (sgQi D vwCl 26 h (eM ca h) sz (fun r f1 L1 Q1 => ((sgI loM hiM f1 ∧ sgK WkX12_sitsAs_4_f1_f4 f f1 ∧ L1 = L ∧ Q1 = Q) ∧ True ∧ (4 ≤ (f1 0 48).toInt ∧ (f1 0 48).toInt ≤ 4) ∧ (r, f1) = sX12_sitsAs_4_f1_f4 x1 f L))) 0 0 (sgA 26 h sz) := by
  sorry
abbrev WkX12_slipsAs_1_f5_f4 : List (Nat × Nat × Option Nat) := [(0, 0, some 48), (21, 21, some 5)]
set_option maxHeartbeats 4000000 in
set_option maxRecDepth 100000 in
theorem kX12_slipsAs_1_f5_f4 (l : Launch) (D : va_G) (ca : Nat → ClassId) (za h : Nat → Nat) (hh : sgH 26 h) (f : sg_F) (L : sg_L) (Q : sg_Q) (hI : sgI loM hiM f) (x1 : Int32) (hf_0_48 : f 0 48 = 5) (hf_0_49 : f 0 49 = 4) (b1 : 1 ≤ x1.toInt ∧ x1.toInt ≤ 1) (p0 : 5 ≤ (f 0 48).toInt ∧ (f 0 48).toInt ≤ 5) (sz : Nat) : Met l yX12_slipsAs gwX12_slipsAs { frames := 1, cells := 0, slots := 0, locals := 21 } (sgP D vwCl (tyX ca) 26 h (eM ca h) zcM za f L Q sz [.ref (h 0), .int 1, .int x1]) (sgQi D vwCl 26 h (eM ca h) sz (fun r f1 L1 Q1 => ((sgI loM hiM f1 ∧ sgK WkX12_slipsAs_1_f5_f4 f f1 ∧ L1 = L ∧ Q1 = Q) ∧ True ∧ (6 ≤ (f1 0 48).toInt ∧ (f1 0 48).toInt ≤ 6) ∧ (r, f1) = sX12_slipsAs_1_f5_f4 x1 f L))) 0 0 (sgA 26 h sz) := by
  sorry
abbrev WkX12_setsAs_0_f7_f4 : List (Nat × Nat × Option Nat) := [(0, 0, some 48), (21, 21, some 7)]
set_option maxHeartbeats 4000000 in
set_option maxRecDepth 100000 in
theorem kX12_setsAs_0_f7_f4 (l : Launch) (D : va_G) (ca : Nat → ClassId) (za h : Nat → Nat) (hh : sgH 26 h) (f : sg_F) (L : sg_L) (Q : sg_Q) (hI : sgI loM hiM f) (x1 : Int32) (hf_0_48 : f 0 48 = 7) (hf_0_49 : f 0 49 = 4) (b1 : 2 ≤ x1.toInt ∧ x1.toInt ≤ 2) (p0 : 7 ≤ (f 0 48).toInt ∧ (f 0 48).toInt ≤ 7) (sz : Nat) : Met l yX12_setsAs gwX12_setsAs { frames := 1, cells := 0, slots := 0, locals := 21 } (sgP D vwCl (tyX ca) 26 h (eM ca h) zcM za f L Q sz [.ref (h 0), .int 0, .int x1]) (sgQi D vwCl 26 h (eM ca h) sz (fun r f1 L1 Q1 => ((sgI loM hiM f1 ∧ sgK WkX12_setsAs_0_f7_f4 f f1 ∧ L1 = L ∧ Q1 = Q) ∧ (2 ≤ r.toInt ∧ r.toInt ≤ 51) ∧ (8 ≤ (f1 0 48).toInt ∧ (f1 0 48).toInt ≤ 8) ∧ (r, f1) = sX12_setsAs_0_f7_f4 x1 f L))) 0 0 (sgA 26 h sz) := by
  sorry
abbrev WkX12_setsAs_4_f6_f4 : List (Nat × Nat × Option Nat) := [(0, 0, some 48), (21, 21, some 6), (21, 21, some 7)]
set_option maxHeartbeats 4000000 in
set_option maxRecDepth 100000 in
theorem kX12_setsAs_4_f6_f4 (l : Launch) (D : va_G) (ca : Nat → ClassId) (za h : Nat → Nat) (hh : sgH 26 h) (f : sg_F) (L : sg_L) (Q : sg_Q) (hI : sgI loM hiM f) (x1 : Int32) (hf_0_48 : f 0 48 = 6) (hf_0_49 : f 0 49 = 4) (b1 : 2 ≤ x1.toInt ∧ x1.toInt ≤ 2) (p0 : 6 ≤ (f 0 48).toInt ∧ (f 0 48).toInt ≤ 6) (sz : Nat) : Met l yX12_setsAs gwX12_setsAs { frames := 2, cells := 0, slots := 0, locals := 43 } (sgP D vwCl (tyX ca) 26 h (eM ca h) zcM za f L Q sz [.ref (h 0), .int 4, .int x1]) (sgQi D vwCl 26 h (eM ca h) sz (fun r f1 L1 Q1 => ((sgI loM hiM f1 ∧ sgK WkX12_setsAs_4_f6_f4 f f1 ∧ L1 = L ∧ Q1 = Q) ∧ (5 ≤ r.toInt ∧ r.toInt ≤ 54) ∧ (8 ≤ (f1 0 48).toInt ∧ (f1 0 48).toInt ≤ 8) ∧ (r, f1) = sX12_setsAs_4_f6_f4 x1 f L))) 0 0 (sgA 26 h sz) := by
  sorry
abbrev WkX12_slipsAs_4_f4_f4 : List (Nat × Nat × Option Nat) := [(0, 0, some 48), (21, 21, some 4), (21, 21, some 5), (21, 21, some 6), (21, 21, some 7)]
set_option maxHeartbeats 4000000 in
set_option maxRecDepth 100000 in
theorem kX12_slipsAs_4_f4_f4 (l : Launch) (D : va_G) (ca : Nat → ClassId) (za h : Nat → Nat) (hh : sgH 26 h) (f : sg_F) (L : sg_L) (Q : sg_Q) (hI : sgI loM hiM f) (x1 : Int32) (hf_0_48 : f 0 48 = 4) (hf_0_49 : f 0 49 = 4) (b1 : 1 ≤ x1.toInt ∧ x1.toInt ≤ 1) (p0 : 4 ≤ (f 0 48).toInt ∧ (f 0 48).toInt ≤ 4) (sz : Nat) : Met l yX12_slipsAs gwX12_slipsAs { frames := 3, cells := 0, slots := 0, locals := 65 } (sgP D vwCl (tyX ca) 26 h (eM ca h) zcM za f L Q sz [.ref (h 0), .int 4, .int x1]) (sgQi D vwCl 26 h (eM ca h) sz (fun r f1 L1 Q1 => ((sgI loM hiM f1 ∧ sgK WkX12_slipsAs_4_f4_f4 f f1 ∧ L1 = L ∧ Q1 = Q) ∧ True ∧ (8 ≤ (f1 0 48).toInt ∧ (f1 0 48).toInt ≤ 8) ∧ (r, f1) = sX12_slipsAs_4_f4_f4 x1 f L))) 0 0 (sgA 26 h sz) := by
  sorry
abbrev WkX12_tellsAs_4_f0_f4 : List (Nat × Nat × Option Nat) := [(0, 0, some 48), (21, 21, some 0), (21, 21, some 1), (21, 21, some 2), (21, 21, some 3), (21, 21, some 4), (21, 21, some 5), (21, 21, some 6), (21, 21, some 7)]
set_option maxHeartbeats 4000000 in
set_option maxRecDepth 100000 in
theorem kX12_tellsAs_4_f0_f4 (l : Launch) (D : va_G) (ca : Nat → ClassId) (za h : Nat → Nat) (hh : sgH 26 h) (f : sg_F) (L : sg_L) (Q : sg_Q) (hI : sgI loM hiM f) (x1 : Int32) (hf_0_48 : f 0 48 = 0) (hf_0_49 : f 0 49 = 4) (p0 : 0 ≤ (f 0 48).toInt ∧ (f 0 48).toInt ≤ 0) (sz : Nat) : Met l yX12_tellsAs gwX12_tellsAs { frames := 4, cells := 0, slots := 0, locals := 88 } (sgP D vwCl (tyX ca) 26 h (eM ca h) zcM za f L Q sz [.ref (h 0), .int 4, .int x1]) (sgQi D vwCl 26 h (eM ca h) sz (fun r f1 L1 Q1 => ((sgI loM hiM f1 ∧ sgK WkX12_tellsAs_4_f0_f4 f f1 ∧ L1 = L ∧ Q1 = Q) ∧ True ∧ (8 ≤ (f1 0 48).toInt ∧ (f1 0 48).toInt ≤ 8) ∧ (r, f1) = sX12_tellsAs_4_f0_f4 x1 f L))) 0 0 (sgA 26 h sz) := by
  sorry
abbrev WkX12_begins_60_f0 : List (Nat × Nat × Option Nat) := [(0, 0, some 48), (21, 21, some 0)]
set_option maxHeartbeats 4000000 in
set_option maxRecDepth 100000 in
theorem kX12_begins_60_f0 (l : Launch) (D : va_G) (ca : Nat → ClassId) (za h : Nat → Nat) (hh : sgH 26 h) (f : sg_F) (L : sg_L) (Q : sg_Q) (hI : sgI loM hiM f) (hf_0_48 : f 0 48 = 0) (p0 : 0 ≤ (f 0 48).toInt ∧ (f 0 48).toInt ≤ 0) (sz : Nat) : Met l yX12_begins gwX12_begins { frames := 0, cells := 0, slots := 0, locals := 0 } (sgP D vwCl (tyX ca) 26 h (eM ca h) zcM za f L Q sz [.ref (h 0), .int 60]) (sgQv D vwCl 26 h (eM ca h) sz (fun f1 L1 Q1 => ((sgI loM hiM f1 ∧ sgK WkX12_begins_60_f0 f f1 ∧ L1 = L ∧ Q1 = Q) ∧ (1 ≤ (f1 0 48).toInt ∧ (f1 0 48).toInt ≤ 1) ∧ (f1) = sX12_begins_60_f0 f L))) 0 0 (sgA 26 h sz) := by
  sorry
