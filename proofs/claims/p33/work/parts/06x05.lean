/-! contracts of any state. Laid by a program (wip/tool) -/
set_option maxHeartbeats 4000000 in
set_option maxRecDepth 100000 in
theorem kX3_ownerOf_7_2 (l : Launch) (D : va_G) (ca : Nat → ClassId) (za h : Nat → Nat) (hh : sgH 52 h) (f : sg_F) (L : sg_L) (Q : sg_Q) (hI : sgI loX hiX f) (sz : Nat) : Met l yX3_ownerOf gwX3_ownerOf { frames := 0, cells := 0, slots := 0, locals := 0 } (sgP D vwCl (tyX ca) 52 h (eX ca h) zcX za f L Q sz [.int 7, .int 2]) (sgQi D vwCl 52 h (eX ca h) sz (fun r f1 L1 Q1 => ((f1 = f ∧ L1 = L ∧ Q1 = Q) ∧ (4 ≤ r.toInt ∧ r.toInt ≤ 4) ∧ (r) = sX3_ownerOf_7_2 f L))) 0 0 (sgA 52 h sz) := by
  sorry
set_option maxHeartbeats 4000000 in
set_option maxRecDepth 100000 in
theorem kX3_ownerOf_1_2 (l : Launch) (D : va_G) (ca : Nat → ClassId) (za h : Nat → Nat) (hh : sgH 52 h) (f : sg_F) (L : sg_L) (Q : sg_Q) (hI : sgI loX hiX f) (sz : Nat) : Met l yX3_ownerOf gwX3_ownerOf { frames := 0, cells := 0, slots := 0, locals := 0 } (sgP D vwCl (tyX ca) 52 h (eX ca h) zcX za f L Q sz [.int 1, .int 2]) (sgQi D vwCl 52 h (eX ca h) sz (fun r f1 L1 Q1 => ((f1 = f ∧ L1 = L ∧ Q1 = Q) ∧ (0 ≤ r.toInt ∧ r.toInt ≤ 0) ∧ (r) = sX3_ownerOf_1_2 f L))) 0 0 (sgA 52 h sz) := by
  sorry
set_option maxHeartbeats 4000000 in
set_option maxRecDepth 100000 in
theorem kX3_runs_11_m1_3_f6_f7 (l : Launch) (D : va_G) (ca : Nat → ClassId) (za h : Nat → Nat) (hh : sgH 52 h) (f : sg_F) (L : sg_L) (Q : sg_Q) (hI : sgI loX hiX f) (x2 : Int32) (hf_36_3 : f 36 3 = 6) (hf_36_4 : f 36 4 = 7) (b2 : 2 ≤ x2.toInt ∧ x2.toInt ≤ 2) (p0 : 6 ≤ (f 36 3).toInt ∧ (f 36 3).toInt ≤ 6) (sz : Nat) : Met l yX3_runs gwX3_runs { frames := 0, cells := 0, slots := 0, locals := 0 } (sgP D vwCl (tyX ca) 52 h (eX ca h) zcX za f L Q sz [.ref (h 36), .int 11, .int (-1), .int x2, .int 3]) (sgQi D vwCl 52 h (eX ca h) sz (fun r f1 L1 Q1 => ((f1 = f ∧ L1 = L ∧ Q1 = Q) ∧ True ∧ (6 ≤ (f1 36 3).toInt ∧ (f1 36 3).toInt ≤ 6) ∧ (r) = sX3_runs_11_m1_3_f6_f7 x2 f L))) 0 0 (sgA 52 h sz) := by
  sorry
abbrev WkX3_does_1_2_2_f5_f7 : List (Nat × Nat × Option Nat) := [(36, 36, some 3), (38, 38, some 5)]
set_option maxHeartbeats 4000000 in
set_option maxRecDepth 100000 in
theorem kX3_does_1_2_2_f5_f7 (l : Launch) (D : va_G) (ca : Nat → ClassId) (za h : Nat → Nat) (hh : sgH 52 h) (f : sg_F) (L : sg_L) (Q : sg_Q) (hI : sgI loX hiX f) (x2 : Int32) (hf_36_3 : f 36 3 = 5) (hf_36_4 : f 36 4 = 7) (b2 : 2 ≤ x2.toInt ∧ x2.toInt ≤ 2) (p0 : 5 ≤ (f 36 3).toInt ∧ (f 36 3).toInt ≤ 5) (sz : Nat) : Met l yX3_does gwX3_does { frames := 1, cells := 0, slots := 0, locals := 24 } (sgP D vwCl (tyX ca) 52 h (eX ca h) zcX za f L Q sz [.ref (h 36), .int 1, .int 2, .int x2, .int 2]) (sgQi D vwCl 52 h (eX ca h) sz (fun r f1 L1 Q1 => ((sgI loX hiX f1 ∧ sgK WkX3_does_1_2_2_f5_f7 f f1 ∧ L1 = L ∧ Q1 = Q) ∧ True ∧ (6 ≤ (f1 36 3).toInt ∧ (f1 36 3).toInt ≤ 6) ∧ (r, f1) = sX3_does_1_2_2_f5_f7 x2 f L))) 0 0 (sgA 52 h sz) := by
  sorry
set_option maxHeartbeats 4000000 in
set_option maxRecDepth 100000 in
theorem kX3_runs_1_m1_4_f8_f7 (l : Launch) (D : va_G) (ca : Nat → ClassId) (za h : Nat → Nat) (hh : sgH 52 h) (f : sg_F) (L : sg_L) (Q : sg_Q) (hI : sgI loX hiX f) (x2 : Int32) (hf_36_3 : f 36 3 = 8) (hf_36_4 : f 36 4 = 7) (b2 : 2 ≤ x2.toInt ∧ x2.toInt ≤ 2) (p0 : 8 ≤ (f 36 3).toInt ∧ (f 36 3).toInt ≤ 8) (sz : Nat) : Met l yX3_runs gwX3_runs { frames := 0, cells := 0, slots := 0, locals := 0 } (sgP D vwCl (tyX ca) 52 h (eX ca h) zcX za f L Q sz [.ref (h 36), .int 1, .int (-1), .int x2, .int 4]) (sgQi D vwCl 52 h (eX ca h) sz (fun r f1 L1 Q1 => ((f1 = f ∧ L1 = L ∧ Q1 = Q) ∧ (2 ≤ r.toInt ∧ r.toInt ≤ 51) ∧ (8 ≤ (f1 36 3).toInt ∧ (f1 36 3).toInt ≤ 8) ∧ (r) = sX3_runs_1_m1_4_f8_f7 x2 f L))) 0 0 (sgA 52 h sz) := by
  sorry
abbrev WkX3_does_0_0_3_f7_f7 : List (Nat × Nat × Option Nat) := [(36, 36, some 3), (38, 38, some 7)]
set_option maxHeartbeats 4000000 in
set_option maxRecDepth 100000 in
theorem kX3_does_0_0_3_f7_f7 (l : Launch) (D : va_G) (ca : Nat → ClassId) (za h : Nat → Nat) (hh : sgH 52 h) (f : sg_F) (L : sg_L) (Q : sg_Q) (hI : sgI loX hiX f) (x2 : Int32) (hf_36_3 : f 36 3 = 7) (hf_36_4 : f 36 4 = 7) (b2 : 2 ≤ x2.toInt ∧ x2.toInt ≤ 2) (p0 : 7 ≤ (f 36 3).toInt ∧ (f 36 3).toInt ≤ 7) (sz : Nat) : Met l yX3_does gwX3_does { frames := 1, cells := 0, slots := 0, locals := 24 } (sgP D vwCl (tyX ca) 52 h (eX ca h) zcX za f L Q sz [.ref (h 36), .int 0, .int 0, .int x2, .int 3]) (sgQi D vwCl 52 h (eX ca h) sz (fun r f1 L1 Q1 => ((sgI loX hiX f1 ∧ sgK WkX3_does_0_0_3_f7_f7 f f1 ∧ L1 = L ∧ Q1 = Q) ∧ (2 ≤ r.toInt ∧ r.toInt ≤ 51) ∧ (8 ≤ (f1 36 3).toInt ∧ (f1 36 3).toInt ≤ 8) ∧ (r, f1) = sX3_does_0_0_3_f7_f7 x2 f L))) 0 0 (sgA 52 h sz) := by
  sorry
abbrev WkX3_runs_20_0_3_f7_f7 : List (Nat × Nat × Option Nat) := [(36, 36, some 3), (38, 38, some 7)]
set_option maxHeartbeats 4000000 in
set_option maxRecDepth 100000 in
theorem kX3_runs_20_0_3_f7_f7 (l : Launch) (D : va_G) (ca : Nat → ClassId) (za h : Nat → Nat) (hh : sgH 52 h) (f : sg_F) (L : sg_L) (Q : sg_Q) (hI : sgI loX hiX f) (x2 : Int32) (hf_36_3 : f 36 3 = 7) (hf_36_4 : f 36 4 = 7) (b2 : 2 ≤ x2.toInt ∧ x2.toInt ≤ 2) (p0 : 7 ≤ (f 36 3).toInt ∧ (f 36 3).toInt ≤ 7) (sz : Nat) : Met l yX3_runs gwX3_runs { frames := 2, cells := 0, slots := 0, locals := 50 } (sgP D vwCl (tyX ca) 52 h (eX ca h) zcX za f L Q sz [.ref (h 36), .int 20, .int 0, .int x2, .int 3]) (sgQi D vwCl 52 h (eX ca h) sz (fun r f1 L1 Q1 => ((sgI loX hiX f1 ∧ sgK WkX3_runs_20_0_3_f7_f7 f f1 ∧ L1 = L ∧ Q1 = Q) ∧ (5 ≤ r.toInt ∧ r.toInt ≤ 54) ∧ (8 ≤ (f1 36 3).toInt ∧ (f1 36 3).toInt ≤ 8) ∧ (r, f1) = sX3_runs_20_0_3_f7_f7 x2 f L))) 0 0 (sgA 52 h sz) := by
  sorry
abbrev WkX3_does_7_0_2_f6_f7 : List (Nat × Nat × Option Nat) := [(36, 36, some 3), (38, 38, some 6), (38, 38, some 7)]
set_option maxHeartbeats 4000000 in
set_option maxRecDepth 100000 in
theorem kX3_does_7_0_2_f6_f7 (l : Launch) (D : va_G) (ca : Nat → ClassId) (za h : Nat → Nat) (hh : sgH 52 h) (f : sg_F) (L : sg_L) (Q : sg_Q) (hI : sgI loX hiX f) (x2 : Int32) (hf_36_3 : f 36 3 = 6) (hf_36_4 : f 36 4 = 7) (b2 : 2 ≤ x2.toInt ∧ x2.toInt ≤ 2) (p0 : 6 ≤ (f 36 3).toInt ∧ (f 36 3).toInt ≤ 6) (sz : Nat) : Met l yX3_does gwX3_does { frames := 3, cells := 0, slots := 0, locals := 74 } (sgP D vwCl (tyX ca) 52 h (eX ca h) zcX za f L Q sz [.ref (h 36), .int 7, .int 0, .int x2, .int 2]) (sgQi D vwCl 52 h (eX ca h) sz (fun r f1 L1 Q1 => ((sgI loX hiX f1 ∧ sgK WkX3_does_7_0_2_f6_f7 f f1 ∧ L1 = L ∧ Q1 = Q) ∧ (5 ≤ r.toInt ∧ r.toInt ≤ 54) ∧ (8 ≤ (f1 36 3).toInt ∧ (f1 36 3).toInt ≤ 8) ∧ (r, f1) = sX3_does_7_0_2_f6_f7 x2 f L))) 0 0 (sgA 52 h sz) := by
  sorry
abbrev WkX3_runs_50_1_2_f5_f7 : List (Nat × Nat × Option Nat) := [(36, 36, some 3), (38, 38, some 5), (38, 38, some 6), (38, 38, some 7)]
set_option maxHeartbeats 4000000 in
set_option maxRecDepth 100000 in
theorem kX3_runs_50_1_2_f5_f7 (l : Launch) (D : va_G) (ca : Nat → ClassId) (za h : Nat → Nat) (hh : sgH 52 h) (f : sg_F) (L : sg_L) (Q : sg_Q) (hI : sgI loX hiX f) (x2 : Int32) (hf_36_3 : f 36 3 = 5) (hf_36_4 : f 36 4 = 7) (b2 : 2 ≤ x2.toInt ∧ x2.toInt ≤ 2) (p0 : 5 ≤ (f 36 3).toInt ∧ (f 36 3).toInt ≤ 5) (sz : Nat) : Met l yX3_runs gwX3_runs { frames := 4, cells := 0, slots := 0, locals := 100 } (sgP D vwCl (tyX ca) 52 h (eX ca h) zcX za f L Q sz [.ref (h 36), .int 50, .int 1, .int x2, .int 2]) (sgQi D vwCl 52 h (eX ca h) sz (fun r f1 L1 Q1 => ((sgI loX hiX f1 ∧ sgK WkX3_runs_50_1_2_f5_f7 f f1 ∧ L1 = L ∧ Q1 = Q) ∧ True ∧ (8 ≤ (f1 36 3).toInt ∧ (f1 36 3).toInt ≤ 8) ∧ (r, f1) = sX3_runs_50_1_2_f5_f7 x2 f L))) 0 0 (sgA 52 h sz) := by
  sorry
abbrev WkX3_does_7_2_1_f4_f7 : List (Nat × Nat × Option Nat) := [(36, 36, some 3), (38, 38, some 4), (38, 38, some 5), (38, 38, some 6), (38, 38, some 7)]
set_option maxHeartbeats 4000000 in
set_option maxRecDepth 100000 in
theorem kX3_does_7_2_1_f4_f7 (l : Launch) (D : va_G) (ca : Nat → ClassId) (za h : Nat → Nat) (hh : sgH 52 h) (f : sg_F) (L : sg_L) (Q : sg_Q) (hI : sgI loX hiX f) (x2 : Int32) (hf_36_3 : f 36 3 = 4) (hf_36_4 : f 36 4 = 7) (b2 : 2 ≤ x2.toInt ∧ x2.toInt ≤ 2) (p0 : 4 ≤ (f 36 3).toInt ∧ (f 36 3).toInt ≤ 4) (sz : Nat) : Met l yX3_does gwX3_does { frames := 5, cells := 0, slots := 0, locals := 124 } (sgP D vwCl (tyX ca) 52 h (eX ca h) zcX za f L Q sz [.ref (h 36), .int 7, .int 2, .int x2, .int 1]) (sgQi D vwCl 52 h (eX ca h) sz (fun r f1 L1 Q1 => ((sgI loX hiX f1 ∧ sgK WkX3_does_7_2_1_f4_f7 f f1 ∧ L1 = L ∧ Q1 = Q) ∧ True ∧ (8 ≤ (f1 36 3).toInt ∧ (f1 36 3).toInt ≤ 8) ∧ (r, f1) = sX3_does_7_2_1_f4_f7 x2 f L))) 0 0 (sgA 52 h sz) := by
  sorry
abbrev WkX3_runs_80_4_1_f1_f7 : List (Nat × Nat × Option Nat) := [(36, 36, some 3), (38, 38, some 1), (38, 38, some 2), (38, 38, some 3), (38, 38, some 4), (38, 38, some 5), (38, 38, some 6), (38, 38, some 7)]
set_option maxHeartbeats 4000000 in
set_option maxRecDepth 100000 in
theorem kX3_runs_80_4_1_f1_f7 (l : Launch) (D : va_G) (ca : Nat → ClassId) (za h : Nat → Nat) (hh : sgH 52 h) (f : sg_F) (L : sg_L) (Q : sg_Q) (hI : sgI loX hiX f) (x2 : Int32) (hf_36_3 : f 36 3 = 1) (hf_36_4 : f 36 4 = 7) (p0 : 1 ≤ (f 36 3).toInt ∧ (f 36 3).toInt ≤ 1) (sz : Nat) : Met l yX3_runs gwX3_runs { frames := 6, cells := 0, slots := 0, locals := 150 } (sgP D vwCl (tyX ca) 52 h (eX ca h) zcX za f L Q sz [.ref (h 36), .int 80, .int 4, .int x2, .int 1]) (sgQi D vwCl 52 h (eX ca h) sz (fun r f1 L1 Q1 => ((sgI loX hiX f1 ∧ sgK WkX3_runs_80_4_1_f1_f7 f f1 ∧ L1 = L ∧ Q1 = Q) ∧ True ∧ (8 ≤ (f1 36 3).toInt ∧ (f1 36 3).toInt ≤ 8) ∧ (r, f1) = sX3_runs_80_4_1_f1_f7 x2 f L))) 0 0 (sgA 52 h sz) := by
  sorry
abbrev WkX3_does_7_1_0_f0_f7 : List (Nat × Nat × Option Nat) := [(36, 36, some 3), (38, 38, some 0), (38, 38, some 1), (38, 38, some 2), (38, 38, some 3), (38, 38, some 4), (38, 38, some 5), (38, 38, some 6), (38, 38, some 7)]
set_option maxHeartbeats 4000000 in
set_option maxRecDepth 100000 in
theorem kX3_does_7_1_0_f0_f7 (l : Launch) (D : va_G) (ca : Nat → ClassId) (za h : Nat → Nat) (hh : sgH 52 h) (f : sg_F) (L : sg_L) (Q : sg_Q) (hI : sgI loX hiX f) (x2 : Int32) (hf_36_3 : f 36 3 = 0) (hf_36_4 : f 36 4 = 7) (p0 : 0 ≤ (f 36 3).toInt ∧ (f 36 3).toInt ≤ 0) (sz : Nat) : Met l yX3_does gwX3_does { frames := 7, cells := 0, slots := 0, locals := 174 } (sgP D vwCl (tyX ca) 52 h (eX ca h) zcX za f L Q sz [.ref (h 36), .int 7, .int 1, .int x2, .int 0]) (sgQi D vwCl 52 h (eX ca h) sz (fun r f1 L1 Q1 => ((sgI loX hiX f1 ∧ sgK WkX3_does_7_1_0_f0_f7 f f1 ∧ L1 = L ∧ Q1 = Q) ∧ True ∧ (8 ≤ (f1 36 3).toInt ∧ (f1 36 3).toInt ≤ 8) ∧ (r, f1) = sX3_does_7_1_0_f0_f7 x2 f L))) 0 0 (sgA 52 h sz) := by
  sorry
set_option maxHeartbeats 4000000 in
set_option maxRecDepth 100000 in
theorem kX3_ownerOf_0_2 (l : Launch) (D : va_G) (ca : Nat → ClassId) (za h : Nat → Nat) (hh : sgH 52 h) (f : sg_F) (L : sg_L) (Q : sg_Q) (hI : sgI loX hiX f) (sz : Nat) : Met l yX3_ownerOf gwX3_ownerOf { frames := 0, cells := 0, slots := 0, locals := 0 } (sgP D vwCl (tyX ca) 52 h (eX ca h) zcX za f L Q sz [.int 0, .int 2]) (sgQi D vwCl 52 h (eX ca h) sz (fun r f1 L1 Q1 => ((f1 = f ∧ L1 = L ∧ Q1 = Q) ∧ (0 ≤ r.toInt ∧ r.toInt ≤ 0) ∧ (r) = sX3_ownerOf_0_2 f L))) 0 0 (sgA 52 h sz) := by
  sorry
set_option maxHeartbeats 4000000 in
set_option maxRecDepth 100000 in
theorem kX3_runs_11_m1_1_f1_f0 (l : Launch) (D : va_G) (ca : Nat → ClassId) (za h : Nat → Nat) (hh : sgH 52 h) (f : sg_F) (L : sg_L) (Q : sg_Q) (hI : sgI loX hiX f) (x2 : Int32) (hf_36_3 : f 36 3 = 1) (hf_36_4 : f 36 4 = 0) (p0 : 1 ≤ (f 36 3).toInt ∧ (f 36 3).toInt ≤ 1) (sz : Nat) : Met l yX3_runs gwX3_runs { frames := 0, cells := 0, slots := 0, locals := 0 } (sgP D vwCl (tyX ca) 52 h (eX ca h) zcX za f L Q sz [.ref (h 36), .int 11, .int (-1), .int x2, .int 1]) (sgQi D vwCl 52 h (eX ca h) sz (fun r f1 L1 Q1 => ((f1 = f ∧ L1 = L ∧ Q1 = Q) ∧ True ∧ (1 ≤ (f1 36 3).toInt ∧ (f1 36 3).toInt ≤ 1) ∧ (r) = sX3_runs_11_m1_1_f1_f0 x2 f L))) 0 0 (sgA 52 h sz) := by
  sorry
abbrev WkX3_does_0_2_0_f0_f0 : List (Nat × Nat × Option Nat) := [(36, 36, some 3), (38, 38, some 0)]
set_option maxHeartbeats 4000000 in
set_option maxRecDepth 100000 in
theorem kX3_does_0_2_0_f0_f0 (l : Launch) (D : va_G) (ca : Nat → ClassId) (za h : Nat → Nat) (hh : sgH 52 h) (f : sg_F) (L : sg_L) (Q : sg_Q) (hI : sgI loX hiX f) (x2 : Int32) (hf_36_3 : f 36 3 = 0) (hf_36_4 : f 36 4 = 0) (p0 : 0 ≤ (f 36 3).toInt ∧ (f 36 3).toInt ≤ 0) (sz : Nat) : Met l yX3_does gwX3_does { frames := 1, cells := 0, slots := 0, locals := 24 } (sgP D vwCl (tyX ca) 52 h (eX ca h) zcX za f L Q sz [.ref (h 36), .int 0, .int 2, .int x2, .int 0]) (sgQi D vwCl 52 h (eX ca h) sz (fun r f1 L1 Q1 => ((sgI loX hiX f1 ∧ sgK WkX3_does_0_2_0_f0_f0 f f1 ∧ L1 = L ∧ Q1 = Q) ∧ True ∧ (1 ≤ (f1 36 3).toInt ∧ (f1 36 3).toInt ≤ 1) ∧ (r, f1) = sX3_does_0_2_0_f0_f0 x2 f L))) 0 0 (sgA 52 h sz) := by
  sorry
set_option maxHeartbeats 4000000 in
set_option maxRecDepth 100000 in
theorem kX3_runs_11_m1_1_f1_f1 (l : Launch) (D : va_G) (ca : Nat → ClassId) (za h : Nat → Nat) (hh : sgH 52 h) (f : sg_F) (L : sg_L) (Q : sg_Q) (hI : sgI loX hiX f) (x2 : Int32) (hf_36_3 : f 36 3 = 1) (hf_36_4 : f 36 4 = 1) (p0 : 1 ≤ (f 36 3).toInt ∧ (f 36 3).toInt ≤ 1) (sz : Nat) : Met l yX3_runs gwX3_runs { frames := 0, cells := 0, slots := 0, locals := 0 } (sgP D vwCl (tyX ca) 52 h (eX ca h) zcX za f L Q sz [.ref (h 36), .int 11, .int (-1), .int x2, .int 1]) (sgQi D vwCl 52 h (eX ca h) sz (fun r f1 L1 Q1 => ((f1 = f ∧ L1 = L ∧ Q1 = Q) ∧ True ∧ (1 ≤ (f1 36 3).toInt ∧ (f1 36 3).toInt ≤ 1) ∧ (r) = sX3_runs_11_m1_1_f1_f1 x2 f L))) 0 0 (sgA 52 h sz) := by
  sorry
abbrev WkX3_does_1_2_0_f0_f1 : List (Nat × Nat × Option Nat) := [(36, 36, some 3), (38, 38, some 0)]
set_option maxHeartbeats 4000000 in
set_option maxRecDepth 100000 in
theorem kX3_does_1_2_0_f0_f1 (l : Launch) (D : va_G) (ca : Nat → ClassId) (za h : Nat → Nat) (hh : sgH 52 h) (f : sg_F) (L : sg_L) (Q : sg_Q) (hI : sgI loX hiX f) (x2 : Int32) (hf_36_3 : f 36 3 = 0) (hf_36_4 : f 36 4 = 1) (p0 : 0 ≤ (f 36 3).toInt ∧ (f 36 3).toInt ≤ 0) (sz : Nat) : Met l yX3_does gwX3_does { frames := 1, cells := 0, slots := 0, locals := 24 } (sgP D vwCl (tyX ca) 52 h (eX ca h) zcX za f L Q sz [.ref (h 36), .int 1, .int 2, .int x2, .int 0]) (sgQi D vwCl 52 h (eX ca h) sz (fun r f1 L1 Q1 => ((sgI loX hiX f1 ∧ sgK WkX3_does_1_2_0_f0_f1 f f1 ∧ L1 = L ∧ Q1 = Q) ∧ True ∧ (1 ≤ (f1 36 3).toInt ∧ (f1 36 3).toInt ≤ 1) ∧ (r, f1) = sX3_does_1_2_0_f0_f1 x2 f L))) 0 0 (sgA 52 h sz) := by
  sorry
set_option maxHeartbeats 4000000 in
set_option maxRecDepth 100000 in
theorem kX3_ownerOf_2_2 (l : Launch) (D : va_G) (ca : Nat → ClassId) (za h : Nat → Nat) (hh : sgH 52 h) (f : sg_F) (L : sg_L) (Q : sg_Q) (hI : sgI loX hiX f) (sz : Nat) : Met l yX3_ownerOf gwX3_ownerOf { frames := 0, cells := 0, slots := 0, locals := 0 } (sgP D vwCl (tyX ca) 52 h (eX ca h) zcX za f L Q sz [.int 2, .int 2]) (sgQi D vwCl 52 h (eX ca h) sz (fun r f1 L1 Q1 => ((f1 = f ∧ L1 = L ∧ Q1 = Q) ∧ (0 ≤ r.toInt ∧ r.toInt ≤ 0) ∧ (r) = sX3_ownerOf_2_2 f L))) 0 0 (sgA 52 h sz) := by
  sorry
set_option maxHeartbeats 4000000 in
set_option maxRecDepth 100000 in
theorem kX3_runs_11_m1_1_f1_f2 (l : Launch) (D : va_G) (ca : Nat → ClassId) (za h : Nat → Nat) (hh : sgH 52 h) (f : sg_F) (L : sg_L) (Q : sg_Q) (hI : sgI loX hiX f) (x2 : Int32) (hf_36_3 : f 36 3 = 1) (hf_36_4 : f 36 4 = 2) (p0 : 1 ≤ (f 36 3).toInt ∧ (f 36 3).toInt ≤ 1) (sz : Nat) : Met l yX3_runs gwX3_runs { frames := 0, cells := 0, slots := 0, locals := 0 } (sgP D vwCl (tyX ca) 52 h (eX ca h) zcX za f L Q sz [.ref (h 36), .int 11, .int (-1), .int x2, .int 1]) (sgQi D vwCl 52 h (eX ca h) sz (fun r f1 L1 Q1 => ((f1 = f ∧ L1 = L ∧ Q1 = Q) ∧ True ∧ (1 ≤ (f1 36 3).toInt ∧ (f1 36 3).toInt ≤ 1) ∧ (r) = sX3_runs_11_m1_1_f1_f2 x2 f L))) 0 0 (sgA 52 h sz) := by
  sorry
abbrev WkX3_does_2_2_0_f0_f2 : List (Nat × Nat × Option Nat) := [(36, 36, some 3), (38, 38, some 0)]
set_option maxHeartbeats 4000000 in
set_option maxRecDepth 100000 in
theorem kX3_does_2_2_0_f0_f2 (l : Launch) (D : va_G) (ca : Nat → ClassId) (za h : Nat → Nat) (hh : sgH 52 h) (f : sg_F) (L : sg_L) (Q : sg_Q) (hI : sgI loX hiX f) (x2 : Int32) (hf_36_3 : f 36 3 = 0) (hf_36_4 : f 36 4 = 2) (p0 : 0 ≤ (f 36 3).toInt ∧ (f 36 3).toInt ≤ 0) (sz : Nat) : Met l yX3_does gwX3_does { frames := 1, cells := 0, slots := 0, locals := 24 } (sgP D vwCl (tyX ca) 52 h (eX ca h) zcX za f L Q sz [.ref (h 36), .int 2, .int 2, .int x2, .int 0]) (sgQi D vwCl 52 h (eX ca h) sz (fun r f1 L1 Q1 => ((sgI loX hiX f1 ∧ sgK WkX3_does_2_2_0_f0_f2 f f1 ∧ L1 = L ∧ Q1 = Q) ∧ True ∧ (1 ≤ (f1 36 3).toInt ∧ (f1 36 3).toInt ≤ 1) ∧ (r, f1) = sX3_does_2_2_0_f0_f2 x2 f L))) 0 0 (sgA 52 h sz) := by
  sorry
set_option maxHeartbeats 4000000 in
set_option maxRecDepth 100000 in
theorem kX3_ownerOf_3_2 (l : Launch) (D : va_G) (ca : Nat → ClassId) (za h : Nat → Nat) (hh : sgH 52 h) (f : sg_F) (L : sg_L) (Q : sg_Q) (hI : sgI loX hiX f) (sz : Nat) : Met l yX3_ownerOf gwX3_ownerOf { frames := 0, cells := 0, slots := 0, locals := 0 } (sgP D vwCl (tyX ca) 52 h (eX ca h) zcX za f L Q sz [.int 3, .int 2]) (sgQi D vwCl 52 h (eX ca h) sz (fun r f1 L1 Q1 => ((f1 = f ∧ L1 = L ∧ Q1 = Q) ∧ (3 ≤ r.toInt ∧ r.toInt ≤ 3) ∧ (r) = sX3_ownerOf_3_2 f L))) 0 0 (sgA 52 h sz) := by
  sorry
set_option maxHeartbeats 4000000 in
set_option maxRecDepth 100000 in
theorem kX3_runs_11_m1_2_f2_f3 (l : Launch) (D : va_G) (ca : Nat → ClassId) (za h : Nat → Nat) (hh : sgH 52 h) (f : sg_F) (L : sg_L) (Q : sg_Q) (hI : sgI loX hiX f) (x2 : Int32) (hf_36_3 : f 36 3 = 2) (hf_36_4 : f 36 4 = 3) (p0 : 2 ≤ (f 36 3).toInt ∧ (f 36 3).toInt ≤ 2) (sz : Nat) : Met l yX3_runs gwX3_runs { frames := 0, cells := 0, slots := 0, locals := 0 } (sgP D vwCl (tyX ca) 52 h (eX ca h) zcX za f L Q sz [.ref (h 36), .int 11, .int (-1), .int x2, .int 2]) (sgQi D vwCl 52 h (eX ca h) sz (fun r f1 L1 Q1 => ((f1 = f ∧ L1 = L ∧ Q1 = Q) ∧ True ∧ (2 ≤ (f1 36 3).toInt ∧ (f1 36 3).toInt ≤ 2) ∧ (r) = sX3_runs_11_m1_2_f2_f3 x2 f L))) 0 0 (sgA 52 h sz) := by
  sorry
abbrev WkX3_does_2_2_1_f1_f3 : List (Nat × Nat × Option Nat) := [(36, 36, some 3), (38, 38, some 1)]
set_option maxHeartbeats 4000000 in
set_option maxRecDepth 100000 in
theorem kX3_does_2_2_1_f1_f3 (l : Launch) (D : va_G) (ca : Nat → ClassId) (za h : Nat → Nat) (hh : sgH 52 h) (f : sg_F) (L : sg_L) (Q : sg_Q) (hI : sgI loX hiX f) (x2 : Int32) (hf_36_3 : f 36 3 = 1) (hf_36_4 : f 36 4 = 3) (p0 : 1 ≤ (f 36 3).toInt ∧ (f 36 3).toInt ≤ 1) (sz : Nat) : Met l yX3_does gwX3_does { frames := 1, cells := 0, slots := 0, locals := 24 } (sgP D vwCl (tyX ca) 52 h (eX ca h) zcX za f L Q sz [.ref (h 36), .int 2, .int 2, .int x2, .int 1]) (sgQi D vwCl 52 h (eX ca h) sz (fun r f1 L1 Q1 => ((sgI loX hiX f1 ∧ sgK WkX3_does_2_2_1_f1_f3 f f1 ∧ L1 = L ∧ Q1 = Q) ∧ True ∧ (2 ≤ (f1 36 3).toInt ∧ (f1 36 3).toInt ≤ 2) ∧ (r, f1) = sX3_does_2_2_1_f1_f3 x2 f L))) 0 0 (sgA 52 h sz) := by
  sorry
abbrev WkX3_runs_40_2_1_f1_f3 : List (Nat × Nat × Option Nat) := [(36, 36, some 3), (38, 38, some 1)]
set_option maxHeartbeats 4000000 in
set_option maxRecDepth 100000 in
theorem kX3_runs_40_2_1_f1_f3 (l : Launch) (D : va_G) (ca : Nat → ClassId) (za h : Nat → Nat) (hh : sgH 52 h) (f : sg_F) (L : sg_L) (Q : sg_Q) (hI : sgI loX hiX f) (x2 : Int32) (hf_36_3 : f 36 3 = 1) (hf_36_4 : f 36 4 = 3) (p0 : 1 ≤ (f 36 3).toInt ∧ (f 36 3).toInt ≤ 1) (sz : Nat) : Met l yX3_runs gwX3_runs { frames := 2, cells := 0, slots := 0, locals := 50 } (sgP D vwCl (tyX ca) 52 h (eX ca h) zcX za f L Q sz [.ref (h 36), .int 40, .int 2, .int x2, .int 1]) (sgQi D vwCl 52 h (eX ca h) sz (fun r f1 L1 Q1 => ((sgI loX hiX f1 ∧ sgK WkX3_runs_40_2_1_f1_f3 f f1 ∧ L1 = L ∧ Q1 = Q) ∧ True ∧ (2 ≤ (f1 36 3).toInt ∧ (f1 36 3).toInt ≤ 2) ∧ (r, f1) = sX3_runs_40_2_1_f1_f3 x2 f L))) 0 0 (sgA 52 h sz) := by
  sorry
abbrev WkX3_does_3_2_0_f0_f3 : List (Nat × Nat × Option Nat) := [(36, 36, some 3), (38, 38, some 0), (38, 38, some 1)]
set_option maxHeartbeats 4000000 in
set_option maxRecDepth 100000 in
theorem kX3_does_3_2_0_f0_f3 (l : Launch) (D : va_G) (ca : Nat → ClassId) (za h : Nat → Nat) (hh : sgH 52 h) (f : sg_F) (L : sg_L) (Q : sg_Q) (hI : sgI loX hiX f) (x2 : Int32) (hf_36_3 : f 36 3 = 0) (hf_36_4 : f 36 4 = 3) (p0 : 0 ≤ (f 36 3).toInt ∧ (f 36 3).toInt ≤ 0) (sz : Nat) : Met l yX3_does gwX3_does { frames := 3, cells := 0, slots := 0, locals := 74 } (sgP D vwCl (tyX ca) 52 h (eX ca h) zcX za f L Q sz [.ref (h 36), .int 3, .int 2, .int x2, .int 0]) (sgQi D vwCl 52 h (eX ca h) sz (fun r f1 L1 Q1 => ((sgI loX hiX f1 ∧ sgK WkX3_does_3_2_0_f0_f3 f f1 ∧ L1 = L ∧ Q1 = Q) ∧ True ∧ (2 ≤ (f1 36 3).toInt ∧ (f1 36 3).toInt ≤ 2) ∧ (r, f1) = sX3_does_3_2_0_f0_f3 x2 f L))) 0 0 (sgA 52 h sz) := by
  sorry
set_option maxHeartbeats 4000000 in
set_option maxRecDepth 100000 in
theorem kX3_ownerOf_4_2 (l : Launch) (D : va_G) (ca : Nat → ClassId) (za h : Nat → Nat) (hh : sgH 52 h) (f : sg_F) (L : sg_L) (Q : sg_Q) (hI : sgI loX hiX f) (sz : Nat) : Met l yX3_ownerOf gwX3_ownerOf { frames := 0, cells := 0, slots := 0, locals := 0 } (sgP D vwCl (tyX ca) 52 h (eX ca h) zcX za f L Q sz [.int 4, .int 2]) (sgQi D vwCl 52 h (eX ca h) sz (fun r f1 L1 Q1 => ((f1 = f ∧ L1 = L ∧ Q1 = Q) ∧ (4 ≤ r.toInt ∧ r.toInt ≤ 4) ∧ (r) = sX3_ownerOf_4_2 f L))) 0 0 (sgA 52 h sz) := by
  sorry
set_option maxHeartbeats 4000000 in
set_option maxRecDepth 100000 in
theorem kX3_runs_11_m1_2_f2_f4 (l : Launch) (D : va_G) (ca : Nat → ClassId) (za h : Nat → Nat) (hh : sgH 52 h) (f : sg_F) (L : sg_L) (Q : sg_Q) (hI : sgI loX hiX f) (x2 : Int32) (hf_36_3 : f 36 3 = 2) (hf_36_4 : f 36 4 = 4) (p0 : 2 ≤ (f 36 3).toInt ∧ (f 36 3).toInt ≤ 2) (sz : Nat) : Met l yX3_runs gwX3_runs { frames := 0, cells := 0, slots := 0, locals := 0 } (sgP D vwCl (tyX ca) 52 h (eX ca h) zcX za f L Q sz [.ref (h 36), .int 11, .int (-1), .int x2, .int 2]) (sgQi D vwCl 52 h (eX ca h) sz (fun r f1 L1 Q1 => ((f1 = f ∧ L1 = L ∧ Q1 = Q) ∧ True ∧ (2 ≤ (f1 36 3).toInt ∧ (f1 36 3).toInt ≤ 2) ∧ (r) = sX3_runs_11_m1_2_f2_f4 x2 f L))) 0 0 (sgA 52 h sz) := by
  sorry
abbrev WkX3_does_1_2_1_f1_f4 : List (Nat × Nat × Option Nat) := [(36, 36, some 3), (38, 38, some 1)]
set_option maxHeartbeats 4000000 in
set_option maxRecDepth 100000 in
theorem kX3_does_1_2_1_f1_f4 (l : Launch) (D : va_G) (ca : Nat → ClassId) (za h : Nat → Nat) (hh : sgH 52 h) (f : sg_F) (L : sg_L) (Q : sg_Q) (hI : sgI loX hiX f) (x2 : Int32) (hf_36_3 : f 36 3 = 1) (hf_36_4 : f 36 4 = 4) (p0 : 1 ≤ (f 36 3).toInt ∧ (f 36 3).toInt ≤ 1) (sz : Nat) : Met l yX3_does gwX3_does { frames := 1, cells := 0, slots := 0, locals := 24 } (sgP D vwCl (tyX ca) 52 h (eX ca h) zcX za f L Q sz [.ref (h 36), .int 1, .int 2, .int x2, .int 1]) (sgQi D vwCl 52 h (eX ca h) sz (fun r f1 L1 Q1 => ((sgI loX hiX f1 ∧ sgK WkX3_does_1_2_1_f1_f4 f f1 ∧ L1 = L ∧ Q1 = Q) ∧ True ∧ (2 ≤ (f1 36 3).toInt ∧ (f1 36 3).toInt ≤ 2) ∧ (r, f1) = sX3_does_1_2_1_f1_f4 x2 f L))) 0 0 (sgA 52 h sz) := by
  sorry
set_option maxHeartbeats 4000000 in
set_option maxRecDepth 100000 in
theorem kX3_runs_1_m1_3_f4_f4 (l : Launch) (D : va_G) (ca : Nat → ClassId) (za h : Nat → Nat) (hh : sgH 52 h) (f : sg_F) (L : sg_L) (Q : sg_Q) (hI : sgI loX hiX f) (x2 : Int32) (hf_36_3 : f 36 3 = 4) (hf_36_4 : f 36 4 = 4) (b2 : 2 ≤ x2.toInt ∧ x2.toInt ≤ 2) (p0 : 4 ≤ (f 36 3).toInt ∧ (f 36 3).toInt ≤ 4) (sz : Nat) : Met l yX3_runs gwX3_runs { frames := 0, cells := 0, slots := 0, locals := 0 } (sgP D vwCl (tyX ca) 52 h (eX ca h) zcX za f L Q sz [.ref (h 36), .int 1, .int (-1), .int x2, .int 3]) (sgQi D vwCl 52 h (eX ca h) sz (fun r f1 L1 Q1 => ((f1 = f ∧ L1 = L ∧ Q1 = Q) ∧ (2 ≤ r.toInt ∧ r.toInt ≤ 51) ∧ (4 ≤ (f1 36 3).toInt ∧ (f1 36 3).toInt ≤ 4) ∧ (r) = sX3_runs_1_m1_3_f4_f4 x2 f L))) 0 0 (sgA 52 h sz) := by
  sorry
abbrev WkX3_does_0_0_2_f3_f4 : List (Nat × Nat × Option Nat) := [(36, 36, some 3), (38, 38, some 3)]
set_option maxHeartbeats 4000000 in
set_option maxRecDepth 100000 in
theorem kX3_does_0_0_2_f3_f4 (l : Launch) (D : va_G) (ca : Nat → ClassId) (za h : Nat → Nat) (hh : sgH 52 h) (f : sg_F) (L : sg_L) (Q : sg_Q) (hI : sgI loX hiX f) (x2 : Int32) (hf_36_3 : f 36 3 = 3) (hf_36_4 : f 36 4 = 4) (b2 : 2 ≤ x2.toInt ∧ x2.toInt ≤ 2) (p0 : 3 ≤ (f 36 3).toInt ∧ (f 36 3).toInt ≤ 3) (sz : Nat) : Met l yX3_does gwX3_does { frames := 1, cells := 0, slots := 0, locals := 24 } (sgP D vwCl (tyX ca) 52 h (eX ca h) zcX za f L Q sz [.ref (h 36), .int 0, .int 0, .int x2, .int 2]) (sgQi D vwCl 52 h (eX ca h) sz (fun r f1 L1 Q1 => ((sgI loX hiX f1 ∧ sgK WkX3_does_0_0_2_f3_f4 f f1 ∧ L1 = L ∧ Q1 = Q) ∧ (2 ≤ r.toInt ∧ r.toInt ≤ 51) ∧ (4 ≤ (f1 36 3).toInt ∧ (f1 36 3).toInt ≤ 4) ∧ (r, f1) = sX3_does_0_0_2_f3_f4 x2 f L))) 0 0 (sgA 52 h sz) := by
  sorry
abbrev WkX3_runs_20_0_2_f3_f4 : List (Nat × Nat × Option Nat) := [(36, 36, some 3), (38, 38, some 3)]
set_option maxHeartbeats 4000000 in
set_option maxRecDepth 100000 in
theorem kX3_runs_20_0_2_f3_f4 (l : Launch) (D : va_G) (ca : Nat → ClassId) (za h : Nat → Nat) (hh : sgH 52 h) (f : sg_F) (L : sg_L) (Q : sg_Q) (hI : sgI loX hiX f) (x2 : Int32) (hf_36_3 : f 36 3 = 3) (hf_36_4 : f 36 4 = 4) (b2 : 2 ≤ x2.toInt ∧ x2.toInt ≤ 2) (p0 : 3 ≤ (f 36 3).toInt ∧ (f 36 3).toInt ≤ 3) (sz : Nat) : Met l yX3_runs gwX3_runs { frames := 2, cells := 0, slots := 0, locals := 50 } (sgP D vwCl (tyX ca) 52 h (eX ca h) zcX za f L Q sz [.ref (h 36), .int 20, .int 0, .int x2, .int 2]) (sgQi D vwCl 52 h (eX ca h) sz (fun r f1 L1 Q1 => ((sgI loX hiX f1 ∧ sgK WkX3_runs_20_0_2_f3_f4 f f1 ∧ L1 = L ∧ Q1 = Q) ∧ (5 ≤ r.toInt ∧ r.toInt ≤ 54) ∧ (4 ≤ (f1 36 3).toInt ∧ (f1 36 3).toInt ≤ 4) ∧ (r, f1) = sX3_runs_20_0_2_f3_f4 x2 f L))) 0 0 (sgA 52 h sz) := by
  sorry
abbrev WkX3_does_4_0_1_f2_f4 : List (Nat × Nat × Option Nat) := [(36, 36, some 3), (38, 38, some 2), (38, 38, some 3)]
set_option maxHeartbeats 4000000 in
set_option maxRecDepth 100000 in
theorem kX3_does_4_0_1_f2_f4 (l : Launch) (D : va_G) (ca : Nat → ClassId) (za h : Nat → Nat) (hh : sgH 52 h) (f : sg_F) (L : sg_L) (Q : sg_Q) (hI : sgI loX hiX f) (x2 : Int32) (hf_36_3 : f 36 3 = 2) (hf_36_4 : f 36 4 = 4) (b2 : 2 ≤ x2.toInt ∧ x2.toInt ≤ 2) (p0 : 2 ≤ (f 36 3).toInt ∧ (f 36 3).toInt ≤ 2) (sz : Nat) : Met l yX3_does gwX3_does { frames := 3, cells := 0, slots := 0, locals := 74 } (sgP D vwCl (tyX ca) 52 h (eX ca h) zcX za f L Q sz [.ref (h 36), .int 4, .int 0, .int x2, .int 1]) (sgQi D vwCl 52 h (eX ca h) sz (fun r f1 L1 Q1 => ((sgI loX hiX f1 ∧ sgK WkX3_does_4_0_1_f2_f4 f f1 ∧ L1 = L ∧ Q1 = Q) ∧ (5 ≤ r.toInt ∧ r.toInt ≤ 54) ∧ (4 ≤ (f1 36 3).toInt ∧ (f1 36 3).toInt ≤ 4) ∧ (r, f1) = sX3_does_4_0_1_f2_f4 x2 f L))) 0 0 (sgA 52 h sz) := by
  sorry
abbrev WkX3_runs_50_1_1_f1_f4 : List (Nat × Nat × Option Nat) := [(36, 36, some 3), (38, 38, some 1), (38, 38, some 2), (38, 38, some 3)]
set_option maxHeartbeats 4000000 in
set_option maxRecDepth 100000 in
theorem kX3_runs_50_1_1_f1_f4 (l : Launch) (D : va_G) (ca : Nat → ClassId) (za h : Nat → Nat) (hh : sgH 52 h) (f : sg_F) (L : sg_L) (Q : sg_Q) (hI : sgI loX hiX f) (x2 : Int32) (hf_36_3 : f 36 3 = 1) (hf_36_4 : f 36 4 = 4) (p0 : 1 ≤ (f 36 3).toInt ∧ (f 36 3).toInt ≤ 1) (sz : Nat) : Met l yX3_runs gwX3_runs { frames := 4, cells := 0, slots := 0, locals := 100 } (sgP D vwCl (tyX ca) 52 h (eX ca h) zcX za f L Q sz [.ref (h 36), .int 50, .int 1, .int x2, .int 1]) (sgQi D vwCl 52 h (eX ca h) sz (fun r f1 L1 Q1 => ((sgI loX hiX f1 ∧ sgK WkX3_runs_50_1_1_f1_f4 f f1 ∧ L1 = L ∧ Q1 = Q) ∧ True ∧ (4 ≤ (f1 36 3).toInt ∧ (f1 36 3).toInt ≤ 4) ∧ (r, f1) = sX3_runs_50_1_1_f1_f4 x2 f L))) 0 0 (sgA 52 h sz) := by
  sorry
abbrev WkX3_does_4_2_0_f0_f4 : List (Nat × Nat × Option Nat) := [(36, 36, some 3), (38, 38, some 0), (38, 38, some 1), (38, 38, some 2), (38, 38, some 3)]
set_option maxHeartbeats 4000000 in
set_option maxRecDepth 100000 in
theorem kX3_does_4_2_0_f0_f4 (l : Launch) (D : va_G) (ca : Nat → ClassId) (za h : Nat → Nat) (hh : sgH 52 h) (f : sg_F) (L : sg_L) (Q : sg_Q) (hI : sgI loX hiX f) (x2 : Int32) (hf_36_3 : f 36 3 = 0) (hf_36_4 : f 36 4 = 4) (p0 : 0 ≤ (f 36 3).toInt ∧ (f 36 3).toInt ≤ 0) (sz : Nat) : Met l yX3_does gwX3_does { frames := 5, cells := 0, slots := 0, locals := 124 } (sgP D vwCl (tyX ca) 52 h (eX ca h) zcX za f L Q sz [.ref (h 36), .int 4, .int 2, .int x2, .int 0]) (sgQi D vwCl 52 h (eX ca h) sz (fun r f1 L1 Q1 => ((sgI loX hiX f1 ∧ sgK WkX3_does_4_2_0_f0_f4 f f1 ∧ L1 = L ∧ Q1 = Q) ∧ True ∧ (4 ≤ (f1 36 3).toInt ∧ (f1 36 3).toInt ≤ 4) ∧ (r, f1) = sX3_does_4_2_0_f0_f4 x2 f L))) 0 0 (sgA 52 h sz) := by
  sorry
set_option maxHeartbeats 4000000 in
set_option maxRecDepth 100000 in
theorem kX3_ownerOf_5_2 (l : Launch) (D : va_G) (ca : Nat → ClassId) (za h : Nat → Nat) (hh : sgH 52 h) (f : sg_F) (L : sg_L) (Q : sg_Q) (hI : sgI loX hiX f) (sz : Nat) : Met l yX3_ownerOf gwX3_ownerOf { frames := 0, cells := 0, slots := 0, locals := 0 } (sgP D vwCl (tyX ca) 52 h (eX ca h) zcX za f L Q sz [.int 5, .int 2]) (sgQi D vwCl 52 h (eX ca h) sz (fun r f1 L1 Q1 => ((f1 = f ∧ L1 = L ∧ Q1 = Q) ∧ (3 ≤ r.toInt ∧ r.toInt ≤ 3) ∧ (r) = sX3_ownerOf_5_2 f L))) 0 0 (sgA 52 h sz) := by
  sorry
set_option maxHeartbeats 4000000 in
set_option maxRecDepth 100000 in
theorem kX3_runs_11_m1_2_f2_f5 (l : Launch) (D : va_G) (ca : Nat → ClassId) (za h : Nat → Nat) (hh : sgH 52 h) (f : sg_F) (L : sg_L) (Q : sg_Q) (hI : sgI loX hiX f) (x2 : Int32) (hf_36_3 : f 36 3 = 2) (hf_36_4 : f 36 4 = 5) (p0 : 2 ≤ (f 36 3).toInt ∧ (f 36 3).toInt ≤ 2) (sz : Nat) : Met l yX3_runs gwX3_runs { frames := 0, cells := 0, slots := 0, locals := 0 } (sgP D vwCl (tyX ca) 52 h (eX ca h) zcX za f L Q sz [.ref (h 36), .int 11, .int (-1), .int x2, .int 2]) (sgQi D vwCl 52 h (eX ca h) sz (fun r f1 L1 Q1 => ((f1 = f ∧ L1 = L ∧ Q1 = Q) ∧ True ∧ (2 ≤ (f1 36 3).toInt ∧ (f1 36 3).toInt ≤ 2) ∧ (r) = sX3_runs_11_m1_2_f2_f5 x2 f L))) 0 0 (sgA 52 h sz) := by
  sorry
abbrev WkX3_does_2_2_1_f1_f5 : List (Nat × Nat × Option Nat) := [(36, 36, some 3), (38, 38, some 1)]
set_option maxHeartbeats 4000000 in
set_option maxRecDepth 100000 in
theorem kX3_does_2_2_1_f1_f5 (l : Launch) (D : va_G) (ca : Nat → ClassId) (za h : Nat → Nat) (hh : sgH 52 h) (f : sg_F) (L : sg_L) (Q : sg_Q) (hI : sgI loX hiX f) (x2 : Int32) (hf_36_3 : f 36 3 = 1) (hf_36_4 : f 36 4 = 5) (p0 : 1 ≤ (f 36 3).toInt ∧ (f 36 3).toInt ≤ 1) (sz : Nat) : Met l yX3_does gwX3_does { frames := 1, cells := 0, slots := 0, locals := 24 } (sgP D vwCl (tyX ca) 52 h (eX ca h) zcX za f L Q sz [.ref (h 36), .int 2, .int 2, .int x2, .int 1]) (sgQi D vwCl 52 h (eX ca h) sz (fun r f1 L1 Q1 => ((sgI loX hiX f1 ∧ sgK WkX3_does_2_2_1_f1_f5 f f1 ∧ L1 = L ∧ Q1 = Q) ∧ True ∧ (2 ≤ (f1 36 3).toInt ∧ (f1 36 3).toInt ≤ 2) ∧ (r, f1) = sX3_does_2_2_1_f1_f5 x2 f L))) 0 0 (sgA 52 h sz) := by
  sorry
abbrev WkX3_runs_40_2_1_f1_f5 : List (Nat × Nat × Option Nat) := [(36, 36, some 3), (38, 38, some 1)]
set_option maxHeartbeats 4000000 in
set_option maxRecDepth 100000 in
theorem kX3_runs_40_2_1_f1_f5 (l : Launch) (D : va_G) (ca : Nat → ClassId) (za h : Nat → Nat) (hh : sgH 52 h) (f : sg_F) (L : sg_L) (Q : sg_Q) (hI : sgI loX hiX f) (x2 : Int32) (hf_36_3 : f 36 3 = 1) (hf_36_4 : f 36 4 = 5) (p0 : 1 ≤ (f 36 3).toInt ∧ (f 36 3).toInt ≤ 1) (sz : Nat) : Met l yX3_runs gwX3_runs { frames := 2, cells := 0, slots := 0, locals := 50 } (sgP D vwCl (tyX ca) 52 h (eX ca h) zcX za f L Q sz [.ref (h 36), .int 40, .int 2, .int x2, .int 1]) (sgQi D vwCl 52 h (eX ca h) sz (fun r f1 L1 Q1 => ((sgI loX hiX f1 ∧ sgK WkX3_runs_40_2_1_f1_f5 f f1 ∧ L1 = L ∧ Q1 = Q) ∧ True ∧ (2 ≤ (f1 36 3).toInt ∧ (f1 36 3).toInt ≤ 2) ∧ (r, f1) = sX3_runs_40_2_1_f1_f5 x2 f L))) 0 0 (sgA 52 h sz) := by
  sorry
abbrev WkX3_does_5_2_0_f0_f5 : List (Nat × Nat × Option Nat) := [(36, 36, some 3), (38, 38, some 0), (38, 38, some 1)]
set_option maxHeartbeats 4000000 in
set_option maxRecDepth 100000 in
theorem kX3_does_5_2_0_f0_f5 (l : Launch) (D : va_G) (ca : Nat → ClassId) (za h : Nat → Nat) (hh : sgH 52 h) (f : sg_F) (L : sg_L) (Q : sg_Q) (hI : sgI loX hiX f) (x2 : Int32) (hf_36_3 : f 36 3 = 0) (hf_36_4 : f 36 4 = 5) (p0 : 0 ≤ (f 36 3).toInt ∧ (f 36 3).toInt ≤ 0) (sz : Nat) : Met l yX3_does gwX3_does { frames := 3, cells := 0, slots := 0, locals := 74 } (sgP D vwCl (tyX ca) 52 h (eX ca h) zcX za f L Q sz [.ref (h 36), .int 5, .int 2, .int x2, .int 0]) (sgQi D vwCl 52 h (eX ca h) sz (fun r f1 L1 Q1 => ((sgI loX hiX f1 ∧ sgK WkX3_does_5_2_0_f0_f5 f f1 ∧ L1 = L ∧ Q1 = Q) ∧ True ∧ (2 ≤ (f1 36 3).toInt ∧ (f1 36 3).toInt ≤ 2) ∧ (r, f1) = sX3_does_5_2_0_f0_f5 x2 f L))) 0 0 (sgA 52 h sz) := by
  sorry
set_option maxHeartbeats 4000000 in
set_option maxRecDepth 100000 in
theorem kX3_ownerOf_6_2 (l : Launch) (D : va_G) (ca : Nat → ClassId) (za h : Nat → Nat) (hh : sgH 52 h) (f : sg_F) (L : sg_L) (Q : sg_Q) (hI : sgI loX hiX f) (sz : Nat) : Met l yX3_ownerOf gwX3_ownerOf { frames := 0, cells := 0, slots := 0, locals := 0 } (sgP D vwCl (tyX ca) 52 h (eX ca h) zcX za f L Q sz [.int 6, .int 2]) (sgQi D vwCl 52 h (eX ca h) sz (fun r f1 L1 Q1 => ((f1 = f ∧ L1 = L ∧ Q1 = Q) ∧ (0 ≤ r.toInt ∧ r.toInt ≤ 0) ∧ (r) = sX3_ownerOf_6_2 f L))) 0 0 (sgA 52 h sz) := by
  sorry
set_option maxHeartbeats 4000000 in
set_option maxRecDepth 100000 in
theorem kX3_runs_11_m1_1_f1_f6 (l : Launch) (D : va_G) (ca : Nat → ClassId) (za h : Nat → Nat) (hh : sgH 52 h) (f : sg_F) (L : sg_L) (Q : sg_Q) (hI : sgI loX hiX f) (x2 : Int32) (hf_36_3 : f 36 3 = 1) (hf_36_4 : f 36 4 = 6) (p0 : 1 ≤ (f 36 3).toInt ∧ (f 36 3).toInt ≤ 1) (sz : Nat) : Met l yX3_runs gwX3_runs { frames := 0, cells := 0, slots := 0, locals := 0 } (sgP D vwCl (tyX ca) 52 h (eX ca h) zcX za f L Q sz [.ref (h 36), .int 11, .int (-1), .int x2, .int 1]) (sgQi D vwCl 52 h (eX ca h) sz (fun r f1 L1 Q1 => ((f1 = f ∧ L1 = L ∧ Q1 = Q) ∧ True ∧ (1 ≤ (f1 36 3).toInt ∧ (f1 36 3).toInt ≤ 1) ∧ (r) = sX3_runs_11_m1_1_f1_f6 x2 f L))) 0 0 (sgA 52 h sz) := by
  sorry
abbrev WkX3_does_6_2_0_f0_f6 : List (Nat × Nat × Option Nat) := [(36, 36, some 3), (38, 38, some 0)]
set_option maxHeartbeats 4000000 in
set_option maxRecDepth 100000 in
theorem kX3_does_6_2_0_f0_f6 (l : Launch) (D : va_G) (ca : Nat → ClassId) (za h : Nat → Nat) (hh : sgH 52 h) (f : sg_F) (L : sg_L) (Q : sg_Q) (hI : sgI loX hiX f) (x2 : Int32) (hf_36_3 : f 36 3 = 0) (hf_36_4 : f 36 4 = 6) (p0 : 0 ≤ (f 36 3).toInt ∧ (f 36 3).toInt ≤ 0) (sz : Nat) : Met l yX3_does gwX3_does { frames := 1, cells := 0, slots := 0, locals := 24 } (sgP D vwCl (tyX ca) 52 h (eX ca h) zcX za f L Q sz [.ref (h 36), .int 6, .int 2, .int x2, .int 0]) (sgQi D vwCl 52 h (eX ca h) sz (fun r f1 L1 Q1 => ((sgI loX hiX f1 ∧ sgK WkX3_does_6_2_0_f0_f6 f f1 ∧ L1 = L ∧ Q1 = Q) ∧ True ∧ (1 ≤ (f1 36 3).toInt ∧ (f1 36 3).toInt ≤ 1) ∧ (r, f1) = sX3_does_6_2_0_f0_f6 x2 f L))) 0 0 (sgA 52 h sz) := by
  sorry
set_option maxHeartbeats 4000000 in
set_option maxRecDepth 100000 in
theorem kX3_runs_11_m1_2_f2_f7 (l : Launch) (D : va_G) (ca : Nat → ClassId) (za h : Nat → Nat) (hh : sgH 52 h) (f : sg_F) (L : sg_L) (Q : sg_Q) (hI : sgI loX hiX f) (x2 : Int32) (hf_36_3 : f 36 3 = 2) (hf_36_4 : f 36 4 = 7) (p0 : 2 ≤ (f 36 3).toInt ∧ (f 36 3).toInt ≤ 2) (sz : Nat) : Met l yX3_runs gwX3_runs { frames := 0, cells := 0, slots := 0, locals := 0 } (sgP D vwCl (tyX ca) 52 h (eX ca h) zcX za f L Q sz [.ref (h 36), .int 11, .int (-1), .int x2, .int 2]) (sgQi D vwCl 52 h (eX ca h) sz (fun r f1 L1 Q1 => ((f1 = f ∧ L1 = L ∧ Q1 = Q) ∧ True ∧ (2 ≤ (f1 36 3).toInt ∧ (f1 36 3).toInt ≤ 2) ∧ (r) = sX3_runs_11_m1_2_f2_f7 x2 f L))) 0 0 (sgA 52 h sz) := by
  sorry
abbrev WkX3_does_1_2_1_f1_f7 : List (Nat × Nat × Option Nat) := [(36, 36, some 3), (38, 38, some 1)]
set_option maxHeartbeats 4000000 in
set_option maxRecDepth 100000 in
theorem kX3_does_1_2_1_f1_f7 (l : Launch) (D : va_G) (ca : Nat → ClassId) (za h : Nat → Nat) (hh : sgH 52 h) (f : sg_F) (L : sg_L) (Q : sg_Q) (hI : sgI loX hiX f) (x2 : Int32) (hf_36_3 : f 36 3 = 1) (hf_36_4 : f 36 4 = 7) (p0 : 1 ≤ (f 36 3).toInt ∧ (f 36 3).toInt ≤ 1) (sz : Nat) : Met l yX3_does gwX3_does { frames := 1, cells := 0, slots := 0, locals := 24 } (sgP D vwCl (tyX ca) 52 h (eX ca h) zcX za f L Q sz [.ref (h 36), .int 1, .int 2, .int x2, .int 1]) (sgQi D vwCl 52 h (eX ca h) sz (fun r f1 L1 Q1 => ((sgI loX hiX f1 ∧ sgK WkX3_does_1_2_1_f1_f7 f f1 ∧ L1 = L ∧ Q1 = Q) ∧ True ∧ (2 ≤ (f1 36 3).toInt ∧ (f1 36 3).toInt ≤ 2) ∧ (r, f1) = sX3_does_1_2_1_f1_f7 x2 f L))) 0 0 (sgA 52 h sz) := by
  sorry
set_option maxHeartbeats 4000000 in
set_option maxRecDepth 100000 in
theorem kX3_runs_1_m1_3_f4_f7 (l : Launch) (D : va_G) (ca : Nat → ClassId) (za h : Nat → Nat) (hh : sgH 52 h) (f : sg_F) (L : sg_L) (Q : sg_Q) (hI : sgI loX hiX f) (x2 : Int32) (hf_36_3 : f 36 3 = 4) (hf_36_4 : f 36 4 = 7) (b2 : 2 ≤ x2.toInt ∧ x2.toInt ≤ 2) (p0 : 4 ≤ (f 36 3).toInt ∧ (f 36 3).toInt ≤ 4) (sz : Nat) : Met l yX3_runs gwX3_runs { frames := 0, cells := 0, slots := 0, locals := 0 } (sgP D vwCl (tyX ca) 52 h (eX ca h) zcX za f L Q sz [.ref (h 36), .int 1, .int (-1), .int x2, .int 3]) (sgQi D vwCl 52 h (eX ca h) sz (fun r f1 L1 Q1 => ((f1 = f ∧ L1 = L ∧ Q1 = Q) ∧ (2 ≤ r.toInt ∧ r.toInt ≤ 51) ∧ (4 ≤ (f1 36 3).toInt ∧ (f1 36 3).toInt ≤ 4) ∧ (r) = sX3_runs_1_m1_3_f4_f7 x2 f L))) 0 0 (sgA 52 h sz) := by
  sorry
abbrev WkX3_does_0_0_2_f3_f7 : List (Nat × Nat × Option Nat) := [(36, 36, some 3), (38, 38, some 3)]
set_option maxHeartbeats 4000000 in
set_option maxRecDepth 100000 in
theorem kX3_does_0_0_2_f3_f7 (l : Launch) (D : va_G) (ca : Nat → ClassId) (za h : Nat → Nat) (hh : sgH 52 h) (f : sg_F) (L : sg_L) (Q : sg_Q) (hI : sgI loX hiX f) (x2 : Int32) (hf_36_3 : f 36 3 = 3) (hf_36_4 : f 36 4 = 7) (b2 : 2 ≤ x2.toInt ∧ x2.toInt ≤ 2) (p0 : 3 ≤ (f 36 3).toInt ∧ (f 36 3).toInt ≤ 3) (sz : Nat) : Met l yX3_does gwX3_does { frames := 1, cells := 0, slots := 0, locals := 24 } (sgP D vwCl (tyX ca) 52 h (eX ca h) zcX za f L Q sz [.ref (h 36), .int 0, .int 0, .int x2, .int 2]) (sgQi D vwCl 52 h (eX ca h) sz (fun r f1 L1 Q1 => ((sgI loX hiX f1 ∧ sgK WkX3_does_0_0_2_f3_f7 f f1 ∧ L1 = L ∧ Q1 = Q) ∧ (2 ≤ r.toInt ∧ r.toInt ≤ 51) ∧ (4 ≤ (f1 36 3).toInt ∧ (f1 36 3).toInt ≤ 4) ∧ (r, f1) = sX3_does_0_0_2_f3_f7 x2 f L))) 0 0 (sgA 52 h sz) := by
  sorry
abbrev WkX3_runs_20_0_2_f3_f7 : List (Nat × Nat × Option Nat) := [(36, 36, some 3), (38, 38, some 3)]
set_option maxHeartbeats 4000000 in
set_option maxRecDepth 100000 in
theorem kX3_runs_20_0_2_f3_f7 (l : Launch) (D : va_G) (ca : Nat → ClassId) (za h : Nat → Nat) (hh : sgH 52 h) (f : sg_F) (L : sg_L) (Q : sg_Q) (hI : sgI loX hiX f) (x2 : Int32) (hf_36_3 : f 36 3 = 3) (hf_36_4 : f 36 4 = 7) (b2 : 2 ≤ x2.toInt ∧ x2.toInt ≤ 2) (p0 : 3 ≤ (f 36 3).toInt ∧ (f 36 3).toInt ≤ 3) (sz : Nat) : Met l yX3_runs gwX3_runs { frames := 2, cells := 0, slots := 0, locals := 50 } (sgP D vwCl (tyX ca) 52 h (eX ca h) zcX za f L Q sz [.ref (h 36), .int 20, .int 0, .int x2, .int 2]) (sgQi D vwCl 52 h (eX ca h) sz (fun r f1 L1 Q1 => ((sgI loX hiX f1 ∧ sgK WkX3_runs_20_0_2_f3_f7 f f1 ∧ L1 = L ∧ Q1 = Q) ∧ (5 ≤ r.toInt ∧ r.toInt ≤ 54) ∧ (4 ≤ (f1 36 3).toInt ∧ (f1 36 3).toInt ≤ 4) ∧ (r, f1) = sX3_runs_20_0_2_f3_f7 x2 f L))) 0 0 (sgA 52 h sz) := by
  sorry
abbrev WkX3_does_7_0_1_f2_f7 : List (Nat × Nat × Option Nat) := [(36, 36, some 3), (38, 38, some 2), (38, 38, some 3)]
set_option maxHeartbeats 4000000 in
set_option maxRecDepth 100000 in
theorem kX3_does_7_0_1_f2_f7 (l : Launch) (D : va_G) (ca : Nat → ClassId) (za h : Nat → Nat) (hh : sgH 52 h) (f : sg_F) (L : sg_L) (Q : sg_Q) (hI : sgI loX hiX f) (x2 : Int32) (hf_36_3 : f 36 3 = 2) (hf_36_4 : f 36 4 = 7) (b2 : 2 ≤ x2.toInt ∧ x2.toInt ≤ 2) (p0 : 2 ≤ (f 36 3).toInt ∧ (f 36 3).toInt ≤ 2) (sz : Nat) : Met l yX3_does gwX3_does { frames := 3, cells := 0, slots := 0, locals := 74 } (sgP D vwCl (tyX ca) 52 h (eX ca h) zcX za f L Q sz [.ref (h 36), .int 7, .int 0, .int x2, .int 1]) (sgQi D vwCl 52 h (eX ca h) sz (fun r f1 L1 Q1 => ((sgI loX hiX f1 ∧ sgK WkX3_does_7_0_1_f2_f7 f f1 ∧ L1 = L ∧ Q1 = Q) ∧ (5 ≤ r.toInt ∧ r.toInt ≤ 54) ∧ (4 ≤ (f1 36 3).toInt ∧ (f1 36 3).toInt ≤ 4) ∧ (r, f1) = sX3_does_7_0_1_f2_f7 x2 f L))) 0 0 (sgA 52 h sz) := by
  sorry
abbrev WkX3_runs_50_1_1_f1_f7 : List (Nat × Nat × Option Nat) := [(36, 36, some 3), (38, 38, some 1), (38, 38, some 2), (38, 38, some 3)]
set_option maxHeartbeats 4000000 in
set_option maxRecDepth 100000 in
theorem kX3_runs_50_1_1_f1_f7 (l : Launch) (D : va_G) (ca : Nat → ClassId) (za h : Nat → Nat) (hh : sgH 52 h) (f : sg_F) (L : sg_L) (Q : sg_Q) (hI : sgI loX hiX f) (x2 : Int32) (hf_36_3 : f 36 3 = 1) (hf_36_4 : f 36 4 = 7) (p0 : 1 ≤ (f 36 3).toInt ∧ (f 36 3).toInt ≤ 1) (sz : Nat) : Met l yX3_runs gwX3_runs { frames := 4, cells := 0, slots := 0, locals := 100 } (sgP D vwCl (tyX ca) 52 h (eX ca h) zcX za f L Q sz [.ref (h 36), .int 50, .int 1, .int x2, .int 1]) (sgQi D vwCl 52 h (eX ca h) sz (fun r f1 L1 Q1 => ((sgI loX hiX f1 ∧ sgK WkX3_runs_50_1_1_f1_f7 f f1 ∧ L1 = L ∧ Q1 = Q) ∧ True ∧ (4 ≤ (f1 36 3).toInt ∧ (f1 36 3).toInt ≤ 4) ∧ (r, f1) = sX3_runs_50_1_1_f1_f7 x2 f L))) 0 0 (sgA 52 h sz) := by
  sorry
abbrev WkX3_does_7_2_0_f0_f7 : List (Nat × Nat × Option Nat) := [(36, 36, some 3), (38, 38, some 0), (38, 38, some 1), (38, 38, some 2), (38, 38, some 3)]
set_option maxHeartbeats 4000000 in
set_option maxRecDepth 100000 in
theorem kX3_does_7_2_0_f0_f7 (l : Launch) (D : va_G) (ca : Nat → ClassId) (za h : Nat → Nat) (hh : sgH 52 h) (f : sg_F) (L : sg_L) (Q : sg_Q) (hI : sgI loX hiX f) (x2 : Int32) (hf_36_3 : f 36 3 = 0) (hf_36_4 : f 36 4 = 7) (p0 : 0 ≤ (f 36 3).toInt ∧ (f 36 3).toInt ≤ 0) (sz : Nat) : Met l yX3_does gwX3_does { frames := 5, cells := 0, slots := 0, locals := 124 } (sgP D vwCl (tyX ca) 52 h (eX ca h) zcX za f L Q sz [.ref (h 36), .int 7, .int 2, .int x2, .int 0]) (sgQi D vwCl 52 h (eX ca h) sz (fun r f1 L1 Q1 => ((sgI loX hiX f1 ∧ sgK WkX3_does_7_2_0_f0_f7 f f1 ∧ L1 = L ∧ Q1 = Q) ∧ True ∧ (4 ≤ (f1 36 3).toInt ∧ (f1 36 3).toInt ≤ 4) ∧ (r, f1) = sX3_does_7_2_0_f0_f7 x2 f L))) 0 0 (sgA 52 h sz) := by
  sorry
set_option maxHeartbeats 4000000 in
set_option maxRecDepth 100000 in
theorem kX3_ownerOf_0_3 (l : Launch) (D : va_G) (ca : Nat → ClassId) (za h : Nat → Nat) (hh : sgH 52 h) (f : sg_F) (L : sg_L) (Q : sg_Q) (hI : sgI loX hiX f) (sz : Nat) : Met l yX3_ownerOf gwX3_ownerOf { frames := 0, cells := 0, slots := 0, locals := 0 } (sgP D vwCl (tyX ca) 52 h (eX ca h) zcX za f L Q sz [.int 0, .int 3]) (sgQi D vwCl 52 h (eX ca h) sz (fun r f1 L1 Q1 => ((f1 = f ∧ L1 = L ∧ Q1 = Q) ∧ (0 ≤ r.toInt ∧ r.toInt ≤ 0) ∧ (r) = sX3_ownerOf_0_3 f L))) 0 0 (sgA 52 h sz) := by
  sorry
set_option maxHeartbeats 4000000 in
set_option maxRecDepth 100000 in
theorem kX3_runs_1_m1_3_f3_f0 (l : Launch) (D : va_G) (ca : Nat → ClassId) (za h : Nat → Nat) (hh : sgH 52 h) (f : sg_F) (L : sg_L) (Q : sg_Q) (hI : sgI loX hiX f) (x2 : Int32) (hf_36_3 : f 36 3 = 3) (hf_36_4 : f 36 4 = 0) (p0 : 3 ≤ (f 36 3).toInt ∧ (f 36 3).toInt ≤ 3) (sz : Nat) : Met l yX3_runs gwX3_runs { frames := 0, cells := 0, slots := 0, locals := 0 } (sgP D vwCl (tyX ca) 52 h (eX ca h) zcX za f L Q sz [.ref (h 36), .int 1, .int (-1), .int x2, .int 3]) (sgQi D vwCl 52 h (eX ca h) sz (fun r f1 L1 Q1 => ((f1 = f ∧ L1 = L ∧ Q1 = Q) ∧ True ∧ (3 ≤ (f1 36 3).toInt ∧ (f1 36 3).toInt ≤ 3) ∧ (r) = sX3_runs_1_m1_3_f3_f0 x2 f L))) 0 0 (sgA 52 h sz) := by
  sorry
abbrev WkX3_does_0_0_2_f2_f0 : List (Nat × Nat × Option Nat) := [(36, 36, some 3), (38, 38, some 2)]
set_option maxHeartbeats 4000000 in
set_option maxRecDepth 100000 in
theorem kX3_does_0_0_2_f2_f0 (l : Launch) (D : va_G) (ca : Nat → ClassId) (za h : Nat → Nat) (hh : sgH 52 h) (f : sg_F) (L : sg_L) (Q : sg_Q) (hI : sgI loX hiX f) (x2 : Int32) (hf_36_3 : f 36 3 = 2) (hf_36_4 : f 36 4 = 0) (p0 : 2 ≤ (f 36 3).toInt ∧ (f 36 3).toInt ≤ 2) (sz : Nat) : Met l yX3_does gwX3_does { frames := 1, cells := 0, slots := 0, locals := 24 } (sgP D vwCl (tyX ca) 52 h (eX ca h) zcX za f L Q sz [.ref (h 36), .int 0, .int 0, .int x2, .int 2]) (sgQi D vwCl 52 h (eX ca h) sz (fun r f1 L1 Q1 => ((sgI loX hiX f1 ∧ sgK WkX3_does_0_0_2_f2_f0 f f1 ∧ L1 = L ∧ Q1 = Q) ∧ True ∧ (3 ≤ (f1 36 3).toInt ∧ (f1 36 3).toInt ≤ 3) ∧ (r, f1) = sX3_does_0_0_2_f2_f0 x2 f L))) 0 0 (sgA 52 h sz) := by
  sorry
abbrev WkX3_runs_10_m1_2_f2_f0 : List (Nat × Nat × Option Nat) := [(36, 36, some 3), (38, 38, some 2)]
set_option maxHeartbeats 4000000 in
set_option maxRecDepth 100000 in
theorem kX3_runs_10_m1_2_f2_f0 (l : Launch) (D : va_G) (ca : Nat → ClassId) (za h : Nat → Nat) (hh : sgH 52 h) (f : sg_F) (L : sg_L) (Q : sg_Q) (hI : sgI loX hiX f) (x2 : Int32) (hf_36_3 : f 36 3 = 2) (hf_36_4 : f 36 4 = 0) (p0 : 2 ≤ (f 36 3).toInt ∧ (f 36 3).toInt ≤ 2) (sz : Nat) : Met l yX3_runs gwX3_runs { frames := 2, cells := 0, slots := 0, locals := 50 } (sgP D vwCl (tyX ca) 52 h (eX ca h) zcX za f L Q sz [.ref (h 36), .int 10, .int (-1), .int x2, .int 2]) (sgQi D vwCl 52 h (eX ca h) sz (fun r f1 L1 Q1 => ((sgI loX hiX f1 ∧ sgK WkX3_runs_10_m1_2_f2_f0 f f1 ∧ L1 = L ∧ Q1 = Q) ∧ True ∧ (3 ≤ (f1 36 3).toInt ∧ (f1 36 3).toInt ≤ 3) ∧ (r, f1) = sX3_runs_10_m1_2_f2_f0 x2 f L))) 0 0 (sgA 52 h sz) := by
  sorry
abbrev WkX3_does_0_1_1_f1_f0 : List (Nat × Nat × Option Nat) := [(36, 36, some 3), (38, 38, some 1), (38, 38, some 2)]
set_option maxHeartbeats 4000000 in
set_option maxRecDepth 100000 in
theorem kX3_does_0_1_1_f1_f0 (l : Launch) (D : va_G) (ca : Nat → ClassId) (za h : Nat → Nat) (hh : sgH 52 h) (f : sg_F) (L : sg_L) (Q : sg_Q) (hI : sgI loX hiX f) (x2 : Int32) (hf_36_3 : f 36 3 = 1) (hf_36_4 : f 36 4 = 0) (p0 : 1 ≤ (f 36 3).toInt ∧ (f 36 3).toInt ≤ 1) (sz : Nat) : Met l yX3_does gwX3_does { frames := 3, cells := 0, slots := 0, locals := 74 } (sgP D vwCl (tyX ca) 52 h (eX ca h) zcX za f L Q sz [.ref (h 36), .int 0, .int 1, .int x2, .int 1]) (sgQi D vwCl 52 h (eX ca h) sz (fun r f1 L1 Q1 => ((sgI loX hiX f1 ∧ sgK WkX3_does_0_1_1_f1_f0 f f1 ∧ L1 = L ∧ Q1 = Q) ∧ True ∧ (3 ≤ (f1 36 3).toInt ∧ (f1 36 3).toInt ≤ 3) ∧ (r, f1) = sX3_does_0_1_1_f1_f0 x2 f L))) 0 0 (sgA 52 h sz) := by
  sorry
set_option maxHeartbeats 4000000 in
set_option maxRecDepth 100000 in
theorem kX3_runs_11_m1_2_f4_f0 (l : Launch) (D : va_G) (ca : Nat → ClassId) (za h : Nat → Nat) (hh : sgH 52 h) (f : sg_F) (L : sg_L) (Q : sg_Q) (hI : sgI loX hiX f) (x2 : Int32) (hf_36_3 : f 36 3 = 4) (hf_36_4 : f 36 4 = 0) (b2 : 1 ≤ x2.toInt ∧ x2.toInt ≤ 1) (p0 : 4 ≤ (f 36 3).toInt ∧ (f 36 3).toInt ≤ 4) (sz : Nat) : Met l yX3_runs gwX3_runs { frames := 0, cells := 0, slots := 0, locals := 0 } (sgP D vwCl (tyX ca) 52 h (eX ca h) zcX za f L Q sz [.ref (h 36), .int 11, .int (-1), .int x2, .int 2]) (sgQi D vwCl 52 h (eX ca h) sz (fun r f1 L1 Q1 => ((f1 = f ∧ L1 = L ∧ Q1 = Q) ∧ True ∧ (4 ≤ (f1 36 3).toInt ∧ (f1 36 3).toInt ≤ 4) ∧ (r) = sX3_runs_11_m1_2_f4_f0 x2 f L))) 0 0 (sgA 52 h sz) := by
  sorry
abbrev WkX3_does_0_2_1_f3_f0 : List (Nat × Nat × Option Nat) := [(36, 36, some 3), (38, 38, some 3)]
set_option maxHeartbeats 4000000 in
set_option maxRecDepth 100000 in
theorem kX3_does_0_2_1_f3_f0 (l : Launch) (D : va_G) (ca : Nat → ClassId) (za h : Nat → Nat) (hh : sgH 52 h) (f : sg_F) (L : sg_L) (Q : sg_Q) (hI : sgI loX hiX f) (x2 : Int32) (hf_36_3 : f 36 3 = 3) (hf_36_4 : f 36 4 = 0) (b2 : 1 ≤ x2.toInt ∧ x2.toInt ≤ 1) (p0 : 3 ≤ (f 36 3).toInt ∧ (f 36 3).toInt ≤ 3) (sz : Nat) : Met l yX3_does gwX3_does { frames := 1, cells := 0, slots := 0, locals := 24 } (sgP D vwCl (tyX ca) 52 h (eX ca h) zcX za f L Q sz [.ref (h 36), .int 0, .int 2, .int x2, .int 1]) (sgQi D vwCl 52 h (eX ca h) sz (fun r f1 L1 Q1 => ((sgI loX hiX f1 ∧ sgK WkX3_does_0_2_1_f3_f0 f f1 ∧ L1 = L ∧ Q1 = Q) ∧ True ∧ (4 ≤ (f1 36 3).toInt ∧ (f1 36 3).toInt ≤ 4) ∧ (r, f1) = sX3_does_0_2_1_f3_f0 x2 f L))) 0 0 (sgA 52 h sz) := by
  sorry
abbrev WkX3_runs_2_m1_1_f1_f0 : List (Nat × Nat × Option Nat) := [(36, 36, some 3), (38, 38, some 1), (38, 38, some 2), (38, 38, some 3)]
set_option maxHeartbeats 4000000 in
set_option maxRecDepth 100000 in
theorem kX3_runs_2_m1_1_f1_f0 (l : Launch) (D : va_G) (ca : Nat → ClassId) (za h : Nat → Nat) (hh : sgH 52 h) (f : sg_F) (L : sg_L) (Q : sg_Q) (hI : sgI loX hiX f) (x2 : Int32) (hf_36_3 : f 36 3 = 1) (hf_36_4 : f 36 4 = 0) (p0 : 1 ≤ (f 36 3).toInt ∧ (f 36 3).toInt ≤ 1) (sz : Nat) : Met l yX3_runs gwX3_runs { frames := 4, cells := 0, slots := 0, locals := 100 } (sgP D vwCl (tyX ca) 52 h (eX ca h) zcX za f L Q sz [.ref (h 36), .int 2, .int (-1), .int x2, .int 1]) (sgQi D vwCl 52 h (eX ca h) sz (fun r f1 L1 Q1 => ((sgI loX hiX f1 ∧ sgK WkX3_runs_2_m1_1_f1_f0 f f1 ∧ L1 = L ∧ Q1 = Q) ∧ True ∧ (4 ≤ (f1 36 3).toInt ∧ (f1 36 3).toInt ≤ 4) ∧ (r, f1) = sX3_runs_2_m1_1_f1_f0 x2 f L))) 0 0 (sgA 52 h sz) := by
  sorry
abbrev WkX3_does_0_3_0_f0_f0 : List (Nat × Nat × Option Nat) := [(36, 36, some 3), (38, 38, some 0), (38, 38, some 1), (38, 38, some 2), (38, 38, some 3)]
set_option maxHeartbeats 4000000 in
set_option maxRecDepth 100000 in
theorem kX3_does_0_3_0_f0_f0 (l : Launch) (D : va_G) (ca : Nat → ClassId) (za h : Nat → Nat) (hh : sgH 52 h) (f : sg_F) (L : sg_L) (Q : sg_Q) (hI : sgI loX hiX f) (x2 : Int32) (hf_36_3 : f 36 3 = 0) (hf_36_4 : f 36 4 = 0) (p0 : 0 ≤ (f 36 3).toInt ∧ (f 36 3).toInt ≤ 0) (sz : Nat) : Met l yX3_does gwX3_does { frames := 5, cells := 0, slots := 0, locals := 124 } (sgP D vwCl (tyX ca) 52 h (eX ca h) zcX za f L Q sz [.ref (h 36), .int 0, .int 3, .int x2, .int 0]) (sgQi D vwCl 52 h (eX ca h) sz (fun r f1 L1 Q1 => ((sgI loX hiX f1 ∧ sgK WkX3_does_0_3_0_f0_f0 f f1 ∧ L1 = L ∧ Q1 = Q) ∧ True ∧ (4 ≤ (f1 36 3).toInt ∧ (f1 36 3).toInt ≤ 4) ∧ (r, f1) = sX3_does_0_3_0_f0_f0 x2 f L))) 0 0 (sgA 52 h sz) := by
  sorry
set_option maxHeartbeats 4000000 in
set_option maxRecDepth 100000 in
theorem kX3_ownerOf_1_3 (l : Launch) (D : va_G) (ca : Nat → ClassId) (za h : Nat → Nat) (hh : sgH 52 h) (f : sg_F) (L : sg_L) (Q : sg_Q) (hI : sgI loX hiX f) (sz : Nat) : Met l yX3_ownerOf gwX3_ownerOf { frames := 0, cells := 0, slots := 0, locals := 0 } (sgP D vwCl (tyX ca) 52 h (eX ca h) zcX za f L Q sz [.int 1, .int 3]) (sgQi D vwCl 52 h (eX ca h) sz (fun r f1 L1 Q1 => ((f1 = f ∧ L1 = L ∧ Q1 = Q) ∧ (0 ≤ r.toInt ∧ r.toInt ≤ 0) ∧ (r) = sX3_ownerOf_1_3 f L))) 0 0 (sgA 52 h sz) := by
  sorry
set_option maxHeartbeats 4000000 in
set_option maxRecDepth 100000 in
theorem kX3_runs_1_m1_4_f4_f1 (l : Launch) (D : va_G) (ca : Nat → ClassId) (za h : Nat → Nat) (hh : sgH 52 h) (f : sg_F) (L : sg_L) (Q : sg_Q) (hI : sgI loX hiX f) (x2 : Int32) (hf_36_3 : f 36 3 = 4) (hf_36_4 : f 36 4 = 1) (p0 : 4 ≤ (f 36 3).toInt ∧ (f 36 3).toInt ≤ 4) (sz : Nat) : Met l yX3_runs gwX3_runs { frames := 0, cells := 0, slots := 0, locals := 0 } (sgP D vwCl (tyX ca) 52 h (eX ca h) zcX za f L Q sz [.ref (h 36), .int 1, .int (-1), .int x2, .int 4]) (sgQi D vwCl 52 h (eX ca h) sz (fun r f1 L1 Q1 => ((f1 = f ∧ L1 = L ∧ Q1 = Q) ∧ True ∧ (4 ≤ (f1 36 3).toInt ∧ (f1 36 3).toInt ≤ 4) ∧ (r) = sX3_runs_1_m1_4_f4_f1 x2 f L))) 0 0 (sgA 52 h sz) := by
  sorry
abbrev WkX3_does_0_0_3_f3_f1 : List (Nat × Nat × Option Nat) := [(36, 36, some 3), (38, 38, some 3)]
set_option maxHeartbeats 4000000 in
set_option maxRecDepth 100000 in
theorem kX3_does_0_0_3_f3_f1 (l : Launch) (D : va_G) (ca : Nat → ClassId) (za h : Nat → Nat) (hh : sgH 52 h) (f : sg_F) (L : sg_L) (Q : sg_Q) (hI : sgI loX hiX f) (x2 : Int32) (hf_36_3 : f 36 3 = 3) (hf_36_4 : f 36 4 = 1) (p0 : 3 ≤ (f 36 3).toInt ∧ (f 36 3).toInt ≤ 3) (sz : Nat) : Met l yX3_does gwX3_does { frames := 1, cells := 0, slots := 0, locals := 24 } (sgP D vwCl (tyX ca) 52 h (eX ca h) zcX za f L Q sz [.ref (h 36), .int 0, .int 0, .int x2, .int 3]) (sgQi D vwCl 52 h (eX ca h) sz (fun r f1 L1 Q1 => ((sgI loX hiX f1 ∧ sgK WkX3_does_0_0_3_f3_f1 f f1 ∧ L1 = L ∧ Q1 = Q) ∧ True ∧ (4 ≤ (f1 36 3).toInt ∧ (f1 36 3).toInt ≤ 4) ∧ (r, f1) = sX3_does_0_0_3_f3_f1 x2 f L))) 0 0 (sgA 52 h sz) := by
  sorry
abbrev WkX3_runs_20_0_3_f3_f1 : List (Nat × Nat × Option Nat) := [(36, 36, some 3), (38, 38, some 3)]
set_option maxHeartbeats 4000000 in
set_option maxRecDepth 100000 in
theorem kX3_runs_20_0_3_f3_f1 (l : Launch) (D : va_G) (ca : Nat → ClassId) (za h : Nat → Nat) (hh : sgH 52 h) (f : sg_F) (L : sg_L) (Q : sg_Q) (hI : sgI loX hiX f) (x2 : Int32) (hf_36_3 : f 36 3 = 3) (hf_36_4 : f 36 4 = 1) (p0 : 3 ≤ (f 36 3).toInt ∧ (f 36 3).toInt ≤ 3) (sz : Nat) : Met l yX3_runs gwX3_runs { frames := 2, cells := 0, slots := 0, locals := 50 } (sgP D vwCl (tyX ca) 52 h (eX ca h) zcX za f L Q sz [.ref (h 36), .int 20, .int 0, .int x2, .int 3]) (sgQi D vwCl 52 h (eX ca h) sz (fun r f1 L1 Q1 => ((sgI loX hiX f1 ∧ sgK WkX3_runs_20_0_3_f3_f1 f f1 ∧ L1 = L ∧ Q1 = Q) ∧ True ∧ (4 ≤ (f1 36 3).toInt ∧ (f1 36 3).toInt ≤ 4) ∧ (r, f1) = sX3_runs_20_0_3_f3_f1 x2 f L))) 0 0 (sgA 52 h sz) := by
  sorry
abbrev WkX3_does_1_0_2_f2_f1 : List (Nat × Nat × Option Nat) := [(36, 36, some 3), (38, 38, some 2), (38, 38, some 3)]
set_option maxHeartbeats 4000000 in
set_option maxRecDepth 100000 in
theorem kX3_does_1_0_2_f2_f1 (l : Launch) (D : va_G) (ca : Nat → ClassId) (za h : Nat → Nat) (hh : sgH 52 h) (f : sg_F) (L : sg_L) (Q : sg_Q) (hI : sgI loX hiX f) (x2 : Int32) (hf_36_3 : f 36 3 = 2) (hf_36_4 : f 36 4 = 1) (p0 : 2 ≤ (f 36 3).toInt ∧ (f 36 3).toInt ≤ 2) (sz : Nat) : Met l yX3_does gwX3_does { frames := 3, cells := 0, slots := 0, locals := 74 } (sgP D vwCl (tyX ca) 52 h (eX ca h) zcX za f L Q sz [.ref (h 36), .int 1, .int 0, .int x2, .int 2]) (sgQi D vwCl 52 h (eX ca h) sz (fun r f1 L1 Q1 => ((sgI loX hiX f1 ∧ sgK WkX3_does_1_0_2_f2_f1 f f1 ∧ L1 = L ∧ Q1 = Q) ∧ True ∧ (4 ≤ (f1 36 3).toInt ∧ (f1 36 3).toInt ≤ 4) ∧ (r, f1) = sX3_does_1_0_2_f2_f1 x2 f L))) 0 0 (sgA 52 h sz) := by
  sorry
abbrev WkX3_runs_10_m1_2_f2_f1 : List (Nat × Nat × Option Nat) := [(36, 36, some 3), (38, 38, some 2), (38, 38, some 3)]
set_option maxHeartbeats 4000000 in
set_option maxRecDepth 100000 in
theorem kX3_runs_10_m1_2_f2_f1 (l : Launch) (D : va_G) (ca : Nat → ClassId) (za h : Nat → Nat) (hh : sgH 52 h) (f : sg_F) (L : sg_L) (Q : sg_Q) (hI : sgI loX hiX f) (x2 : Int32) (hf_36_3 : f 36 3 = 2) (hf_36_4 : f 36 4 = 1) (p0 : 2 ≤ (f 36 3).toInt ∧ (f 36 3).toInt ≤ 2) (sz : Nat) : Met l yX3_runs gwX3_runs { frames := 4, cells := 0, slots := 0, locals := 100 } (sgP D vwCl (tyX ca) 52 h (eX ca h) zcX za f L Q sz [.ref (h 36), .int 10, .int (-1), .int x2, .int 2]) (sgQi D vwCl 52 h (eX ca h) sz (fun r f1 L1 Q1 => ((sgI loX hiX f1 ∧ sgK WkX3_runs_10_m1_2_f2_f1 f f1 ∧ L1 = L ∧ Q1 = Q) ∧ True ∧ (4 ≤ (f1 36 3).toInt ∧ (f1 36 3).toInt ≤ 4) ∧ (r, f1) = sX3_runs_10_m1_2_f2_f1 x2 f L))) 0 0 (sgA 52 h sz) := by
  sorry
abbrev WkX3_does_1_1_1_f1_f1 : List (Nat × Nat × Option Nat) := [(36, 36, some 3), (38, 38, some 1), (38, 38, some 2), (38, 38, some 3)]
set_option maxHeartbeats 4000000 in
set_option maxRecDepth 100000 in
theorem kX3_does_1_1_1_f1_f1 (l : Launch) (D : va_G) (ca : Nat → ClassId) (za h : Nat → Nat) (hh : sgH 52 h) (f : sg_F) (L : sg_L) (Q : sg_Q) (hI : sgI loX hiX f) (x2 : Int32) (hf_36_3 : f 36 3 = 1) (hf_36_4 : f 36 4 = 1) (p0 : 1 ≤ (f 36 3).toInt ∧ (f 36 3).toInt ≤ 1) (sz : Nat) : Met l yX3_does gwX3_does { frames := 5, cells := 0, slots := 0, locals := 124 } (sgP D vwCl (tyX ca) 52 h (eX ca h) zcX za f L Q sz [.ref (h 36), .int 1, .int 1, .int x2, .int 1]) (sgQi D vwCl 52 h (eX ca h) sz (fun r f1 L1 Q1 => ((sgI loX hiX f1 ∧ sgK WkX3_does_1_1_1_f1_f1 f f1 ∧ L1 = L ∧ Q1 = Q) ∧ True ∧ (4 ≤ (f1 36 3).toInt ∧ (f1 36 3).toInt ≤ 4) ∧ (r, f1) = sX3_does_1_1_1_f1_f1 x2 f L))) 0 0 (sgA 52 h sz) := by
  sorry
set_option maxHeartbeats 4000000 in
set_option maxRecDepth 100000 in
theorem kX3_runs_11_m1_2_f5_f1 (l : Launch) (D : va_G) (ca : Nat → ClassId) (za h : Nat → Nat) (hh : sgH 52 h) (f : sg_F) (L : sg_L) (Q : sg_Q) (hI : sgI loX hiX f) (x2 : Int32) (hf_36_3 : f 36 3 = 5) (hf_36_4 : f 36 4 = 1) (b2 : 1 ≤ x2.toInt ∧ x2.toInt ≤ 1) (p0 : 5 ≤ (f 36 3).toInt ∧ (f 36 3).toInt ≤ 5) (sz : Nat) : Met l yX3_runs gwX3_runs { frames := 0, cells := 0, slots := 0, locals := 0 } (sgP D vwCl (tyX ca) 52 h (eX ca h) zcX za f L Q sz [.ref (h 36), .int 11, .int (-1), .int x2, .int 2]) (sgQi D vwCl 52 h (eX ca h) sz (fun r f1 L1 Q1 => ((f1 = f ∧ L1 = L ∧ Q1 = Q) ∧ True ∧ (5 ≤ (f1 36 3).toInt ∧ (f1 36 3).toInt ≤ 5) ∧ (r) = sX3_runs_11_m1_2_f5_f1 x2 f L))) 0 0 (sgA 52 h sz) := by
  sorry
abbrev WkX3_does_1_2_1_f4_f1 : List (Nat × Nat × Option Nat) := [(36, 36, some 3), (38, 38, some 4)]
set_option maxHeartbeats 4000000 in
set_option maxRecDepth 100000 in
theorem kX3_does_1_2_1_f4_f1 (l : Launch) (D : va_G) (ca : Nat → ClassId) (za h : Nat → Nat) (hh : sgH 52 h) (f : sg_F) (L : sg_L) (Q : sg_Q) (hI : sgI loX hiX f) (x2 : Int32) (hf_36_3 : f 36 3 = 4) (hf_36_4 : f 36 4 = 1) (b2 : 1 ≤ x2.toInt ∧ x2.toInt ≤ 1) (p0 : 4 ≤ (f 36 3).toInt ∧ (f 36 3).toInt ≤ 4) (sz : Nat) : Met l yX3_does gwX3_does { frames := 1, cells := 0, slots := 0, locals := 24 } (sgP D vwCl (tyX ca) 52 h (eX ca h) zcX za f L Q sz [.ref (h 36), .int 1, .int 2, .int x2, .int 1]) (sgQi D vwCl 52 h (eX ca h) sz (fun r f1 L1 Q1 => ((sgI loX hiX f1 ∧ sgK WkX3_does_1_2_1_f4_f1 f f1 ∧ L1 = L ∧ Q1 = Q) ∧ True ∧ (5 ≤ (f1 36 3).toInt ∧ (f1 36 3).toInt ≤ 5) ∧ (r, f1) = sX3_does_1_2_1_f4_f1 x2 f L))) 0 0 (sgA 52 h sz) := by
  sorry
abbrev WkX3_runs_2_m1_1_f1_f1 : List (Nat × Nat × Option Nat) := [(36, 36, some 3), (38, 38, some 1), (38, 38, some 2), (38, 38, some 3), (38, 38, some 4)]
set_option maxHeartbeats 4000000 in
set_option maxRecDepth 100000 in
theorem kX3_runs_2_m1_1_f1_f1 (l : Launch) (D : va_G) (ca : Nat → ClassId) (za h : Nat → Nat) (hh : sgH 52 h) (f : sg_F) (L : sg_L) (Q : sg_Q) (hI : sgI loX hiX f) (x2 : Int32) (hf_36_3 : f 36 3 = 1) (hf_36_4 : f 36 4 = 1) (p0 : 1 ≤ (f 36 3).toInt ∧ (f 36 3).toInt ≤ 1) (sz : Nat) : Met l yX3_runs gwX3_runs { frames := 6, cells := 0, slots := 0, locals := 150 } (sgP D vwCl (tyX ca) 52 h (eX ca h) zcX za f L Q sz [.ref (h 36), .int 2, .int (-1), .int x2, .int 1]) (sgQi D vwCl 52 h (eX ca h) sz (fun r f1 L1 Q1 => ((sgI loX hiX f1 ∧ sgK WkX3_runs_2_m1_1_f1_f1 f f1 ∧ L1 = L ∧ Q1 = Q) ∧ True ∧ (5 ≤ (f1 36 3).toInt ∧ (f1 36 3).toInt ≤ 5) ∧ (r, f1) = sX3_runs_2_m1_1_f1_f1 x2 f L))) 0 0 (sgA 52 h sz) := by
  sorry
abbrev WkX3_does_1_3_0_f0_f1 : List (Nat × Nat × Option Nat) := [(36, 36, some 3), (38, 38, some 0), (38, 38, some 1), (38, 38, some 2), (38, 38, some 3), (38, 38, some 4)]
set_option maxHeartbeats 4000000 in
set_option maxRecDepth 100000 in
theorem kX3_does_1_3_0_f0_f1 (l : Launch) (D : va_G) (ca : Nat → ClassId) (za h : Nat → Nat) (hh : sgH 52 h) (f : sg_F) (L : sg_L) (Q : sg_Q) (hI : sgI loX hiX f) (x2 : Int32) (hf_36_3 : f 36 3 = 0) (hf_36_4 : f 36 4 = 1) (p0 : 0 ≤ (f 36 3).toInt ∧ (f 36 3).toInt ≤ 0) (sz : Nat) : Met l yX3_does gwX3_does { frames := 7, cells := 0, slots := 0, locals := 174 } (sgP D vwCl (tyX ca) 52 h (eX ca h) zcX za f L Q sz [.ref (h 36), .int 1, .int 3, .int x2, .int 0]) (sgQi D vwCl 52 h (eX ca h) sz (fun r f1 L1 Q1 => ((sgI loX hiX f1 ∧ sgK WkX3_does_1_3_0_f0_f1 f f1 ∧ L1 = L ∧ Q1 = Q) ∧ True ∧ (5 ≤ (f1 36 3).toInt ∧ (f1 36 3).toInt ≤ 5) ∧ (r, f1) = sX3_does_1_3_0_f0_f1 x2 f L))) 0 0 (sgA 52 h sz) := by
  sorry
set_option maxHeartbeats 4000000 in
set_option maxRecDepth 100000 in
theorem kX3_ownerOf_2_3 (l : Launch) (D : va_G) (ca : Nat → ClassId) (za h : Nat → Nat) (hh : sgH 52 h) (f : sg_F) (L : sg_L) (Q : sg_Q) (hI : sgI loX hiX f) (sz : Nat) : Met l yX3_ownerOf gwX3_ownerOf { frames := 0, cells := 0, slots := 0, locals := 0 } (sgP D vwCl (tyX ca) 52 h (eX ca h) zcX za f L Q sz [.int 2, .int 3]) (sgQi D vwCl 52 h (eX ca h) sz (fun r f1 L1 Q1 => ((f1 = f ∧ L1 = L ∧ Q1 = Q) ∧ (0 ≤ r.toInt ∧ r.toInt ≤ 0) ∧ (r) = sX3_ownerOf_2_3 f L))) 0 0 (sgA 52 h sz) := by
  sorry
set_option maxHeartbeats 4000000 in
set_option maxRecDepth 100000 in
theorem kX3_runs_1_m1_4_f4_f2 (l : Launch) (D : va_G) (ca : Nat → ClassId) (za h : Nat → Nat) (hh : sgH 52 h) (f : sg_F) (L : sg_L) (Q : sg_Q) (hI : sgI loX hiX f) (x2 : Int32) (hf_36_3 : f 36 3 = 4) (hf_36_4 : f 36 4 = 2) (p0 : 4 ≤ (f 36 3).toInt ∧ (f 36 3).toInt ≤ 4) (sz : Nat) : Met l yX3_runs gwX3_runs { frames := 0, cells := 0, slots := 0, locals := 0 } (sgP D vwCl (tyX ca) 52 h (eX ca h) zcX za f L Q sz [.ref (h 36), .int 1, .int (-1), .int x2, .int 4]) (sgQi D vwCl 52 h (eX ca h) sz (fun r f1 L1 Q1 => ((f1 = f ∧ L1 = L ∧ Q1 = Q) ∧ True ∧ (4 ≤ (f1 36 3).toInt ∧ (f1 36 3).toInt ≤ 4) ∧ (r) = sX3_runs_1_m1_4_f4_f2 x2 f L))) 0 0 (sgA 52 h sz) := by
  sorry
abbrev WkX3_does_2_0_3_f3_f2 : List (Nat × Nat × Option Nat) := [(36, 36, some 3), (38, 38, some 3)]
set_option maxHeartbeats 4000000 in
set_option maxRecDepth 100000 in
theorem kX3_does_2_0_3_f3_f2 (l : Launch) (D : va_G) (ca : Nat → ClassId) (za h : Nat → Nat) (hh : sgH 52 h) (f : sg_F) (L : sg_L) (Q : sg_Q) (hI : sgI loX hiX f) (x2 : Int32) (hf_36_3 : f 36 3 = 3) (hf_36_4 : f 36 4 = 2) (p0 : 3 ≤ (f 36 3).toInt ∧ (f 36 3).toInt ≤ 3) (sz : Nat) : Met l yX3_does gwX3_does { frames := 1, cells := 0, slots := 0, locals := 24 } (sgP D vwCl (tyX ca) 52 h (eX ca h) zcX za f L Q sz [.ref (h 36), .int 2, .int 0, .int x2, .int 3]) (sgQi D vwCl 52 h (eX ca h) sz (fun r f1 L1 Q1 => ((sgI loX hiX f1 ∧ sgK WkX3_does_2_0_3_f3_f2 f f1 ∧ L1 = L ∧ Q1 = Q) ∧ True ∧ (4 ≤ (f1 36 3).toInt ∧ (f1 36 3).toInt ≤ 4) ∧ (r, f1) = sX3_does_2_0_3_f3_f2 x2 f L))) 0 0 (sgA 52 h sz) := by
  sorry
abbrev WkX3_runs_10_m1_3_f3_f2 : List (Nat × Nat × Option Nat) := [(36, 36, some 3), (38, 38, some 3)]
set_option maxHeartbeats 4000000 in
set_option maxRecDepth 100000 in
theorem kX3_runs_10_m1_3_f3_f2 (l : Launch) (D : va_G) (ca : Nat → ClassId) (za h : Nat → Nat) (hh : sgH 52 h) (f : sg_F) (L : sg_L) (Q : sg_Q) (hI : sgI loX hiX f) (x2 : Int32) (hf_36_3 : f 36 3 = 3) (hf_36_4 : f 36 4 = 2) (p0 : 3 ≤ (f 36 3).toInt ∧ (f 36 3).toInt ≤ 3) (sz : Nat) : Met l yX3_runs gwX3_runs { frames := 2, cells := 0, slots := 0, locals := 50 } (sgP D vwCl (tyX ca) 52 h (eX ca h) zcX za f L Q sz [.ref (h 36), .int 10, .int (-1), .int x2, .int 3]) (sgQi D vwCl 52 h (eX ca h) sz (fun r f1 L1 Q1 => ((sgI loX hiX f1 ∧ sgK WkX3_runs_10_m1_3_f3_f2 f f1 ∧ L1 = L ∧ Q1 = Q) ∧ True ∧ (4 ≤ (f1 36 3).toInt ∧ (f1 36 3).toInt ≤ 4) ∧ (r, f1) = sX3_runs_10_m1_3_f3_f2 x2 f L))) 0 0 (sgA 52 h sz) := by
  sorry
abbrev WkX3_does_0_1_2_f2_f2 : List (Nat × Nat × Option Nat) := [(36, 36, some 3), (38, 38, some 2), (38, 38, some 3)]
set_option maxHeartbeats 4000000 in
set_option maxRecDepth 100000 in
theorem kX3_does_0_1_2_f2_f2 (l : Launch) (D : va_G) (ca : Nat → ClassId) (za h : Nat → Nat) (hh : sgH 52 h) (f : sg_F) (L : sg_L) (Q : sg_Q) (hI : sgI loX hiX f) (x2 : Int32) (hf_36_3 : f 36 3 = 2) (hf_36_4 : f 36 4 = 2) (p0 : 2 ≤ (f 36 3).toInt ∧ (f 36 3).toInt ≤ 2) (sz : Nat) : Met l yX3_does gwX3_does { frames := 3, cells := 0, slots := 0, locals := 74 } (sgP D vwCl (tyX ca) 52 h (eX ca h) zcX za f L Q sz [.ref (h 36), .int 0, .int 1, .int x2, .int 2]) (sgQi D vwCl 52 h (eX ca h) sz (fun r f1 L1 Q1 => ((sgI loX hiX f1 ∧ sgK WkX3_does_0_1_2_f2_f2 f f1 ∧ L1 = L ∧ Q1 = Q) ∧ True ∧ (4 ≤ (f1 36 3).toInt ∧ (f1 36 3).toInt ≤ 4) ∧ (r, f1) = sX3_does_0_1_2_f2_f2 x2 f L))) 0 0 (sgA 52 h sz) := by
  sorry
abbrev WkX3_runs_30_0_2_f2_f2 : List (Nat × Nat × Option Nat) := [(36, 36, some 3), (38, 38, some 2), (38, 38, some 3)]
set_option maxHeartbeats 4000000 in
set_option maxRecDepth 100000 in
theorem kX3_runs_30_0_2_f2_f2 (l : Launch) (D : va_G) (ca : Nat → ClassId) (za h : Nat → Nat) (hh : sgH 52 h) (f : sg_F) (L : sg_L) (Q : sg_Q) (hI : sgI loX hiX f) (x2 : Int32) (hf_36_3 : f 36 3 = 2) (hf_36_4 : f 36 4 = 2) (p0 : 2 ≤ (f 36 3).toInt ∧ (f 36 3).toInt ≤ 2) (sz : Nat) : Met l yX3_runs gwX3_runs { frames := 4, cells := 0, slots := 0, locals := 100 } (sgP D vwCl (tyX ca) 52 h (eX ca h) zcX za f L Q sz [.ref (h 36), .int 30, .int 0, .int x2, .int 2]) (sgQi D vwCl 52 h (eX ca h) sz (fun r f1 L1 Q1 => ((sgI loX hiX f1 ∧ sgK WkX3_runs_30_0_2_f2_f2 f f1 ∧ L1 = L ∧ Q1 = Q) ∧ True ∧ (4 ≤ (f1 36 3).toInt ∧ (f1 36 3).toInt ≤ 4) ∧ (r, f1) = sX3_runs_30_0_2_f2_f2 x2 f L))) 0 0 (sgA 52 h sz) := by
  sorry
abbrev WkX3_does_2_1_1_f1_f2 : List (Nat × Nat × Option Nat) := [(36, 36, some 3), (38, 38, some 1), (38, 38, some 2), (38, 38, some 3)]
set_option maxHeartbeats 4000000 in
set_option maxRecDepth 100000 in
theorem kX3_does_2_1_1_f1_f2 (l : Launch) (D : va_G) (ca : Nat → ClassId) (za h : Nat → Nat) (hh : sgH 52 h) (f : sg_F) (L : sg_L) (Q : sg_Q) (hI : sgI loX hiX f) (x2 : Int32) (hf_36_3 : f 36 3 = 1) (hf_36_4 : f 36 4 = 2) (p0 : 1 ≤ (f 36 3).toInt ∧ (f 36 3).toInt ≤ 1) (sz : Nat) : Met l yX3_does gwX3_does { frames := 5, cells := 0, slots := 0, locals := 124 } (sgP D vwCl (tyX ca) 52 h (eX ca h) zcX za f L Q sz [.ref (h 36), .int 2, .int 1, .int x2, .int 1]) (sgQi D vwCl 52 h (eX ca h) sz (fun r f1 L1 Q1 => ((sgI loX hiX f1 ∧ sgK WkX3_does_2_1_1_f1_f2 f f1 ∧ L1 = L ∧ Q1 = Q) ∧ True ∧ (4 ≤ (f1 36 3).toInt ∧ (f1 36 3).toInt ≤ 4) ∧ (r, f1) = sX3_does_2_1_1_f1_f2 x2 f L))) 0 0 (sgA 52 h sz) := by
  sorry
set_option maxHeartbeats 4000000 in
set_option maxRecDepth 100000 in
theorem kX3_runs_11_m1_2_f5_f2 (l : Launch) (D : va_G) (ca : Nat → ClassId) (za h : Nat → Nat) (hh : sgH 52 h) (f : sg_F) (L : sg_L) (Q : sg_Q) (hI : sgI loX hiX f) (x2 : Int32) (hf_36_3 : f 36 3 = 5) (hf_36_4 : f 36 4 = 2) (b2 : 1 ≤ x2.toInt ∧ x2.toInt ≤ 1) (p0 : 5 ≤ (f 36 3).toInt ∧ (f 36 3).toInt ≤ 5) (sz : Nat) : Met l yX3_runs gwX3_runs { frames := 0, cells := 0, slots := 0, locals := 0 } (sgP D vwCl (tyX ca) 52 h (eX ca h) zcX za f L Q sz [.ref (h 36), .int 11, .int (-1), .int x2, .int 2]) (sgQi D vwCl 52 h (eX ca h) sz (fun r f1 L1 Q1 => ((f1 = f ∧ L1 = L ∧ Q1 = Q) ∧ True ∧ (5 ≤ (f1 36 3).toInt ∧ (f1 36 3).toInt ≤ 5) ∧ (r) = sX3_runs_11_m1_2_f5_f2 x2 f L))) 0 0 (sgA 52 h sz) := by
  sorry
abbrev WkX3_does_2_2_1_f4_f2 : List (Nat × Nat × Option Nat) := [(36, 36, some 3), (38, 38, some 4)]
set_option maxHeartbeats 4000000 in
set_option maxRecDepth 100000 in
theorem kX3_does_2_2_1_f4_f2 (l : Launch) (D : va_G) (ca : Nat → ClassId) (za h : Nat → Nat) (hh : sgH 52 h) (f : sg_F) (L : sg_L) (Q : sg_Q) (hI : sgI loX hiX f) (x2 : Int32) (hf_36_3 : f 36 3 = 4) (hf_36_4 : f 36 4 = 2) (b2 : 1 ≤ x2.toInt ∧ x2.toInt ≤ 1) (p0 : 4 ≤ (f 36 3).toInt ∧ (f 36 3).toInt ≤ 4) (sz : Nat) : Met l yX3_does gwX3_does { frames := 1, cells := 0, slots := 0, locals := 24 } (sgP D vwCl (tyX ca) 52 h (eX ca h) zcX za f L Q sz [.ref (h 36), .int 2, .int 2, .int x2, .int 1]) (sgQi D vwCl 52 h (eX ca h) sz (fun r f1 L1 Q1 => ((sgI loX hiX f1 ∧ sgK WkX3_does_2_2_1_f4_f2 f f1 ∧ L1 = L ∧ Q1 = Q) ∧ True ∧ (5 ≤ (f1 36 3).toInt ∧ (f1 36 3).toInt ≤ 5) ∧ (r, f1) = sX3_does_2_2_1_f4_f2 x2 f L))) 0 0 (sgA 52 h sz) := by
  sorry
abbrev WkX3_runs_2_m1_1_f1_f2 : List (Nat × Nat × Option Nat) := [(36, 36, some 3), (38, 38, some 1), (38, 38, some 2), (38, 38, some 3), (38, 38, some 4)]
set_option maxHeartbeats 4000000 in
set_option maxRecDepth 100000 in
theorem kX3_runs_2_m1_1_f1_f2 (l : Launch) (D : va_G) (ca : Nat → ClassId) (za h : Nat → Nat) (hh : sgH 52 h) (f : sg_F) (L : sg_L) (Q : sg_Q) (hI : sgI loX hiX f) (x2 : Int32) (hf_36_3 : f 36 3 = 1) (hf_36_4 : f 36 4 = 2) (p0 : 1 ≤ (f 36 3).toInt ∧ (f 36 3).toInt ≤ 1) (sz : Nat) : Met l yX3_runs gwX3_runs { frames := 6, cells := 0, slots := 0, locals := 150 } (sgP D vwCl (tyX ca) 52 h (eX ca h) zcX za f L Q sz [.ref (h 36), .int 2, .int (-1), .int x2, .int 1]) (sgQi D vwCl 52 h (eX ca h) sz (fun r f1 L1 Q1 => ((sgI loX hiX f1 ∧ sgK WkX3_runs_2_m1_1_f1_f2 f f1 ∧ L1 = L ∧ Q1 = Q) ∧ True ∧ (5 ≤ (f1 36 3).toInt ∧ (f1 36 3).toInt ≤ 5) ∧ (r, f1) = sX3_runs_2_m1_1_f1_f2 x2 f L))) 0 0 (sgA 52 h sz) := by
  sorry
abbrev WkX3_does_2_3_0_f0_f2 : List (Nat × Nat × Option Nat) := [(36, 36, some 3), (38, 38, some 0), (38, 38, some 1), (38, 38, some 2), (38, 38, some 3), (38, 38, some 4)]
set_option maxHeartbeats 4000000 in
set_option maxRecDepth 100000 in
theorem kX3_does_2_3_0_f0_f2 (l : Launch) (D : va_G) (ca : Nat → ClassId) (za h : Nat → Nat) (hh : sgH 52 h) (f : sg_F) (L : sg_L) (Q : sg_Q) (hI : sgI loX hiX f) (x2 : Int32) (hf_36_3 : f 36 3 = 0) (hf_36_4 : f 36 4 = 2) (p0 : 0 ≤ (f 36 3).toInt ∧ (f 36 3).toInt ≤ 0) (sz : Nat) : Met l yX3_does gwX3_does { frames := 7, cells := 0, slots := 0, locals := 174 } (sgP D vwCl (tyX ca) 52 h (eX ca h) zcX za f L Q sz [.ref (h 36), .int 2, .int 3, .int x2, .int 0]) (sgQi D vwCl 52 h (eX ca h) sz (fun r f1 L1 Q1 => ((sgI loX hiX f1 ∧ sgK WkX3_does_2_3_0_f0_f2 f f1 ∧ L1 = L ∧ Q1 = Q) ∧ True ∧ (5 ≤ (f1 36 3).toInt ∧ (f1 36 3).toInt ≤ 5) ∧ (r, f1) = sX3_does_2_3_0_f0_f2 x2 f L))) 0 0 (sgA 52 h sz) := by
  sorry
set_option maxHeartbeats 4000000 in
set_option maxRecDepth 100000 in
theorem kX3_ownerOf_3_3 (l : Launch) (D : va_G) (ca : Nat → ClassId) (za h : Nat → Nat) (hh : sgH 52 h) (f : sg_F) (L : sg_L) (Q : sg_Q) (hI : sgI loX hiX f) (sz : Nat) : Met l yX3_ownerOf gwX3_ownerOf { frames := 0, cells := 0, slots := 0, locals := 0 } (sgP D vwCl (tyX ca) 52 h (eX ca h) zcX za f L Q sz [.int 3, .int 3]) (sgQi D vwCl 52 h (eX ca h) sz (fun r f1 L1 Q1 => ((f1 = f ∧ L1 = L ∧ Q1 = Q) ∧ (0 ≤ r.toInt ∧ r.toInt ≤ 0) ∧ (r) = sX3_ownerOf_3_3 f L))) 0 0 (sgA 52 h sz) := by
  sorry
set_option maxHeartbeats 4000000 in
set_option maxRecDepth 100000 in
theorem kX3_runs_1_m1_5_f5_f3 (l : Launch) (D : va_G) (ca : Nat → ClassId) (za h : Nat → Nat) (hh : sgH 52 h) (f : sg_F) (L : sg_L) (Q : sg_Q) (hI : sgI loX hiX f) (x2 : Int32) (hf_36_3 : f 36 3 = 5) (hf_36_4 : f 36 4 = 3) (p0 : 5 ≤ (f 36 3).toInt ∧ (f 36 3).toInt ≤ 5) (sz : Nat) : Met l yX3_runs gwX3_runs { frames := 0, cells := 0, slots := 0, locals := 0 } (sgP D vwCl (tyX ca) 52 h (eX ca h) zcX za f L Q sz [.ref (h 36), .int 1, .int (-1), .int x2, .int 5]) (sgQi D vwCl 52 h (eX ca h) sz (fun r f1 L1 Q1 => ((f1 = f ∧ L1 = L ∧ Q1 = Q) ∧ True ∧ (5 ≤ (f1 36 3).toInt ∧ (f1 36 3).toInt ≤ 5) ∧ (r) = sX3_runs_1_m1_5_f5_f3 x2 f L))) 0 0 (sgA 52 h sz) := by
  sorry
abbrev WkX3_does_3_0_4_f4_f3 : List (Nat × Nat × Option Nat) := [(36, 36, some 3), (38, 38, some 4)]
set_option maxHeartbeats 4000000 in
set_option maxRecDepth 100000 in
theorem kX3_does_3_0_4_f4_f3 (l : Launch) (D : va_G) (ca : Nat → ClassId) (za h : Nat → Nat) (hh : sgH 52 h) (f : sg_F) (L : sg_L) (Q : sg_Q) (hI : sgI loX hiX f) (x2 : Int32) (hf_36_3 : f 36 3 = 4) (hf_36_4 : f 36 4 = 3) (p0 : 4 ≤ (f 36 3).toInt ∧ (f 36 3).toInt ≤ 4) (sz : Nat) : Met l yX3_does gwX3_does { frames := 1, cells := 0, slots := 0, locals := 24 } (sgP D vwCl (tyX ca) 52 h (eX ca h) zcX za f L Q sz [.ref (h 36), .int 3, .int 0, .int x2, .int 4]) (sgQi D vwCl 52 h (eX ca h) sz (fun r f1 L1 Q1 => ((sgI loX hiX f1 ∧ sgK WkX3_does_3_0_4_f4_f3 f f1 ∧ L1 = L ∧ Q1 = Q) ∧ True ∧ (5 ≤ (f1 36 3).toInt ∧ (f1 36 3).toInt ≤ 5) ∧ (r, f1) = sX3_does_3_0_4_f4_f3 x2 f L))) 0 0 (sgA 52 h sz) := by
  sorry
abbrev WkX3_runs_10_m1_4_f4_f3 : List (Nat × Nat × Option Nat) := [(36, 36, some 3), (38, 38, some 4)]
set_option maxHeartbeats 4000000 in
set_option maxRecDepth 100000 in
theorem kX3_runs_10_m1_4_f4_f3 (l : Launch) (D : va_G) (ca : Nat → ClassId) (za h : Nat → Nat) (hh : sgH 52 h) (f : sg_F) (L : sg_L) (Q : sg_Q) (hI : sgI loX hiX f) (x2 : Int32) (hf_36_3 : f 36 3 = 4) (hf_36_4 : f 36 4 = 3) (p0 : 4 ≤ (f 36 3).toInt ∧ (f 36 3).toInt ≤ 4) (sz : Nat) : Met l yX3_runs gwX3_runs { frames := 2, cells := 0, slots := 0, locals := 50 } (sgP D vwCl (tyX ca) 52 h (eX ca h) zcX za f L Q sz [.ref (h 36), .int 10, .int (-1), .int x2, .int 4]) (sgQi D vwCl 52 h (eX ca h) sz (fun r f1 L1 Q1 => ((sgI loX hiX f1 ∧ sgK WkX3_runs_10_m1_4_f4_f3 f f1 ∧ L1 = L ∧ Q1 = Q) ∧ True ∧ (5 ≤ (f1 36 3).toInt ∧ (f1 36 3).toInt ≤ 5) ∧ (r, f1) = sX3_runs_10_m1_4_f4_f3 x2 f L))) 0 0 (sgA 52 h sz) := by
  sorry
abbrev WkX3_does_0_1_3_f3_f3 : List (Nat × Nat × Option Nat) := [(36, 36, some 3), (38, 38, some 3), (38, 38, some 4)]
set_option maxHeartbeats 4000000 in
set_option maxRecDepth 100000 in
theorem kX3_does_0_1_3_f3_f3 (l : Launch) (D : va_G) (ca : Nat → ClassId) (za h : Nat → Nat) (hh : sgH 52 h) (f : sg_F) (L : sg_L) (Q : sg_Q) (hI : sgI loX hiX f) (x2 : Int32) (hf_36_3 : f 36 3 = 3) (hf_36_4 : f 36 4 = 3) (p0 : 3 ≤ (f 36 3).toInt ∧ (f 36 3).toInt ≤ 3) (sz : Nat) : Met l yX3_does gwX3_does { frames := 3, cells := 0, slots := 0, locals := 74 } (sgP D vwCl (tyX ca) 52 h (eX ca h) zcX za f L Q sz [.ref (h 36), .int 0, .int 1, .int x2, .int 3]) (sgQi D vwCl 52 h (eX ca h) sz (fun r f1 L1 Q1 => ((sgI loX hiX f1 ∧ sgK WkX3_does_0_1_3_f3_f3 f f1 ∧ L1 = L ∧ Q1 = Q) ∧ True ∧ (5 ≤ (f1 36 3).toInt ∧ (f1 36 3).toInt ≤ 5) ∧ (r, f1) = sX3_does_0_1_3_f3_f3 x2 f L))) 0 0 (sgA 52 h sz) := by
  sorry
abbrev WkX3_runs_30_0_3_f3_f3 : List (Nat × Nat × Option Nat) := [(36, 36, some 3), (38, 38, some 3), (38, 38, some 4)]
set_option maxHeartbeats 4000000 in
set_option maxRecDepth 100000 in
theorem kX3_runs_30_0_3_f3_f3 (l : Launch) (D : va_G) (ca : Nat → ClassId) (za h : Nat → Nat) (hh : sgH 52 h) (f : sg_F) (L : sg_L) (Q : sg_Q) (hI : sgI loX hiX f) (x2 : Int32) (hf_36_3 : f 36 3 = 3) (hf_36_4 : f 36 4 = 3) (p0 : 3 ≤ (f 36 3).toInt ∧ (f 36 3).toInt ≤ 3) (sz : Nat) : Met l yX3_runs gwX3_runs { frames := 4, cells := 0, slots := 0, locals := 100 } (sgP D vwCl (tyX ca) 52 h (eX ca h) zcX za f L Q sz [.ref (h 36), .int 30, .int 0, .int x2, .int 3]) (sgQi D vwCl 52 h (eX ca h) sz (fun r f1 L1 Q1 => ((sgI loX hiX f1 ∧ sgK WkX3_runs_30_0_3_f3_f3 f f1 ∧ L1 = L ∧ Q1 = Q) ∧ True ∧ (5 ≤ (f1 36 3).toInt ∧ (f1 36 3).toInt ≤ 5) ∧ (r, f1) = sX3_runs_30_0_3_f3_f3 x2 f L))) 0 0 (sgA 52 h sz) := by
  sorry
abbrev WkX3_does_2_1_2_f2_f3 : List (Nat × Nat × Option Nat) := [(36, 36, some 3), (38, 38, some 2), (38, 38, some 3), (38, 38, some 4)]
set_option maxHeartbeats 4000000 in
set_option maxRecDepth 100000 in
theorem kX3_does_2_1_2_f2_f3 (l : Launch) (D : va_G) (ca : Nat → ClassId) (za h : Nat → Nat) (hh : sgH 52 h) (f : sg_F) (L : sg_L) (Q : sg_Q) (hI : sgI loX hiX f) (x2 : Int32) (hf_36_3 : f 36 3 = 2) (hf_36_4 : f 36 4 = 3) (p0 : 2 ≤ (f 36 3).toInt ∧ (f 36 3).toInt ≤ 2) (sz : Nat) : Met l yX3_does gwX3_does { frames := 5, cells := 0, slots := 0, locals := 124 } (sgP D vwCl (tyX ca) 52 h (eX ca h) zcX za f L Q sz [.ref (h 36), .int 2, .int 1, .int x2, .int 2]) (sgQi D vwCl 52 h (eX ca h) sz (fun r f1 L1 Q1 => ((sgI loX hiX f1 ∧ sgK WkX3_does_2_1_2_f2_f3 f f1 ∧ L1 = L ∧ Q1 = Q) ∧ True ∧ (5 ≤ (f1 36 3).toInt ∧ (f1 36 3).toInt ≤ 5) ∧ (r, f1) = sX3_does_2_1_2_f2_f3 x2 f L))) 0 0 (sgA 52 h sz) := by
  sorry
