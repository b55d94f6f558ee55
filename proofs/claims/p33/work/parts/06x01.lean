/-! contracts of any state. Laid by a program (wip/tool) -/
set_option maxHeartbeats 4000000 in
set_option maxRecDepth 100000 in
theorem kX11_isSetting (l : Launch) (D : va_G) (ca : Nat → ClassId) (za h : Nat → Nat) (hh : sgH 52 h) (f : sg_F) (L : sg_L) (Q : sg_Q) (hI : sgI loX hiX f) (x0 : Int32) (sz : Nat) : Met l yX11_isSetting gwX11_isSetting { frames := 0, cells := 0, slots := 0, locals := 0 } (sgP D vwCl (tyX ca) 52 h (eX ca h) zcX za f L Q sz [.int x0]) (sgQi D vwCl 52 h (eX ca h) sz (fun r f1 L1 Q1 => ((f1 = f ∧ L1 = L ∧ Q1 = Q) ∧ ((r = 1 ∧ (0 ≤ x0.toInt ∧ x0.toInt ≤ 60)) ∨ (r = 0 ∧ (¬ (0 ≤ x0.toInt ∧ x0.toInt ≤ 60)))) ∧ (r) = sX11_isSetting x0 f L))) 0 0 (sgA 52 h sz) := by
  sorry
set_option maxHeartbeats 4000000 in
set_option maxRecDepth 100000 in
theorem kX11_fits (l : Launch) (D : va_G) (ca : Nat → ClassId) (za h : Nat → Nat) (hh : sgH 52 h) (f : sg_F) (L : sg_L) (Q : sg_Q) (hI : sgI loX hiX f) (x0 : Int32) (x1 : Int32) (sz : Nat) : Met l yX11_fits gwX11_fits { frames := 0, cells := 0, slots := 0, locals := 0 } (sgP D vwCl (tyX ca) 52 h (eX ca h) zcX za f L Q sz [.int x0, .int x1]) (sgQi D vwCl 52 h (eX ca h) sz (fun r f1 L1 Q1 => ((f1 = f ∧ L1 = L ∧ Q1 = Q) ∧ ((r = 1 ∧ (0 ≤ x0.toInt ∧ x0.toInt ≤ 10 ∧ 0 ≤ x1.toInt ∧ x1.toInt ≤ 99 ∧ (x0.toInt ≠ 10 → x1.toInt ≤ 60))) ∨ (r = 0 ∧ (True))) ∧ (r) = sX11_fits x0 x1 f L))) 0 0 (sgA 52 h sz) := by
  sorry
abbrev WkX0_forget : List (Nat × Nat × Option Nat) := [(9, 9, none)]
set_option maxHeartbeats 4000000 in
set_option maxRecDepth 100000 in
theorem kX0_forget (l : Launch) (D : va_G) (ca : Nat → ClassId) (za h : Nat → Nat) (hh : sgH 52 h) (f : sg_F) (L : sg_L) (Q : sg_Q) (hI : sgI loX hiX f) (x0 : Int32) (b0 : 0 ≤ x0.toInt ∧ x0.toInt ≤ 7) (sz : Nat) : Met l yX0_forget gwX0_forget { frames := 0, cells := 0, slots := 0, locals := 0 } (sgP D vwCl (tyX ca) 52 h (eX ca h) zcX za f L Q sz [.ref (h 1), .int x0]) (sgQv D vwCl 52 h (eX ca h) sz (fun f1 L1 Q1 => ((sgI loX hiX f1 ∧ sgK WkX0_forget f f1 ∧ L1 = L ∧ Q1 = Q) ∧ (f1) = sX0_forget x0 f L))) 0 0 (sgA 52 h sz) := by
  sorry
abbrev WkX0_comes : List (Nat × Nat × Option Nat) := [(1, 1, some 3), (2, 2, none), (9, 9, none)]
set_option maxHeartbeats 4000000 in
set_option maxRecDepth 100000 in
theorem kX0_comes (l : Launch) (D : va_G) (ca : Nat → ClassId) (za h : Nat → Nat) (hh : sgH 52 h) (f : sg_F) (L : sg_L) (Q : sg_Q) (hI : sgI loX hiX f) (x0 : Int32) (x1 : Int32) (x2 : Int32) (x3 : Int32) (b0 : 0 ≤ x0.toInt ∧ x0.toInt ≤ 60) (b1 : 0 ≤ x1.toInt ∧ x1.toInt ≤ 60) (b2 : 0 ≤ x2.toInt ∧ x2.toInt ≤ 60) (b3 : 0 ≤ x3.toInt ∧ x3.toInt ≤ 60) (sz : Nat) : Met l yX0_comes gwX0_comes { frames := 1, cells := 0, slots := 0, locals := 23 } (sgP D vwCl (tyX ca) 52 h (eX ca h) zcX za f L Q sz [.ref (h 1), .int x0, .int x1, .int x2, .int x3]) (sgQi D vwCl 52 h (eX ca h) sz (fun r f1 L1 Q1 => ((sgI loX hiX f1 ∧ sgK WkX0_comes f f1 ∧ L1 = L ∧ Q1 = Q) ∧ ((-3) ≤ r.toInt ∧ r.toInt ≤ 7) ∧ (r, f1) = sX0_comes x0 x1 x2 x3 f L))) 0 0 (sgA 52 h sz) := by
  sorry
abbrev WkX11_sitter : List (Nat × Nat × Option Nat) := [(1, 1, some 3), (2, 2, none), (9, 9, none)]
set_option maxHeartbeats 4000000 in
set_option maxRecDepth 100000 in
theorem kX11_sitter (l : Launch) (D : va_G) (ca : Nat → ClassId) (za h : Nat → Nat) (hh : sgH 52 h) (f : sg_F) (L : sg_L) (Q : sg_Q) (hI : sgI loX hiX f) (x0 : Int32) (x1 : Int32) (sz : Nat) : Met l yX11_sitter gwX11_sitter { frames := 2, cells := 0, slots := 0, locals := 48 } (sgP D vwCl (tyX ca) 52 h (eX ca h) zcX za f L Q sz [.ref (h 0), .int x0, .int x1]) (sgQi D vwCl 52 h (eX ca h) sz (fun r f1 L1 Q1 => ((sgI loX hiX f1 ∧ sgK WkX11_sitter f f1 ∧ L1 = L ∧ Q1 = Q) ∧ ((-3) ≤ r.toInt ∧ r.toInt ≤ 7) ∧ (r, f1) = sX11_sitter x0 x1 f L))) 0 0 (sgA 52 h sz) := by
  sorry
set_option maxHeartbeats 4000000 in
set_option maxRecDepth 100000 in
theorem kX11_isShelf (l : Launch) (D : va_G) (ca : Nat → ClassId) (za h : Nat → Nat) (hh : sgH 52 h) (f : sg_F) (L : sg_L) (Q : sg_Q) (hI : sgI loX hiX f) (x0 : Int32) (sz : Nat) : Met l yX11_isShelf gwX11_isShelf { frames := 0, cells := 0, slots := 0, locals := 0 } (sgP D vwCl (tyX ca) 52 h (eX ca h) zcX za f L Q sz [.int x0]) (sgQi D vwCl 52 h (eX ca h) sz (fun r f1 L1 Q1 => ((f1 = f ∧ L1 = L ∧ Q1 = Q) ∧ ((r = 1 ∧ (0 ≤ x0.toInt ∧ x0.toInt ≤ 5)) ∨ (r = 0 ∧ (¬ (0 ≤ x0.toInt ∧ x0.toInt ≤ 5)))) ∧ (r) = sX11_isShelf x0 f L))) 0 0 (sgA 52 h sz) := by
  sorry
set_option maxHeartbeats 4000000 in
set_option maxRecDepth 100000 in
theorem kX7_hasPlaces (l : Launch) (D : va_G) (ca : Nat → ClassId) (za h : Nat → Nat) (hh : sgH 52 h) (f : sg_F) (L : sg_L) (Q : sg_Q) (hI : sgI loX hiX f) (x0 : Int32) (x1 : Int32) (t : Nat) (ht_t : t < 6) (sz : Nat) : Met l yX7_hasPlaces gwX7_hasPlaces { frames := 0, cells := 0, slots := 0, locals := 0 } (sgP D vwCl (tyX ca) 52 h (eX ca h) zcX za f L Q sz [.ref (h (40 + 2 * t)), .int x0, .int x1]) (sgQi D vwCl 52 h (eX ca h) sz (fun r f1 L1 Q1 => ((f1 = f ∧ L1 = L ∧ Q1 = Q) ∧ ((r = 1 ∧ (0 ≤ x0.toInt ∧ 0 ≤ x1.toInt ∧ x0.toInt + x1.toInt ≤ (f (40 + 2 * t) 2).toInt)) ∨ (r = 0 ∧ (True))) ∧ (r) = sX7_hasPlaces x0 x1 t f L))) 0 0 (sgA 52 h sz) := by
  sorry
abbrev WkX11_comesFrom : List (Nat × Nat × Option Nat) := [(1, 1, some 3), (2, 2, none), (9, 9, none)]
set_option maxHeartbeats 4000000 in
set_option maxRecDepth 100000 in
theorem kX11_comesFrom (l : Launch) (D : va_G) (ca : Nat → ClassId) (za h : Nat → Nat) (hh : sgH 52 h) (f : sg_F) (L : sg_L) (Q : sg_Q) (hI : sgI loX hiX f) (t : Nat) (ht_t : t < 6) (x1 : Int32) (b1 : 0 ≤ x1.toInt ∧ x1.toInt ≤ 56) (sz : Nat) : Met l yX11_comesFrom gwX11_comesFrom { frames := 2, cells := 0, slots := 0, locals := 48 } (sgP D vwCl (tyX ca) 52 h (eX ca h) zcX za f L Q sz [.ref (h 0), .ref (h (40 + 2 * t)), .int x1]) (sgQi D vwCl 52 h (eX ca h) sz (fun r f1 L1 Q1 => ((sgI loX hiX f1 ∧ sgK WkX11_comesFrom f f1 ∧ L1 = L ∧ Q1 = Q) ∧ (0 ≤ r.toInt ∧ r.toInt ≤ 1) ∧ (r, f1) = sX11_comesFrom t x1 f L))) 0 0 (sgA 52 h sz) := by
  sorry
abbrev WkX11_fromRow : List (Nat × Nat × Option Nat) := [(1, 1, some 3), (2, 2, none), (9, 9, none)]
set_option maxHeartbeats 4000000 in
set_option maxRecDepth 100000 in
theorem kX11_fromRow (l : Launch) (D : va_G) (ca : Nat → ClassId) (za h : Nat → Nat) (hh : sgH 52 h) (f : sg_F) (L : sg_L) (Q : sg_Q) (hI : sgI loX hiX f) (t : Nat) (ht_t : t < 6) (x1 : Int32) (x2 : Int32) (b2 : 1 ≤ x2.toInt ∧ x2.toInt ≤ 8) (sz : Nat) : Met l yX11_fromRow gwX11_fromRow { frames := 3, cells := 0, slots := 0, locals := 73 } (sgP D vwCl (tyX ca) 52 h (eX ca h) zcX za f L Q sz [.ref (h 0), .ref (h (40 + 2 * t)), .int x1, .int x2]) (sgQi D vwCl 52 h (eX ca h) sz (fun r f1 L1 Q1 => ((sgI loX hiX f1 ∧ sgK WkX11_fromRow f f1 ∧ L1 = L ∧ Q1 = Q) ∧ (0 ≤ r.toInt ∧ r.toInt ≤ 8) ∧ (r, f1) = sX11_fromRow t x1 x2 f L))) 0 0 (sgA 52 h sz) := by
  sorry
abbrev WkX11_sitters : List (Nat × Nat × Option Nat) := [(1, 1, some 3), (2, 2, none), (9, 9, none)]
set_option maxHeartbeats 4000000 in
set_option maxRecDepth 100000 in
theorem kX11_sitters (l : Launch) (D : va_G) (ca : Nat → ClassId) (za h : Nat → Nat) (hh : sgH 52 h) (f : sg_F) (L : sg_L) (Q : sg_Q) (hI : sgI loX hiX f) (x0 : Int32) (x1 : Int32) (x2 : Int32) (sz : Nat) : Met l yX11_sitters gwX11_sitters { frames := 4, cells := 0, slots := 0, locals := 98 } (sgP D vwCl (tyX ca) 52 h (eX ca h) zcX za f L Q sz [.ref (h 0), .int x0, .int x1, .int x2]) (sgQi D vwCl 52 h (eX ca h) sz (fun r f1 L1 Q1 => ((sgI loX hiX f1 ∧ sgK WkX11_sitters f f1 ∧ L1 = L ∧ Q1 = Q) ∧ ((-12) ≤ r.toInt ∧ r.toInt ≤ 8) ∧ (r, f1) = sX11_sitters x0 x1 x2 f L))) 0 0 (sgA 52 h sz) := by
  sorry
set_option maxHeartbeats 4000000 in
set_option maxRecDepth 100000 in
theorem kX0_placeOf (l : Launch) (D : va_G) (ca : Nat → ClassId) (za h : Nat → Nat) (hh : sgH 52 h) (f : sg_F) (L : sg_L) (Q : sg_Q) (hI : sgI loX hiX f) (x0 : Int32) (x1 : Int32) (sz : Nat) : Met l yX0_placeOf gwX0_placeOf { frames := 0, cells := 0, slots := 0, locals := 0 } (sgP D vwCl (tyX ca) 52 h (eX ca h) zcX za f L Q sz [.ref (h 1), .int x0, .int x1]) (sgQi D vwCl 52 h (eX ca h) sz (fun r f1 L1 Q1 => ((f1 = f ∧ L1 = L ∧ Q1 = Q) ∧ ((-1) ≤ r.toInt ∧ r.toInt ≤ 70) ∧ (x1.toInt ≠ 10 ∨ r.toInt = 70 ∨ r.toInt = -1) ∧ (r) = sX0_placeOf x0 x1 f L))) 0 0 (sgA 52 h sz) := by
  sorry
abbrev WkX1_dropOldest : List (Nat × Nat × Option Nat) := [(32, 32, some 3), (33, 33, none), (34, 34, none), (35, 35, none)]
set_option maxHeartbeats 4000000 in
set_option maxRecDepth 100000 in
theorem kX1_dropOldest (l : Launch) (D : va_G) (ca : Nat → ClassId) (za h : Nat → Nat) (hh : sgH 52 h) (f : sg_F) (L : sg_L) (Q : sg_Q) (hI : sgI loX hiX f) (hJ : JX f) (p0 : 40 ≤ (f 32 3).toInt ∧ (f 32 3).toInt ≤ 40) (sz : Nat) : Met l yX1_dropOldest gwX1_dropOldest { frames := 1, cells := 0, slots := 0, locals := 64 } (sgP D vwCl (tyX ca) 52 h (eX ca h) zcX za f L Q sz [.ref (h 32)]) (sgQv D vwCl 52 h (eX ca h) sz (fun f1 L1 Q1 => ((sgI loX hiX f1 ∧ sgK WkX1_dropOldest f f1 ∧ L1 = L ∧ Q1 = Q ∧ JX f1) ∧ (39 ≤ (f1 32 3).toInt ∧ (f1 32 3).toInt ≤ 39) ∧ (f1) = sX1_dropOldest f L))) 0 0 (sgA 52 h sz) := by
  sorry
abbrev WkX1_comes : List (Nat × Nat × Option Nat) := [(32, 32, some 3), (32, 32, some 4), (33, 33, none), (34, 34, none), (35, 35, none)]
set_option maxHeartbeats 4000000 in
set_option maxRecDepth 100000 in
theorem kX1_comes (l : Launch) (D : va_G) (ca : Nat → ClassId) (za h : Nat → Nat) (hh : sgH 52 h) (f : sg_F) (L : sg_L) (Q : sg_Q) (hI : sgI loX hiX f) (hJ : JX f) (x0 : Int32) (x1 : Int32) (x2 : Int32) (b0 : 0 ≤ x0.toInt ∧ x0.toInt ≤ 70) (b1 : 0 ≤ x1.toInt ∧ x1.toInt ≤ 99) (b2 : 0 ≤ x2.toInt ∧ x2.toInt ≤ 99) (p0 : 64 ≤ x0.toInt ∨ (x1.toInt ≤ 60 ∧ x2.toInt ≤ 60)) (sz : Nat) : Met l yX1_comes gwX1_comes { frames := 2, cells := 0, slots := 0, locals := 84 } (sgP D vwCl (tyX ca) 52 h (eX ca h) zcX za f L Q sz [.ref (h 32), .int x0, .int x1, .int x2]) (sgQv D vwCl 52 h (eX ca h) sz (fun f1 L1 Q1 => ((sgI loX hiX f1 ∧ sgK WkX1_comes f f1 ∧ L1 = L ∧ Q1 = Q ∧ JX f1) ∧ (f1) = sX1_comes x0 x1 x2 f L))) 0 0 (sgA 52 h sz) := by
  sorry
abbrev WkX0_becomes : List (Nat × Nat × Option Nat) := [(2, 2, none), (9, 9, none)]
set_option maxHeartbeats 4000000 in
set_option maxRecDepth 100000 in
theorem kX0_becomes (l : Launch) (D : va_G) (ca : Nat → ClassId) (za h : Nat → Nat) (hh : sgH 52 h) (f : sg_F) (L : sg_L) (Q : sg_Q) (hI : sgI loX hiX f) (x0 : Int32) (x1 : Int32) (b0 : 0 ≤ x0.toInt ∧ x0.toInt ≤ 70) (b1 : 0 ≤ x1.toInt ∧ x1.toInt ≤ 99) (p0 : 64 ≤ x0.toInt ∨ x1.toInt ≤ 60) (sz : Nat) : Met l yX0_becomes gwX0_becomes { frames := 1, cells := 0, slots := 0, locals := 23 } (sgP D vwCl (tyX ca) 52 h (eX ca h) zcX za f L Q sz [.ref (h 1), .int x0, .int x1]) (sgQv D vwCl 52 h (eX ca h) sz (fun f1 L1 Q1 => ((sgI loX hiX f1 ∧ sgK WkX0_becomes f f1 ∧ L1 = L ∧ Q1 = Q) ∧ (f1) = sX0_becomes x0 x1 f L))) 0 0 (sgA 52 h sz) := by
  sorry
abbrev WkX11_mend : List (Nat × Nat × Option Nat) := [(2, 2, none), (9, 9, none), (32, 32, some 3), (32, 32, some 4), (33, 33, none), (34, 34, none), (35, 35, none)]
set_option maxHeartbeats 4000000 in
set_option maxRecDepth 100000 in
theorem kX11_mend (l : Launch) (D : va_G) (ca : Nat → ClassId) (za h : Nat → Nat) (hh : sgH 52 h) (f : sg_F) (L : sg_L) (Q : sg_Q) (hI : sgI loX hiX f) (hJ : JX f) (x0 : Int32) (x1 : Int32) (x2 : Int32) (sz : Nat) : Met l yX11_mend gwX11_mend { frames := 3, cells := 0, slots := 0, locals := 107 } (sgP D vwCl (tyX ca) 52 h (eX ca h) zcX za f L Q sz [.ref (h 0), .int x0, .int x1, .int x2]) (sgQi D vwCl 52 h (eX ca h) sz (fun r f1 L1 Q1 => ((sgI loX hiX f1 ∧ sgK WkX11_mend f f1 ∧ L1 = L ∧ Q1 = Q ∧ JX f1) ∧ ((-1) ≤ r.toInt ∧ r.toInt ≤ 99) ∧ (r, f1) = sX11_mend x0 x1 x2 f L))) 0 0 (sgA 52 h sz) := by
  sorry
set_option maxHeartbeats 4000000 in
set_option maxRecDepth 100000 in
theorem kX11_isPart (l : Launch) (D : va_G) (ca : Nat → ClassId) (za h : Nat → Nat) (hh : sgH 52 h) (f : sg_F) (L : sg_L) (Q : sg_Q) (hI : sgI loX hiX f) (x0 : Int32) (sz : Nat) : Met l yX11_isPart gwX11_isPart { frames := 0, cells := 0, slots := 0, locals := 0 } (sgP D vwCl (tyX ca) 52 h (eX ca h) zcX za f L Q sz [.int x0]) (sgQi D vwCl 52 h (eX ca h) sz (fun r f1 L1 Q1 => ((f1 = f ∧ L1 = L ∧ Q1 = Q) ∧ ((r = 1 ∧ (0 ≤ x0.toInt ∧ x0.toInt ≤ 2)) ∨ (r = 0 ∧ (¬ (0 ≤ x0.toInt ∧ x0.toInt ≤ 2)))) ∧ (r) = sX11_isPart x0 f L))) 0 0 (sgA 52 h sz) := by
  sorry
set_option maxHeartbeats 4000000 in
set_option maxRecDepth 100000 in
theorem kX11_of (l : Launch) (D : va_G) (ca : Nat → ClassId) (za h : Nat → Nat) (hh : sgH 52 h) (f : sg_F) (L : sg_L) (Q : sg_Q) (hI : sgI loX hiX f) (x0 : Int32) (x1 : Int32) (sz : Nat) : Met l yX11_of gwX11_of { frames := 1, cells := 0, slots := 0, locals := 22 } (sgP D vwCl (tyX ca) 52 h (eX ca h) zcX za f L Q sz [.ref (h 0), .int x0, .int x1]) (sgQi D vwCl 52 h (eX ca h) sz (fun r f1 L1 Q1 => ((f1 = f ∧ L1 = L ∧ Q1 = Q) ∧ ((-1) ≤ r.toInt ∧ r.toInt ≤ 99) ∧ (r) = sX11_of x0 x1 f L))) 0 0 (sgA 52 h sz) := by
  sorry
abbrev WkX5_takes : List (Nat × Nat × Option Nat) := [(4, 4, some 1), (5, 5, none)]
set_option maxHeartbeats 4000000 in
set_option maxRecDepth 100000 in
theorem kX5_takes (l : Launch) (D : va_G) (ca : Nat → ClassId) (za h : Nat → Nat) (hh : sgH 52 h) (f : sg_F) (L : sg_L) (Q : sg_Q) (hI : sgI loX hiX f) (x0 : Int32) (b0 : 0 ≤ x0.toInt ∧ x0.toInt ≤ 255) (sz : Nat) : Met l yX5_takes gwX5_takes { frames := 0, cells := 0, slots := 0, locals := 0 } (sgP D vwCl (tyX ca) 52 h (eX ca h) zcX za f L Q sz [.ref (h 4), .int x0]) (sgQi D vwCl 52 h (eX ca h) sz (fun r f1 L1 Q1 => ((sgI loX hiX f1 ∧ sgK WkX5_takes f f1 ∧ L1 = L ∧ Q1 = Q) ∧ ((-3) ≤ r.toInt ∧ r.toInt ≤ 120) ∧ (r, f1) = sX5_takes x0 f L))) 0 0 (sgA 52 h sz) := by
  sorry
abbrev WkX11_feed : List (Nat × Nat × Option Nat) := [(4, 4, some 1), (5, 5, none)]
set_option maxHeartbeats 4000000 in
set_option maxRecDepth 100000 in
theorem kX11_feed (l : Launch) (D : va_G) (ca : Nat → ClassId) (za h : Nat → Nat) (hh : sgH 52 h) (f : sg_F) (L : sg_L) (Q : sg_Q) (hI : sgI loX hiX f) (x0 : Int32) (sz : Nat) : Met l yX11_feed gwX11_feed { frames := 1, cells := 0, slots := 0, locals := 21 } (sgP D vwCl (tyX ca) 52 h (eX ca h) zcX za f L Q sz [.ref (h 0), .int x0]) (sgQi D vwCl 52 h (eX ca h) sz (fun r f1 L1 Q1 => ((sgI loX hiX f1 ∧ sgK WkX11_feed f f1 ∧ L1 = L ∧ Q1 = Q) ∧ ((-3) ≤ r.toInt ∧ r.toInt ≤ 120) ∧ (r, f1) = sX11_feed x0 f L))) 0 0 (sgA 52 h sz) := by
  sorry
set_option maxHeartbeats 4000000 in
set_option maxRecDepth 100000 in
theorem kX5_next (l : Launch) (D : va_G) (ca : Nat → ClassId) (za h : Nat → Nat) (hh : sgH 52 h) (f : sg_F) (L : sg_L) (Q : sg_Q) (hI : sgI loX hiX f) (sz : Nat) : Met l yX5_next gwX5_next { frames := 0, cells := 0, slots := 0, locals := 0 } (sgP D vwCl (tyX ca) 52 h (eX ca h) zcX za f L Q sz [.ref (h 4)]) (sgQi D vwCl 52 h (eX ca h) sz (fun r f1 L1 Q1 => ((f1 = f ∧ L1 = L ∧ Q1 = Q) ∧ ((-1) ≤ r.toInt ∧ r.toInt ≤ 255) ∧ (r.toInt < 0 ∨ (f 4 6).toInt < (f 4 1).toInt) ∧ (r) = sX5_next f L))) 0 0 (sgA 52 h sz) := by
  sorry
set_option maxHeartbeats 4000000 in
set_option maxRecDepth 100000 in
theorem kX5_isDigit (l : Launch) (D : va_G) (ca : Nat → ClassId) (za h : Nat → Nat) (hh : sgH 52 h) (f : sg_F) (L : sg_L) (Q : sg_Q) (hI : sgI loX hiX f) (x0 : Int32) (b0 : (-1) ≤ x0.toInt ∧ x0.toInt ≤ 255) (sz : Nat) : Met l yX5_isDigit gwX5_isDigit { frames := 0, cells := 0, slots := 0, locals := 0 } (sgP D vwCl (tyX ca) 52 h (eX ca h) zcX za f L Q sz [.int x0]) (sgQi D vwCl 52 h (eX ca h) sz (fun r f1 L1 Q1 => ((f1 = f ∧ L1 = L ∧ Q1 = Q) ∧ ((r = 1 ∧ (48 ≤ x0.toInt ∧ x0.toInt ≤ 57)) ∨ (r = 0 ∧ (¬ (48 ≤ x0.toInt ∧ x0.toInt ≤ 57)))) ∧ (r) = sX5_isDigit x0 f L))) 0 0 (sgA 52 h sz) := by
  sorry
abbrev WkX5_write : List (Nat × Nat × Option Nat) := [(4, 4, some 8), (6, 6, none)]
set_option maxHeartbeats 4000000 in
set_option maxRecDepth 100000 in
theorem kX5_write (l : Launch) (D : va_G) (ca : Nat → ClassId) (za h : Nat → Nat) (hh : sgH 52 h) (f : sg_F) (L : sg_L) (Q : sg_Q) (hI : sgI loX hiX f) (x0 : Int32) (sz : Nat) : Met l yX5_write gwX5_write { frames := 0, cells := 0, slots := 0, locals := 0 } (sgP D vwCl (tyX ca) 52 h (eX ca h) zcX za f L Q sz [.ref (h 4), .int x0]) (sgQv D vwCl 52 h (eX ca h) sz (fun f1 L1 Q1 => ((sgI loX hiX f1 ∧ sgK WkX5_write f f1 ∧ L1 = L ∧ Q1 = Q) ∧ (f1) = sX5_write x0 f L))) 0 0 (sgA 52 h sz) := by
  sorry
abbrev WkX5_number : List (Nat × Nat × Option Nat) := [(4, 4, some 6), (4, 4, some 8), (6, 6, none)]
set_option maxHeartbeats 4000000 in
set_option maxRecDepth 100000 in
theorem kX5_number (l : Launch) (D : va_G) (ca : Nat → ClassId) (za h : Nat → Nat) (hh : sgH 52 h) (f : sg_F) (L : sg_L) (Q : sg_Q) (hI : sgI loX hiX f) (sz : Nat) : Met l yX5_number gwX5_number { frames := 1, cells := 0, slots := 0, locals := 21 } (sgP D vwCl (tyX ca) 52 h (eX ca h) zcX za f L Q sz [.ref (h 4)]) (sgQv D vwCl 52 h (eX ca h) sz (fun f1 L1 Q1 => ((sgI loX hiX f1 ∧ sgK WkX5_number f f1 ∧ L1 = L ∧ Q1 = Q) ∧ (f1) = sX5_number f L))) 0 0 (sgA 52 h sz) := by
  sorry
set_option maxHeartbeats 4000000 in
set_option maxRecDepth 100000 in
theorem kX5_isName (l : Launch) (D : va_G) (ca : Nat → ClassId) (za h : Nat → Nat) (hh : sgH 52 h) (f : sg_F) (L : sg_L) (Q : sg_Q) (hI : sgI loX hiX f) (x0 : Int32) (b0 : (-1) ≤ x0.toInt ∧ x0.toInt ≤ 255) (sz : Nat) : Met l yX5_isName gwX5_isName { frames := 0, cells := 0, slots := 0, locals := 0 } (sgP D vwCl (tyX ca) 52 h (eX ca h) zcX za f L Q sz [.int x0]) (sgQi D vwCl 52 h (eX ca h) sz (fun r f1 L1 Q1 => ((f1 = f ∧ L1 = L ∧ Q1 = Q) ∧ ((r = 1 ∧ (100 ≤ x0.toInt ∧ x0.toInt ≤ 119)) ∨ (r = 0 ∧ (True))) ∧ (r) = sX5_isName x0 f L))) 0 0 (sgA 52 h sz) := by
  sorry
abbrev WkX5_fail : List (Nat × Nat × Option Nat) := [(4, 4, some 7)]
set_option maxHeartbeats 4000000 in
set_option maxRecDepth 100000 in
theorem kX5_fail (l : Launch) (D : va_G) (ca : Nat → ClassId) (za h : Nat → Nat) (hh : sgH 52 h) (f : sg_F) (L : sg_L) (Q : sg_Q) (hI : sgI loX hiX f) (sz : Nat) : Met l yX5_fail gwX5_fail { frames := 0, cells := 0, slots := 0, locals := 0 } (sgP D vwCl (tyX ca) 52 h (eX ca h) zcX za f L Q sz [.ref (h 4)]) (sgQv D vwCl 52 h (eX ca h) sz (fun f1 L1 Q1 => ((sgI loX hiX f1 ∧ sgK WkX5_fail f f1 ∧ L1 = L ∧ Q1 = Q) ∧ (f1) = sX5_fail f L))) 0 0 (sgA 52 h sz) := by
  sorry
abbrev WkX5_operand_6 : List (Nat × Nat × Option Nat) := [(4, 4, some 6), (4, 4, some 7), (4, 4, some 8), (6, 6, none)]
set_option maxHeartbeats 4000000 in
set_option maxRecDepth 100000 in
theorem kX5_operand_6 (l : Launch) (D : va_G) (ca : Nat → ClassId) (za h : Nat → Nat) (hh : sgH 52 h) (f : sg_F) (L : sg_L) (Q : sg_Q) (hI : sgI loX hiX f) (sz : Nat) : Met l yX5_operand gwX5_operand { frames := 2, cells := 0, slots := 0, locals := 43 } (sgP D vwCl (tyX ca) 52 h (eX ca h) zcX za f L Q sz [.ref (h 4), .int 6]) (sgQv D vwCl 52 h (eX ca h) sz (fun f1 L1 Q1 => ((sgI loX hiX f1 ∧ sgK WkX5_operand_6 f f1 ∧ L1 = L ∧ Q1 = Q) ∧ (f1) = sX5_operand_6 f L))) 0 0 (sgA 52 h sz) := by
  sorry
abbrev WkX5_product_6 : List (Nat × Nat × Option Nat) := [(4, 4, some 6), (4, 4, some 7), (4, 4, some 8), (6, 6, none)]
set_option maxHeartbeats 4000000 in
set_option maxRecDepth 100000 in
theorem kX5_product_6 (l : Launch) (D : va_G) (ca : Nat → ClassId) (za h : Nat → Nat) (hh : sgH 52 h) (f : sg_F) (L : sg_L) (Q : sg_Q) (hI : sgI loX hiX f) (sz : Nat) : Met l yX5_product gwX5_product { frames := 3, cells := 0, slots := 0, locals := 65 } (sgP D vwCl (tyX ca) 52 h (eX ca h) zcX za f L Q sz [.ref (h 4), .int 6]) (sgQv D vwCl 52 h (eX ca h) sz (fun f1 L1 Q1 => ((sgI loX hiX f1 ∧ sgK WkX5_product_6 f f1 ∧ L1 = L ∧ Q1 = Q) ∧ (f1) = sX5_product_6 f L))) 0 0 (sgA 52 h sz) := by
  sorry
abbrev WkX5_sum_6 : List (Nat × Nat × Option Nat) := [(4, 4, some 6), (4, 4, some 7), (4, 4, some 8), (6, 6, none)]
set_option maxHeartbeats 4000000 in
set_option maxRecDepth 100000 in
theorem kX5_sum_6 (l : Launch) (D : va_G) (ca : Nat → ClassId) (za h : Nat → Nat) (hh : sgH 52 h) (f : sg_F) (L : sg_L) (Q : sg_Q) (hI : sgI loX hiX f) (sz : Nat) : Met l yX5_sum gwX5_sum { frames := 4, cells := 0, slots := 0, locals := 88 } (sgP D vwCl (tyX ca) 52 h (eX ca h) zcX za f L Q sz [.ref (h 4), .int 6]) (sgQv D vwCl 52 h (eX ca h) sz (fun f1 L1 Q1 => ((sgI loX hiX f1 ∧ sgK WkX5_sum_6 f f1 ∧ L1 = L ∧ Q1 = Q) ∧ (f1) = sX5_sum_6 f L))) 0 0 (sgA 52 h sz) := by
  sorry
abbrev WkX5_compared_6 : List (Nat × Nat × Option Nat) := [(4, 4, some 6), (4, 4, some 7), (4, 4, some 8), (6, 6, none)]
set_option maxHeartbeats 4000000 in
set_option maxRecDepth 100000 in
theorem kX5_compared_6 (l : Launch) (D : va_G) (ca : Nat → ClassId) (za h : Nat → Nat) (hh : sgH 52 h) (f : sg_F) (L : sg_L) (Q : sg_Q) (hI : sgI loX hiX f) (sz : Nat) : Met l yX5_compared gwX5_compared { frames := 5, cells := 0, slots := 0, locals := 111 } (sgP D vwCl (tyX ca) 52 h (eX ca h) zcX za f L Q sz [.ref (h 4), .int 6]) (sgQv D vwCl 52 h (eX ca h) sz (fun f1 L1 Q1 => ((sgI loX hiX f1 ∧ sgK WkX5_compared_6 f f1 ∧ L1 = L ∧ Q1 = Q) ∧ (f1) = sX5_compared_6 f L))) 0 0 (sgA 52 h sz) := by
  sorry
abbrev WkX5_both_6 : List (Nat × Nat × Option Nat) := [(4, 4, some 6), (4, 4, some 7), (4, 4, some 8), (6, 6, none)]
set_option maxHeartbeats 4000000 in
set_option maxRecDepth 100000 in
theorem kX5_both_6 (l : Launch) (D : va_G) (ca : Nat → ClassId) (za h : Nat → Nat) (hh : sgH 52 h) (f : sg_F) (L : sg_L) (Q : sg_Q) (hI : sgI loX hiX f) (sz : Nat) : Met l yX5_both gwX5_both { frames := 6, cells := 0, slots := 0, locals := 133 } (sgP D vwCl (tyX ca) 52 h (eX ca h) zcX za f L Q sz [.ref (h 4), .int 6]) (sgQv D vwCl 52 h (eX ca h) sz (fun f1 L1 Q1 => ((sgI loX hiX f1 ∧ sgK WkX5_both_6 f f1 ∧ L1 = L ∧ Q1 = Q) ∧ (f1) = sX5_both_6 f L))) 0 0 (sgA 52 h sz) := by
  sorry
abbrev WkX5_either_6 : List (Nat × Nat × Option Nat) := [(4, 4, some 6), (4, 4, some 7), (4, 4, some 8), (6, 6, none)]
set_option maxHeartbeats 4000000 in
set_option maxRecDepth 100000 in
theorem kX5_either_6 (l : Launch) (D : va_G) (ca : Nat → ClassId) (za h : Nat → Nat) (hh : sgH 52 h) (f : sg_F) (L : sg_L) (Q : sg_Q) (hI : sgI loX hiX f) (sz : Nat) : Met l yX5_either gwX5_either { frames := 7, cells := 0, slots := 0, locals := 155 } (sgP D vwCl (tyX ca) 52 h (eX ca h) zcX za f L Q sz [.ref (h 4), .int 6]) (sgQv D vwCl 52 h (eX ca h) sz (fun f1 L1 Q1 => ((sgI loX hiX f1 ∧ sgK WkX5_either_6 f f1 ∧ L1 = L ∧ Q1 = Q) ∧ (f1) = sX5_either_6 f L))) 0 0 (sgA 52 h sz) := by
  sorry
abbrev WkX5_opened_6 : List (Nat × Nat × Option Nat) := [(4, 4, some 6), (4, 4, some 7), (4, 4, some 8), (6, 6, none)]
set_option maxHeartbeats 4000000 in
set_option maxRecDepth 100000 in
theorem kX5_opened_6 (l : Launch) (D : va_G) (ca : Nat → ClassId) (za h : Nat → Nat) (hh : sgH 52 h) (f : sg_F) (L : sg_L) (Q : sg_Q) (hI : sgI loX hiX f) (x0 : Int32) (b0 : 33 ≤ x0.toInt ∧ x0.toInt ≤ 49) (sz : Nat) : Met l yX5_opened gwX5_opened { frames := 8, cells := 0, slots := 0, locals := 177 } (sgP D vwCl (tyX ca) 52 h (eX ca h) zcX za f L Q sz [.ref (h 4), .int x0, .int 6]) (sgQv D vwCl 52 h (eX ca h) sz (fun f1 L1 Q1 => ((sgI loX hiX f1 ∧ sgK WkX5_opened_6 f f1 ∧ L1 = L ∧ Q1 = Q) ∧ (f1) = sX5_opened_6 x0 f L))) 0 0 (sgA 52 h sz) := by
  sorry
abbrev WkX5_operand_5 : List (Nat × Nat × Option Nat) := [(4, 4, some 6), (4, 4, some 7), (4, 4, some 8), (6, 6, none)]
set_option maxHeartbeats 4000000 in
set_option maxRecDepth 100000 in
theorem kX5_operand_5 (l : Launch) (D : va_G) (ca : Nat → ClassId) (za h : Nat → Nat) (hh : sgH 52 h) (f : sg_F) (L : sg_L) (Q : sg_Q) (hI : sgI loX hiX f) (sz : Nat) : Met l yX5_operand gwX5_operand { frames := 9, cells := 0, slots := 0, locals := 199 } (sgP D vwCl (tyX ca) 52 h (eX ca h) zcX za f L Q sz [.ref (h 4), .int 5]) (sgQv D vwCl 52 h (eX ca h) sz (fun f1 L1 Q1 => ((sgI loX hiX f1 ∧ sgK WkX5_operand_5 f f1 ∧ L1 = L ∧ Q1 = Q) ∧ (f1) = sX5_operand_5 f L))) 0 0 (sgA 52 h sz) := by
  sorry
abbrev WkX5_product_5 : List (Nat × Nat × Option Nat) := [(4, 4, some 6), (4, 4, some 7), (4, 4, some 8), (6, 6, none)]
set_option maxHeartbeats 4000000 in
set_option maxRecDepth 100000 in
theorem kX5_product_5 (l : Launch) (D : va_G) (ca : Nat → ClassId) (za h : Nat → Nat) (hh : sgH 52 h) (f : sg_F) (L : sg_L) (Q : sg_Q) (hI : sgI loX hiX f) (sz : Nat) : Met l yX5_product gwX5_product { frames := 10, cells := 0, slots := 0, locals := 221 } (sgP D vwCl (tyX ca) 52 h (eX ca h) zcX za f L Q sz [.ref (h 4), .int 5]) (sgQv D vwCl 52 h (eX ca h) sz (fun f1 L1 Q1 => ((sgI loX hiX f1 ∧ sgK WkX5_product_5 f f1 ∧ L1 = L ∧ Q1 = Q) ∧ (f1) = sX5_product_5 f L))) 0 0 (sgA 52 h sz) := by
  sorry
abbrev WkX5_sum_5 : List (Nat × Nat × Option Nat) := [(4, 4, some 6), (4, 4, some 7), (4, 4, some 8), (6, 6, none)]
set_option maxHeartbeats 4000000 in
set_option maxRecDepth 100000 in
theorem kX5_sum_5 (l : Launch) (D : va_G) (ca : Nat → ClassId) (za h : Nat → Nat) (hh : sgH 52 h) (f : sg_F) (L : sg_L) (Q : sg_Q) (hI : sgI loX hiX f) (sz : Nat) : Met l yX5_sum gwX5_sum { frames := 11, cells := 0, slots := 0, locals := 244 } (sgP D vwCl (tyX ca) 52 h (eX ca h) zcX za f L Q sz [.ref (h 4), .int 5]) (sgQv D vwCl 52 h (eX ca h) sz (fun f1 L1 Q1 => ((sgI loX hiX f1 ∧ sgK WkX5_sum_5 f f1 ∧ L1 = L ∧ Q1 = Q) ∧ (f1) = sX5_sum_5 f L))) 0 0 (sgA 52 h sz) := by
  sorry
abbrev WkX5_compared_5 : List (Nat × Nat × Option Nat) := [(4, 4, some 6), (4, 4, some 7), (4, 4, some 8), (6, 6, none)]
set_option maxHeartbeats 4000000 in
set_option maxRecDepth 100000 in
theorem kX5_compared_5 (l : Launch) (D : va_G) (ca : Nat → ClassId) (za h : Nat → Nat) (hh : sgH 52 h) (f : sg_F) (L : sg_L) (Q : sg_Q) (hI : sgI loX hiX f) (sz : Nat) : Met l yX5_compared gwX5_compared { frames := 12, cells := 0, slots := 0, locals := 267 } (sgP D vwCl (tyX ca) 52 h (eX ca h) zcX za f L Q sz [.ref (h 4), .int 5]) (sgQv D vwCl 52 h (eX ca h) sz (fun f1 L1 Q1 => ((sgI loX hiX f1 ∧ sgK WkX5_compared_5 f f1 ∧ L1 = L ∧ Q1 = Q) ∧ (f1) = sX5_compared_5 f L))) 0 0 (sgA 52 h sz) := by
  sorry
abbrev WkX5_both_5 : List (Nat × Nat × Option Nat) := [(4, 4, some 6), (4, 4, some 7), (4, 4, some 8), (6, 6, none)]
set_option maxHeartbeats 4000000 in
set_option maxRecDepth 100000 in
theorem kX5_both_5 (l : Launch) (D : va_G) (ca : Nat → ClassId) (za h : Nat → Nat) (hh : sgH 52 h) (f : sg_F) (L : sg_L) (Q : sg_Q) (hI : sgI loX hiX f) (sz : Nat) : Met l yX5_both gwX5_both { frames := 13, cells := 0, slots := 0, locals := 289 } (sgP D vwCl (tyX ca) 52 h (eX ca h) zcX za f L Q sz [.ref (h 4), .int 5]) (sgQv D vwCl 52 h (eX ca h) sz (fun f1 L1 Q1 => ((sgI loX hiX f1 ∧ sgK WkX5_both_5 f f1 ∧ L1 = L ∧ Q1 = Q) ∧ (f1) = sX5_both_5 f L))) 0 0 (sgA 52 h sz) := by
  sorry
abbrev WkX5_either_5 : List (Nat × Nat × Option Nat) := [(4, 4, some 6), (4, 4, some 7), (4, 4, some 8), (6, 6, none)]
set_option maxHeartbeats 4000000 in
set_option maxRecDepth 100000 in
theorem kX5_either_5 (l : Launch) (D : va_G) (ca : Nat → ClassId) (za h : Nat → Nat) (hh : sgH 52 h) (f : sg_F) (L : sg_L) (Q : sg_Q) (hI : sgI loX hiX f) (sz : Nat) : Met l yX5_either gwX5_either { frames := 14, cells := 0, slots := 0, locals := 311 } (sgP D vwCl (tyX ca) 52 h (eX ca h) zcX za f L Q sz [.ref (h 4), .int 5]) (sgQv D vwCl 52 h (eX ca h) sz (fun f1 L1 Q1 => ((sgI loX hiX f1 ∧ sgK WkX5_either_5 f f1 ∧ L1 = L ∧ Q1 = Q) ∧ (f1) = sX5_either_5 f L))) 0 0 (sgA 52 h sz) := by
  sorry
abbrev WkX5_opened_5 : List (Nat × Nat × Option Nat) := [(4, 4, some 6), (4, 4, some 7), (4, 4, some 8), (6, 6, none)]
set_option maxHeartbeats 4000000 in
set_option maxRecDepth 100000 in
theorem kX5_opened_5 (l : Launch) (D : va_G) (ca : Nat → ClassId) (za h : Nat → Nat) (hh : sgH 52 h) (f : sg_F) (L : sg_L) (Q : sg_Q) (hI : sgI loX hiX f) (x0 : Int32) (b0 : 33 ≤ x0.toInt ∧ x0.toInt ≤ 49) (sz : Nat) : Met l yX5_opened gwX5_opened { frames := 15, cells := 0, slots := 0, locals := 333 } (sgP D vwCl (tyX ca) 52 h (eX ca h) zcX za f L Q sz [.ref (h 4), .int x0, .int 5]) (sgQv D vwCl 52 h (eX ca h) sz (fun f1 L1 Q1 => ((sgI loX hiX f1 ∧ sgK WkX5_opened_5 f f1 ∧ L1 = L ∧ Q1 = Q) ∧ (f1) = sX5_opened_5 x0 f L))) 0 0 (sgA 52 h sz) := by
  sorry
abbrev WkX5_operand_4 : List (Nat × Nat × Option Nat) := [(4, 4, some 6), (4, 4, some 7), (4, 4, some 8), (6, 6, none)]
set_option maxHeartbeats 4000000 in
set_option maxRecDepth 100000 in
theorem kX5_operand_4 (l : Launch) (D : va_G) (ca : Nat → ClassId) (za h : Nat → Nat) (hh : sgH 52 h) (f : sg_F) (L : sg_L) (Q : sg_Q) (hI : sgI loX hiX f) (sz : Nat) : Met l yX5_operand gwX5_operand { frames := 16, cells := 0, slots := 0, locals := 355 } (sgP D vwCl (tyX ca) 52 h (eX ca h) zcX za f L Q sz [.ref (h 4), .int 4]) (sgQv D vwCl 52 h (eX ca h) sz (fun f1 L1 Q1 => ((sgI loX hiX f1 ∧ sgK WkX5_operand_4 f f1 ∧ L1 = L ∧ Q1 = Q) ∧ (f1) = sX5_operand_4 f L))) 0 0 (sgA 52 h sz) := by
  sorry
abbrev WkX5_product_4 : List (Nat × Nat × Option Nat) := [(4, 4, some 6), (4, 4, some 7), (4, 4, some 8), (6, 6, none)]
set_option maxHeartbeats 4000000 in
set_option maxRecDepth 100000 in
theorem kX5_product_4 (l : Launch) (D : va_G) (ca : Nat → ClassId) (za h : Nat → Nat) (hh : sgH 52 h) (f : sg_F) (L : sg_L) (Q : sg_Q) (hI : sgI loX hiX f) (sz : Nat) : Met l yX5_product gwX5_product { frames := 17, cells := 0, slots := 0, locals := 377 } (sgP D vwCl (tyX ca) 52 h (eX ca h) zcX za f L Q sz [.ref (h 4), .int 4]) (sgQv D vwCl 52 h (eX ca h) sz (fun f1 L1 Q1 => ((sgI loX hiX f1 ∧ sgK WkX5_product_4 f f1 ∧ L1 = L ∧ Q1 = Q) ∧ (f1) = sX5_product_4 f L))) 0 0 (sgA 52 h sz) := by
  sorry
abbrev WkX5_sum_4 : List (Nat × Nat × Option Nat) := [(4, 4, some 6), (4, 4, some 7), (4, 4, some 8), (6, 6, none)]
set_option maxHeartbeats 4000000 in
set_option maxRecDepth 100000 in
theorem kX5_sum_4 (l : Launch) (D : va_G) (ca : Nat → ClassId) (za h : Nat → Nat) (hh : sgH 52 h) (f : sg_F) (L : sg_L) (Q : sg_Q) (hI : sgI loX hiX f) (sz : Nat) : Met l yX5_sum gwX5_sum { frames := 18, cells := 0, slots := 0, locals := 400 } (sgP D vwCl (tyX ca) 52 h (eX ca h) zcX za f L Q sz [.ref (h 4), .int 4]) (sgQv D vwCl 52 h (eX ca h) sz (fun f1 L1 Q1 => ((sgI loX hiX f1 ∧ sgK WkX5_sum_4 f f1 ∧ L1 = L ∧ Q1 = Q) ∧ (f1) = sX5_sum_4 f L))) 0 0 (sgA 52 h sz) := by
  sorry
abbrev WkX5_compared_4 : List (Nat × Nat × Option Nat) := [(4, 4, some 6), (4, 4, some 7), (4, 4, some 8), (6, 6, none)]
set_option maxHeartbeats 4000000 in
set_option maxRecDepth 100000 in
theorem kX5_compared_4 (l : Launch) (D : va_G) (ca : Nat → ClassId) (za h : Nat → Nat) (hh : sgH 52 h) (f : sg_F) (L : sg_L) (Q : sg_Q) (hI : sgI loX hiX f) (sz : Nat) : Met l yX5_compared gwX5_compared { frames := 19, cells := 0, slots := 0, locals := 423 } (sgP D vwCl (tyX ca) 52 h (eX ca h) zcX za f L Q sz [.ref (h 4), .int 4]) (sgQv D vwCl 52 h (eX ca h) sz (fun f1 L1 Q1 => ((sgI loX hiX f1 ∧ sgK WkX5_compared_4 f f1 ∧ L1 = L ∧ Q1 = Q) ∧ (f1) = sX5_compared_4 f L))) 0 0 (sgA 52 h sz) := by
  sorry
abbrev WkX5_both_4 : List (Nat × Nat × Option Nat) := [(4, 4, some 6), (4, 4, some 7), (4, 4, some 8), (6, 6, none)]
set_option maxHeartbeats 4000000 in
set_option maxRecDepth 100000 in
theorem kX5_both_4 (l : Launch) (D : va_G) (ca : Nat → ClassId) (za h : Nat → Nat) (hh : sgH 52 h) (f : sg_F) (L : sg_L) (Q : sg_Q) (hI : sgI loX hiX f) (sz : Nat) : Met l yX5_both gwX5_both { frames := 20, cells := 0, slots := 0, locals := 445 } (sgP D vwCl (tyX ca) 52 h (eX ca h) zcX za f L Q sz [.ref (h 4), .int 4]) (sgQv D vwCl 52 h (eX ca h) sz (fun f1 L1 Q1 => ((sgI loX hiX f1 ∧ sgK WkX5_both_4 f f1 ∧ L1 = L ∧ Q1 = Q) ∧ (f1) = sX5_both_4 f L))) 0 0 (sgA 52 h sz) := by
  sorry
abbrev WkX5_either_4 : List (Nat × Nat × Option Nat) := [(4, 4, some 6), (4, 4, some 7), (4, 4, some 8), (6, 6, none)]
set_option maxHeartbeats 4000000 in
set_option maxRecDepth 100000 in
theorem kX5_either_4 (l : Launch) (D : va_G) (ca : Nat → ClassId) (za h : Nat → Nat) (hh : sgH 52 h) (f : sg_F) (L : sg_L) (Q : sg_Q) (hI : sgI loX hiX f) (sz : Nat) : Met l yX5_either gwX5_either { frames := 21, cells := 0, slots := 0, locals := 467 } (sgP D vwCl (tyX ca) 52 h (eX ca h) zcX za f L Q sz [.ref (h 4), .int 4]) (sgQv D vwCl 52 h (eX ca h) sz (fun f1 L1 Q1 => ((sgI loX hiX f1 ∧ sgK WkX5_either_4 f f1 ∧ L1 = L ∧ Q1 = Q) ∧ (f1) = sX5_either_4 f L))) 0 0 (sgA 52 h sz) := by
  sorry
abbrev WkX5_opened_4 : List (Nat × Nat × Option Nat) := [(4, 4, some 6), (4, 4, some 7), (4, 4, some 8), (6, 6, none)]
set_option maxHeartbeats 4000000 in
set_option maxRecDepth 100000 in
theorem kX5_opened_4 (l : Launch) (D : va_G) (ca : Nat → ClassId) (za h : Nat → Nat) (hh : sgH 52 h) (f : sg_F) (L : sg_L) (Q : sg_Q) (hI : sgI loX hiX f) (x0 : Int32) (b0 : 33 ≤ x0.toInt ∧ x0.toInt ≤ 49) (sz : Nat) : Met l yX5_opened gwX5_opened { frames := 22, cells := 0, slots := 0, locals := 489 } (sgP D vwCl (tyX ca) 52 h (eX ca h) zcX za f L Q sz [.ref (h 4), .int x0, .int 4]) (sgQv D vwCl 52 h (eX ca h) sz (fun f1 L1 Q1 => ((sgI loX hiX f1 ∧ sgK WkX5_opened_4 f f1 ∧ L1 = L ∧ Q1 = Q) ∧ (f1) = sX5_opened_4 x0 f L))) 0 0 (sgA 52 h sz) := by
  sorry
abbrev WkX5_operand_3 : List (Nat × Nat × Option Nat) := [(4, 4, some 6), (4, 4, some 7), (4, 4, some 8), (6, 6, none)]
set_option maxHeartbeats 4000000 in
set_option maxRecDepth 100000 in
theorem kX5_operand_3 (l : Launch) (D : va_G) (ca : Nat → ClassId) (za h : Nat → Nat) (hh : sgH 52 h) (f : sg_F) (L : sg_L) (Q : sg_Q) (hI : sgI loX hiX f) (sz : Nat) : Met l yX5_operand gwX5_operand { frames := 23, cells := 0, slots := 0, locals := 511 } (sgP D vwCl (tyX ca) 52 h (eX ca h) zcX za f L Q sz [.ref (h 4), .int 3]) (sgQv D vwCl 52 h (eX ca h) sz (fun f1 L1 Q1 => ((sgI loX hiX f1 ∧ sgK WkX5_operand_3 f f1 ∧ L1 = L ∧ Q1 = Q) ∧ (f1) = sX5_operand_3 f L))) 0 0 (sgA 52 h sz) := by
  sorry
abbrev WkX5_product_3 : List (Nat × Nat × Option Nat) := [(4, 4, some 6), (4, 4, some 7), (4, 4, some 8), (6, 6, none)]
set_option maxHeartbeats 4000000 in
set_option maxRecDepth 100000 in
theorem kX5_product_3 (l : Launch) (D : va_G) (ca : Nat → ClassId) (za h : Nat → Nat) (hh : sgH 52 h) (f : sg_F) (L : sg_L) (Q : sg_Q) (hI : sgI loX hiX f) (sz : Nat) : Met l yX5_product gwX5_product { frames := 24, cells := 0, slots := 0, locals := 533 } (sgP D vwCl (tyX ca) 52 h (eX ca h) zcX za f L Q sz [.ref (h 4), .int 3]) (sgQv D vwCl 52 h (eX ca h) sz (fun f1 L1 Q1 => ((sgI loX hiX f1 ∧ sgK WkX5_product_3 f f1 ∧ L1 = L ∧ Q1 = Q) ∧ (f1) = sX5_product_3 f L))) 0 0 (sgA 52 h sz) := by
  sorry
abbrev WkX5_sum_3 : List (Nat × Nat × Option Nat) := [(4, 4, some 6), (4, 4, some 7), (4, 4, some 8), (6, 6, none)]
set_option maxHeartbeats 4000000 in
set_option maxRecDepth 100000 in
theorem kX5_sum_3 (l : Launch) (D : va_G) (ca : Nat → ClassId) (za h : Nat → Nat) (hh : sgH 52 h) (f : sg_F) (L : sg_L) (Q : sg_Q) (hI : sgI loX hiX f) (sz : Nat) : Met l yX5_sum gwX5_sum { frames := 25, cells := 0, slots := 0, locals := 556 } (sgP D vwCl (tyX ca) 52 h (eX ca h) zcX za f L Q sz [.ref (h 4), .int 3]) (sgQv D vwCl 52 h (eX ca h) sz (fun f1 L1 Q1 => ((sgI loX hiX f1 ∧ sgK WkX5_sum_3 f f1 ∧ L1 = L ∧ Q1 = Q) ∧ (f1) = sX5_sum_3 f L))) 0 0 (sgA 52 h sz) := by
  sorry
abbrev WkX5_compared_3 : List (Nat × Nat × Option Nat) := [(4, 4, some 6), (4, 4, some 7), (4, 4, some 8), (6, 6, none)]
set_option maxHeartbeats 4000000 in
set_option maxRecDepth 100000 in
theorem kX5_compared_3 (l : Launch) (D : va_G) (ca : Nat → ClassId) (za h : Nat → Nat) (hh : sgH 52 h) (f : sg_F) (L : sg_L) (Q : sg_Q) (hI : sgI loX hiX f) (sz : Nat) : Met l yX5_compared gwX5_compared { frames := 26, cells := 0, slots := 0, locals := 579 } (sgP D vwCl (tyX ca) 52 h (eX ca h) zcX za f L Q sz [.ref (h 4), .int 3]) (sgQv D vwCl 52 h (eX ca h) sz (fun f1 L1 Q1 => ((sgI loX hiX f1 ∧ sgK WkX5_compared_3 f f1 ∧ L1 = L ∧ Q1 = Q) ∧ (f1) = sX5_compared_3 f L))) 0 0 (sgA 52 h sz) := by
  sorry
abbrev WkX5_both_3 : List (Nat × Nat × Option Nat) := [(4, 4, some 6), (4, 4, some 7), (4, 4, some 8), (6, 6, none)]
set_option maxHeartbeats 4000000 in
set_option maxRecDepth 100000 in
theorem kX5_both_3 (l : Launch) (D : va_G) (ca : Nat → ClassId) (za h : Nat → Nat) (hh : sgH 52 h) (f : sg_F) (L : sg_L) (Q : sg_Q) (hI : sgI loX hiX f) (sz : Nat) : Met l yX5_both gwX5_both { frames := 27, cells := 0, slots := 0, locals := 601 } (sgP D vwCl (tyX ca) 52 h (eX ca h) zcX za f L Q sz [.ref (h 4), .int 3]) (sgQv D vwCl 52 h (eX ca h) sz (fun f1 L1 Q1 => ((sgI loX hiX f1 ∧ sgK WkX5_both_3 f f1 ∧ L1 = L ∧ Q1 = Q) ∧ (f1) = sX5_both_3 f L))) 0 0 (sgA 52 h sz) := by
  sorry
abbrev WkX5_either_3 : List (Nat × Nat × Option Nat) := [(4, 4, some 6), (4, 4, some 7), (4, 4, some 8), (6, 6, none)]
set_option maxHeartbeats 4000000 in
set_option maxRecDepth 100000 in
theorem kX5_either_3 (l : Launch) (D : va_G) (ca : Nat → ClassId) (za h : Nat → Nat) (hh : sgH 52 h) (f : sg_F) (L : sg_L) (Q : sg_Q) (hI : sgI loX hiX f) (sz : Nat) : Met l yX5_either gwX5_either { frames := 28, cells := 0, slots := 0, locals := 623 } (sgP D vwCl (tyX ca) 52 h (eX ca h) zcX za f L Q sz [.ref (h 4), .int 3]) (sgQv D vwCl 52 h (eX ca h) sz (fun f1 L1 Q1 => ((sgI loX hiX f1 ∧ sgK WkX5_either_3 f f1 ∧ L1 = L ∧ Q1 = Q) ∧ (f1) = sX5_either_3 f L))) 0 0 (sgA 52 h sz) := by
  sorry
abbrev WkX5_opened_3 : List (Nat × Nat × Option Nat) := [(4, 4, some 6), (4, 4, some 7), (4, 4, some 8), (6, 6, none)]
set_option maxHeartbeats 4000000 in
set_option maxRecDepth 100000 in
theorem kX5_opened_3 (l : Launch) (D : va_G) (ca : Nat → ClassId) (za h : Nat → Nat) (hh : sgH 52 h) (f : sg_F) (L : sg_L) (Q : sg_Q) (hI : sgI loX hiX f) (x0 : Int32) (b0 : 33 ≤ x0.toInt ∧ x0.toInt ≤ 49) (sz : Nat) : Met l yX5_opened gwX5_opened { frames := 29, cells := 0, slots := 0, locals := 645 } (sgP D vwCl (tyX ca) 52 h (eX ca h) zcX za f L Q sz [.ref (h 4), .int x0, .int 3]) (sgQv D vwCl 52 h (eX ca h) sz (fun f1 L1 Q1 => ((sgI loX hiX f1 ∧ sgK WkX5_opened_3 f f1 ∧ L1 = L ∧ Q1 = Q) ∧ (f1) = sX5_opened_3 x0 f L))) 0 0 (sgA 52 h sz) := by
  sorry
abbrev WkX5_operand_2 : List (Nat × Nat × Option Nat) := [(4, 4, some 6), (4, 4, some 7), (4, 4, some 8), (6, 6, none)]
set_option maxHeartbeats 4000000 in
set_option maxRecDepth 100000 in
theorem kX5_operand_2 (l : Launch) (D : va_G) (ca : Nat → ClassId) (za h : Nat → Nat) (hh : sgH 52 h) (f : sg_F) (L : sg_L) (Q : sg_Q) (hI : sgI loX hiX f) (sz : Nat) : Met l yX5_operand gwX5_operand { frames := 30, cells := 0, slots := 0, locals := 667 } (sgP D vwCl (tyX ca) 52 h (eX ca h) zcX za f L Q sz [.ref (h 4), .int 2]) (sgQv D vwCl 52 h (eX ca h) sz (fun f1 L1 Q1 => ((sgI loX hiX f1 ∧ sgK WkX5_operand_2 f f1 ∧ L1 = L ∧ Q1 = Q) ∧ (f1) = sX5_operand_2 f L))) 0 0 (sgA 52 h sz) := by
  sorry
abbrev WkX5_product_2 : List (Nat × Nat × Option Nat) := [(4, 4, some 6), (4, 4, some 7), (4, 4, some 8), (6, 6, none)]
set_option maxHeartbeats 4000000 in
set_option maxRecDepth 100000 in
theorem kX5_product_2 (l : Launch) (D : va_G) (ca : Nat → ClassId) (za h : Nat → Nat) (hh : sgH 52 h) (f : sg_F) (L : sg_L) (Q : sg_Q) (hI : sgI loX hiX f) (sz : Nat) : Met l yX5_product gwX5_product { frames := 31, cells := 0, slots := 0, locals := 689 } (sgP D vwCl (tyX ca) 52 h (eX ca h) zcX za f L Q sz [.ref (h 4), .int 2]) (sgQv D vwCl 52 h (eX ca h) sz (fun f1 L1 Q1 => ((sgI loX hiX f1 ∧ sgK WkX5_product_2 f f1 ∧ L1 = L ∧ Q1 = Q) ∧ (f1) = sX5_product_2 f L))) 0 0 (sgA 52 h sz) := by
  sorry
abbrev WkX5_sum_2 : List (Nat × Nat × Option Nat) := [(4, 4, some 6), (4, 4, some 7), (4, 4, some 8), (6, 6, none)]
set_option maxHeartbeats 4000000 in
set_option maxRecDepth 100000 in
theorem kX5_sum_2 (l : Launch) (D : va_G) (ca : Nat → ClassId) (za h : Nat → Nat) (hh : sgH 52 h) (f : sg_F) (L : sg_L) (Q : sg_Q) (hI : sgI loX hiX f) (sz : Nat) : Met l yX5_sum gwX5_sum { frames := 32, cells := 0, slots := 0, locals := 712 } (sgP D vwCl (tyX ca) 52 h (eX ca h) zcX za f L Q sz [.ref (h 4), .int 2]) (sgQv D vwCl 52 h (eX ca h) sz (fun f1 L1 Q1 => ((sgI loX hiX f1 ∧ sgK WkX5_sum_2 f f1 ∧ L1 = L ∧ Q1 = Q) ∧ (f1) = sX5_sum_2 f L))) 0 0 (sgA 52 h sz) := by
  sorry
abbrev WkX5_compared_2 : List (Nat × Nat × Option Nat) := [(4, 4, some 6), (4, 4, some 7), (4, 4, some 8), (6, 6, none)]
set_option maxHeartbeats 4000000 in
set_option maxRecDepth 100000 in
theorem kX5_compared_2 (l : Launch) (D : va_G) (ca : Nat → ClassId) (za h : Nat → Nat) (hh : sgH 52 h) (f : sg_F) (L : sg_L) (Q : sg_Q) (hI : sgI loX hiX f) (sz : Nat) : Met l yX5_compared gwX5_compared { frames := 33, cells := 0, slots := 0, locals := 735 } (sgP D vwCl (tyX ca) 52 h (eX ca h) zcX za f L Q sz [.ref (h 4), .int 2]) (sgQv D vwCl 52 h (eX ca h) sz (fun f1 L1 Q1 => ((sgI loX hiX f1 ∧ sgK WkX5_compared_2 f f1 ∧ L1 = L ∧ Q1 = Q) ∧ (f1) = sX5_compared_2 f L))) 0 0 (sgA 52 h sz) := by
  sorry
